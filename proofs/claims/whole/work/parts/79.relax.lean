/-! the model's relax, spread -/
theorem gM.q {r : Nat} {σ τ : zS} {T : Nat → Nat} {c : zG} (h : gM σ c) (hq : ∀ q, q ≠ r → τ.1 q = σ.1 q) (hr : 52 ≤ r) : gM τ c := by
  obtain ⟨⟨a1, a2, a3⟩, ⟨b1, b2⟩, ⟨c1, c2, c3⟩, d1, e1⟩ := h
  have g1 : ∀ q, q < 52 → τ.1 q = σ.1 q := fun q h => hq q (by omega)
  unfold gM
  rw [g1 43 (by decide), g1 47 (by decide), g1 48 (by decide), g1 49 (by decide), g1 50 (by decide), g1 51 (by decide)]
  exact ⟨⟨a1, a2, a3⟩, ⟨b1, b2⟩, ⟨c1, c2, c3⟩, d1, e1⟩
theorem pI_spot {c : zG} {tm : Nat → Nat → Nat → Nat} {T : Nat → Nat} (hc : gWf c) (h : ∀ s, s < 1024 → T s < 1000000 → ∃ k, pR (nX c, tm) k s (T s)) {s : Nat} (hs : s < 1024) (hf : T s < 1000000) : s % 4 ≤ cN c := by
  obtain ⟨k, hk⟩ := h s hs hf
  exact (pR_spot hc k s _ hk).2
theorem s_relax (d : Nat) {σ τ : zS} {c : zG} {T : Nat → Nat} (hc : gWf c) (hM : gM σ c) (hq : qM 58 σ τ T) (hI : pI (nG c) T) {s mv : Nat} (hs : s < 1024) (hf : T s < 1000000) (hmv : mv < 32) : z_Ex mX6_relax (d + 3) [.ref 43, .int (nI s), .int (nI4 s mv), .int (nI (mv % 16))] τ (fun rv τ' => ∃ b T', rv = some (.int (z_b b)) ∧ qM 58 σ τ' T' ∧ pSt (nG c) T s mv b T') := by
  have hM' : gM τ c := hM.q (T := T) hq.1 (by decide)
  have hx : mv % 16 < 16 := Nat.mod_lt _ (by decide)
  refine x_enter (by decide) (Nat.le_of_ble_eq_true rfl) ?_
  show z_At _ _ _ [.ref 43, .int (nI s), .int (nI4 s mv), .int (nI (mv % 16)), .null, .null] _ _ _
  refine x_aload0 (pc2 := 1) dX6_relax_0 rfl ?_
  refine x_iload1 (pc2 := 2) dX6_relax_1 rfl ?_
  refine x_iload2 (pc2 := 3) dX6_relax_2 rfl ?_
  refine x_iload3 (pc2 := 4) dX6_relax_3 rfl ?_
  refine x_fV3 (pc2 := 7) eX6_mayGo kX6_188 sh_43 rfl (Nat.le_of_ble_eq_true rfl) dX6_relax_4 rfl (s_mayGo _ _ _ _ _ hM'.1.1 hc.1) ?_
  rw [hM'.1.2.1, hM'.2.2.2.1, hM'.2.1.1, hM'.2.1.2, hM'.1.2.2, nMgo hc hs]
  refine x_if_ne (pc2 := 10) (pc3 := 12) dX6_relax_7 rfl rfl (fun h7 => ?_) (fun h7 => ?_)
  rotate_left
  · rw [z_b0] at h7
    refine x_iconst (v := 0) (pc2 := 11) dX6_relax_10 rfl (by decide) ?_
    refine x_zret dX6_relax_11 rfl (by first | assumption | exact z_b01 _ | exact Or.inl rfl | exact Or.inr rfl) ?_
    exact ⟨false, T, rfl, hq, pSt_none (nX_no h7)⟩
  rw [z_bn0] at h7
  have hsp := pI_spot hc hI.2.1 hs hf
  have he := nX_of hsp h7
  have hlt := nX_lt hc hs he
  obtain ⟨hst, hto⟩ := nSt hc hs he
  generalize hgo : gG s (nV s mv) (mv % 16) 4 = s' at he hlt
  have hfT := (hI.lt hs).resolve_left (by omega)
  have htk := gTk_nat hc hlt.2.2.2 hx (gWet c (T s))
  refine x_iload1 (pc2 := 13) dX6_relax_12 rfl ?_
  refine x_iload2 (pc2 := 14) dX6_relax_13 rfl ?_
  refine x_iload3 (pc2 := 15) dX6_relax_14 rfl ?_
  refine x_fS3 (pc2 := 18) eX6_gone kX6_196 (Nat.le_of_ble_eq_true rfl) dX6_relax_15 rfl (s_gone _ _ _ _ _) ?_
  rw [hto, z_gn_nat hs hlt.2.2.1 hx 4 (by decide), hgo]
  refine x_istore4 (pc2 := 20) dX6_relax_18 rfl rfl ?_
  refine x_aload0 (pc2 := 21) dX6_relax_20 rfl ?_
  refine x_getR (pc2 := 24) fX6_60 sh_43 rfl dX6_relax_21 rfl ?_
  refine x_iload1 (pc2 := 25) dX6_relax_24 rfl ?_
  refine x_iald (pc2 := 26) sh_58 (by exact z_in (by omega)) dX6_relax_25 rfl ?_
  refine x_aload0 (pc2 := 27) dX6_relax_26 rfl ?_
  refine x_iload1 (pc2 := 28) dX6_relax_27 rfl ?_
  refine x_iconst (v := 3) (pc2 := 29) dX6_relax_28 rfl (by decide) ?_
  refine x_iand (pc2 := 30) dX6_relax_29 rfl ?_
  refine x_iload2 (pc2 := 31) dX6_relax_30 rfl ?_
  refine x_iload3 (pc2 := 32) dX6_relax_31 rfl ?_
  refine x_aload0 (pc2 := 33) dX6_relax_32 rfl ?_
  refine x_getR (pc2 := 36) fX6_60 sh_43 rfl dX6_relax_33 rfl ?_
  refine x_iload1 (pc2 := 37) dX6_relax_36 rfl ?_
  refine x_iald (pc2 := 38) sh_58 (by exact z_in (by omega)) dX6_relax_37 rfl ?_
  rw [nI_clamp (by omega), hq.2.2 s hs, eM_nI hf, gb_spot s hs]
  rw [hto] at hst
  refine x_fV4 (pc2 := 41) eX6_takes kX6_193 sh_43 rfl (Nat.le_of_ble_eq_true rfl) dX6_relax_38 rfl (s_takes _ _ _ _ _ _ hM'.1.1 hc.1 (by rw [hst]; exact z_in (by have := hc.2.1; omega))) ?_
  rw [hst, nI_clamp (by have := hc.2.1; omega), hM'.2.2.1.1, hM'.2.2.1.2.1, hM'.2.2.1.2.2, hM'.2.2.2.2, hM'.2.1.2, show z_rains (cR c) (nI (T s)) = gWet c (T s) from rfl, htk.1]
  refine x_iadd (pc2 := 42) dX6_relax_41 rfl ?_
  rw [z_nIadd, show T s + gTk c (nK s mv) (mv % 16) (gWet c (T s)) = T s + (nG c).2 s mv (T s) from rfl]
  have hby : T s + (nG c).2 s mv (T s) < 1000000 := by
    have : (nG c).2 s mv (T s) ≤ 29 := htk.2.2
    omega
  have hT' : T s' < 2 ^ 31 := by have := hI.lt hlt.1; omega
  refine x_istore5 (pc2 := 44) dX6_relax_42 rfl rfl ?_
  refine x_aload0 (pc2 := 45) dX6_relax_44 rfl ?_
  refine x_getR (pc2 := 48) fX6_60 sh_43 rfl dX6_relax_45 rfl ?_
  refine x_iload4 (pc2 := 50) dX6_relax_48 rfl ?_
  refine x_iald (pc2 := 51) sh_58 (by exact z_in (by omega)) dX6_relax_50 rfl ?_
  refine x_bipush (v := -9) (pc2 := 53) dX6_relax_51 rfl (by decide) ?_
  rw [nI_clamp (by omega), hq.2.2 s' hlt.1]
  have hup : T s + (nG c).2 s mv (T s) < T s' → z_At mX6_relax (d + 3) 70 [.ref 43, .int (nI s), .int (nI (nV s mv)), .int (nI (mv % 16)), .int (nI s'), .int (nI (T s + (nG c).2 s mv (T s)))] [] τ (fun rv τ' => ∃ b T', rv = some (.int (z_b b)) ∧ qM 58 σ τ' T' ∧ pSt (nG c) T s mv b T') := by
    intro hl
    refine x_aload0 (pc2 := 71) dX6_relax_70 rfl ?_
    refine x_getR (pc2 := 74) fX6_60 sh_43 rfl dX6_relax_71 rfl ?_
    refine x_iload4 (pc2 := 76) dX6_relax_74 rfl ?_
    refine x_iload5 (pc2 := 78) dX6_relax_76 rfl ?_
    refine x_iast (pc2 := 79) sh_58 (by exact z_in (by omega)) dX6_relax_78 rfl ?_
    rw [nI_clamp (by omega), ← eM_nI hby]
    refine x_iconst (v := 1) (pc2 := 80) dX6_relax_79 rfl (by decide) ?_
    refine x_zret dX6_relax_80 rfl (by first | assumption | exact z_b01 _ | exact Or.inl rfl | exact Or.inr rfl) ?_
    exact ⟨true, _, rfl, hq.up s' _, pSt_up (nG_gr hc) hI hs hf hmv he hl⟩
  refine x_icmp_eq (pc2 := 56) (pc3 := 70) dX6_relax_53 rfl rfl (fun h53 => ?_) (fun h53 => ?_)
  · rw [eM_9 hT'] at h53
    exact hup (by omega)
  · rw [eM_9 hT'] at h53
    have hl := (hI.lt hlt.1).resolve_left h53
    refine x_aload0 (pc2 := 57) dX6_relax_56 rfl ?_
    refine x_getR (pc2 := 60) fX6_60 sh_43 rfl dX6_relax_57 rfl ?_
    refine x_iload4 (pc2 := 62) dX6_relax_60 rfl ?_
    refine x_iald (pc2 := 63) sh_58 (by exact z_in (by omega)) dX6_relax_62 rfl ?_
    refine x_iload5 (pc2 := 65) dX6_relax_63 rfl ?_
    rw [nI_clamp (by omega), hq.2.2 s' hlt.1, eM_nI (by omega)]
    refine x_icmp_gt (pc2 := 68) (pc3 := 70) dX6_relax_65 rfl rfl (fun h65 => ?_) (fun h65 => ?_)
    · rw [nI_lt_iff (by omega) (by omega)] at h65
      exact hup h65
    · rw [nI_lt_iff (by omega) (by omega)] at h65
      refine x_iconst (v := 0) (pc2 := 69) dX6_relax_68 rfl (by decide) ?_
      refine x_zret dX6_relax_69 rfl (by first | assumption | exact z_b01 _ | exact Or.inl rfl | exact Or.inr rfl) ?_
      exact ⟨false, T, rfl, hq, pSt_no he (by omega)⟩
theorem s_spreadM (d : Nat) {σ τ : zS} {c : zG} {T : Nat → Nat} (hc : gWf c) (hM : gM σ c) (hq : qM 59 σ τ T) (hI : pI (nG1 c) T) {s mv : Nat} (hs : s < 1024) (hf : T s < 1000000) (hmv : mv < 32) : z_Ex mX6_spread (d + 3) [.ref 43, .int (nI s), .int (nI4 s mv), .int (nI (mv % 16))] τ (fun rv τ' => ∃ b T', rv = some (.int (z_b b)) ∧ qM 59 σ τ' T' ∧ pSt (nG1 c) T s mv b T') := by
  have hM' : gM τ c := hM.q (T := T) hq.1 (by decide)
  have hx : mv % 16 < 16 := Nat.mod_lt _ (by decide)
  refine x_enter (by decide) (Nat.le_of_ble_eq_true rfl) ?_
  show z_At _ _ _ [.ref 43, .int (nI s), .int (nI4 s mv), .int (nI (mv % 16)), .null] _ _ _
  refine x_aload0 (pc2 := 1) dX6_spread_0 rfl ?_
  refine x_iload1 (pc2 := 2) dX6_spread_1 rfl ?_
  refine x_iload2 (pc2 := 3) dX6_spread_2 rfl ?_
  refine x_iload3 (pc2 := 4) dX6_spread_3 rfl ?_
  refine x_fV3 (pc2 := 7) eX6_mayGo kX6_188 sh_43 rfl (Nat.le_of_ble_eq_true rfl) dX6_spread_4 rfl (s_mayGo _ _ _ _ _ hM'.1.1 hc.1) ?_
  rw [hM'.1.2.1, hM'.2.2.2.1, hM'.2.1.1, hM'.2.1.2, hM'.1.2.2, nMgo hc hs]
  refine x_if_ne (pc2 := 10) (pc3 := 12) dX6_spread_7 rfl rfl (fun h7 => ?_) (fun h7 => ?_)
  rotate_left
  · rw [z_b0] at h7
    refine x_iconst (v := 0) (pc2 := 11) dX6_spread_10 rfl (by decide) ?_
    refine x_zret dX6_spread_11 rfl (by first | assumption | exact z_b01 _ | exact Or.inl rfl | exact Or.inr rfl) ?_
    exact ⟨false, T, rfl, hq, pSt_none (nX_no h7)⟩
  rw [z_bn0] at h7
  have hsp := pI_spot hc hI.2.1 hs hf
  have he := nX_of hsp h7
  have hlt := nX_lt hc hs he
  obtain ⟨hst, hto⟩ := nSt hc hs he
  generalize hgo : gG s (nV s mv) (mv % 16) 4 = s' at he hlt
  have hfT := (hI.lt hs).resolve_left (by omega)
  refine x_iload1 (pc2 := 13) dX6_spread_12 rfl ?_
  refine x_iload2 (pc2 := 14) dX6_spread_13 rfl ?_
  refine x_iload3 (pc2 := 15) dX6_spread_14 rfl ?_
  refine x_fS3 (pc2 := 18) eX6_gone kX6_196 (Nat.le_of_ble_eq_true rfl) dX6_spread_15 rfl (s_gone _ _ _ _ _) ?_
  rw [hto, z_gn_nat hs hlt.2.2.1 hx 4 (by decide), hgo]
  have hby : T s + (nG1 c).2 s mv (T s) < 1000000 := by
    have : (nG1 c).2 s mv (T s) = 1 := rfl
    omega
  have hT' : T s' < 2 ^ 31 := by have := hI.lt hlt.1; omega
  refine x_istore4 (pc2 := 20) dX6_spread_18 rfl rfl ?_
  refine x_aload0 (pc2 := 21) dX6_spread_20 rfl ?_
  refine x_getR (pc2 := 24) fX6_63 sh_43 rfl dX6_spread_21 rfl ?_
  refine x_iload4 (pc2 := 26) dX6_spread_24 rfl ?_
  refine x_iald (pc2 := 27) sh_59 (by exact z_in (by omega)) dX6_spread_26 rfl ?_
  refine x_bipush (v := -9) (pc2 := 29) dX6_spread_27 rfl (by decide) ?_
  rw [nI_clamp (by omega), hq.2.2 s' hlt.1]
  have hup : T s + (nG1 c).2 s mv (T s) < T s' → z_At mX6_spread (d + 3) 52 [.ref 43, .int (nI s), .int (nI (nV s mv)), .int (nI (mv % 16)), .int (nI s')] [] τ (fun rv τ' => ∃ b T', rv = some (.int (z_b b)) ∧ qM 59 σ τ' T' ∧ pSt (nG1 c) T s mv b T') := by
    intro hl
    refine x_aload0 (pc2 := 53) dX6_spread_52 rfl ?_
    refine x_getR (pc2 := 56) fX6_63 sh_43 rfl dX6_spread_53 rfl ?_
    refine x_iload4 (pc2 := 58) dX6_spread_56 rfl ?_
    refine x_aload0 (pc2 := 59) dX6_spread_58 rfl ?_
    refine x_getR (pc2 := 62) fX6_63 sh_43 rfl dX6_spread_59 rfl ?_
    refine x_iload1 (pc2 := 63) dX6_spread_62 rfl ?_
    refine x_iald (pc2 := 64) sh_59 (by exact z_in (by omega)) dX6_spread_63 rfl ?_
    rw [nI_clamp (by omega), hq.2.2 s hs, eM_nI hf]
    refine x_iconst (v := 1) (pc2 := 65) dX6_spread_64 rfl (by decide) ?_
    refine x_iadd (pc2 := 66) dX6_spread_65 rfl ?_
    rw [← nI_succ, show T s + 1 = T s + (nG1 c).2 s mv (T s) from rfl]
    refine x_iast (pc2 := 67) sh_59 (by exact z_in (by omega)) dX6_spread_66 rfl ?_
    rw [nI_clamp (by omega), ← eM_nI hby]
    refine x_iconst (v := 1) (pc2 := 68) dX6_spread_67 rfl (by decide) ?_
    refine x_zret dX6_spread_68 rfl (by first | assumption | exact z_b01 _ | exact Or.inl rfl | exact Or.inr rfl) ?_
    exact ⟨true, _, rfl, hq.up s' _, pSt_up (nG1_gr hc) hI hs hf hmv he hl⟩
  refine x_icmp_eq (pc2 := 32) (pc3 := 52) dX6_spread_29 rfl rfl (fun h29 => ?_) (fun h29 => ?_)
  · rw [eM_9 hT'] at h29
    exact hup (by omega)
  · rw [eM_9 hT'] at h29
    have hl := (hI.lt hlt.1).resolve_left h29
    refine x_aload0 (pc2 := 33) dX6_spread_32 rfl ?_
    refine x_getR (pc2 := 36) fX6_63 sh_43 rfl dX6_spread_33 rfl ?_
    refine x_iload4 (pc2 := 38) dX6_spread_36 rfl ?_
    refine x_iald (pc2 := 39) sh_59 (by exact z_in (by omega)) dX6_spread_38 rfl ?_
    refine x_aload0 (pc2 := 40) dX6_spread_39 rfl ?_
    refine x_getR (pc2 := 43) fX6_63 sh_43 rfl dX6_spread_40 rfl ?_
    refine x_iload1 (pc2 := 44) dX6_spread_43 rfl ?_
    refine x_iald (pc2 := 45) sh_59 (by exact z_in (by omega)) dX6_spread_44 rfl ?_
    rw [nI_clamp (by omega), nI_clamp (by omega), hq.2.2 s' hlt.1, hq.2.2 s hs, eM_nI hf, eM_nI (by omega)]
    refine x_iconst (v := 1) (pc2 := 46) dX6_spread_45 rfl (by decide) ?_
    refine x_iadd (pc2 := 47) dX6_spread_46 rfl ?_
    rw [← nI_succ, show T s + 1 = T s + (nG1 c).2 s mv (T s) from rfl]
    refine x_icmp_gt (pc2 := 50) (pc3 := 52) dX6_spread_47 rfl rfl (fun h47 => ?_) (fun h47 => ?_)
    · rw [nI_lt_iff (by omega) (by omega)] at h47
      exact hup h47
    · rw [nI_lt_iff (by omega) (by omega)] at h47
      refine x_iconst (v := 0) (pc2 := 51) dX6_spread_50 rfl (by decide) ?_
      refine x_zret dX6_spread_51 rfl (by first | assumption | exact z_b01 _ | exact Or.inl rfl | exact Or.inr rfl) ?_
      exact ⟨false, T, rfl, hq, pSt_no he (by omega)⟩
