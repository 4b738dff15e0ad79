/-! the class: trip, help -/
theorem gb_cdiv : ∀ v < 4, ∀ x < 16, nI (v * 16 + x) / 16 = nI v := by decide +kernel
theorem gb_crem : ∀ v < 4, ∀ x < 16, nI (v * 16 + x) - nI (v * 16 + x) / 16 * 16 = nI x := by decide +kernel
theorem gPl.trip {c : zG} (hc : gWf c) {mins : Int32} {n : Nat} {row : Nat → Int32} (hp : gPl c mins n row) {k : Nat} {w v : Int32} (ht : gTr c k w v) : v = if k < n then (if w = 0 then row k / 16 else row k - row k / 16 * 16) else -9 := by
  obtain ⟨p1, p2, p3, p4⟩ := hp
  obtain ⟨T, hD, ht⟩ := ht
  have hg := nG_gr hc
  rcases ht with ⟨h1, h2⟩ | ⟨h1, L, hL, ht⟩
  · rw [p3 T hD h1, if_neg (by omega)]; exact h2
  · obtain ⟨a, b⟩ := p4 T L hD h1 hL
    rcases ht with ⟨h2, h3⟩ | ⟨h2, h3, s0, mv, s1, h4, h5, h6⟩
    · rw [if_neg]
      · exact h3
      · rcases h2 with h2 | h2
        · rw [a h2]; omega
        · by_cases e : L 0 < 1000000
          · rw [(b e).1]; omega
          · rw [a (by have := (hL 0 (by decide)).2.2; omega)]; omega
    · obtain ⟨b1, b2⟩ := b h3
      have hs0 := pQ_lt hg k s0 h4
      have hv := (nX_lt hc hs0 h5.2.1.2.1).2.2.1
      have hx : mv % 16 < 16 := Nat.mod_lt _ (by decide)
      rw [h6, if_pos (show k < n by omega), b2 k (by omega) s0 mv s1 h4 h5, gb_crem _ hv _ hx, gb_cdiv _ hv _ hx]
theorem s_tripC (d : Nat) {σ : zS} {c : zG} (k w : Int32) (hN : σ.1 1 2 = nI (cN c)) (hN3 : cN c ≤ 3) (hcC : 1 ≤ cN c → gWf c ∧ gC 1 σ c ∧ gCh σ c) : z_Ex mX5_trip (d + 7) [.ref 0, .int k, .int w] σ (fun rv τ => gFpl σ τ ∧ (τ.1 0 10 = σ.1 0 10 ∧ τ.1 0 11 = σ.1 0 11) ∧ ((τ = σ ∧ ((k < 0 ∧ rv = some (.int (-1))) ∨ (¬ k < 0 ∧ z_wi w 0 1 = false ∧ rv = some (.int (-2))) ∨ (¬ k < 0 ∧ z_wi w 0 1 = true ∧ cN c = 0 ∧ rv = some (.int (-3))))) ∨ (gCh τ c ∧ ¬ k < 0 ∧ z_wi w 0 1 = true ∧ 1 ≤ cN c ∧ ∃ v, (∀ v', gTr c k.toNatClampNeg w v' → v' = v) ∧ rv = some (.int v)))) := by
  have hrf : gFpl σ σ := gFpl.rf
  refine x_enter (by decide) (Nat.le_of_ble_eq_true rfl) ?_
  show z_At _ _ _ [.ref 0, .int k, .int w] _ _ _
  refine x_iload1 (pc2 := 1) dX5_trip_0 rfl ?_
  refine x_if_ge (pc2 := 4) (pc3 := 6) dX5_trip_1 rfl rfl (fun h1 => ?_) (fun h1 => ?_)
  rotate_left
  · skip
    refine x_iconst (v := -1) (pc2 := 5) dX5_trip_4 rfl (by decide) ?_
    refine x_iret dX5_trip_5 rfl ?_
    exact ⟨hrf, ⟨rfl, rfl⟩, Or.inl ⟨rfl, Or.inl ⟨Int32.not_le.mp h1, rfl⟩⟩⟩
  have hk0 : ¬ k < 0 := Int32.not_lt.mpr h1
  have hbad : z_wi w 0 1 = false → z_At mX5_trip (d + 7) 15 [.ref 0, .int k, .int w] [] σ (fun rv τ => gFpl σ τ ∧ (τ.1 0 10 = σ.1 0 10 ∧ τ.1 0 11 = σ.1 0 11) ∧ ((τ = σ ∧ ((k < 0 ∧ rv = some (.int (-1))) ∨ (¬ k < 0 ∧ z_wi w 0 1 = false ∧ rv = some (.int (-2))) ∨ (¬ k < 0 ∧ z_wi w 0 1 = true ∧ cN c = 0 ∧ rv = some (.int (-3))))) ∨ (gCh τ c ∧ ¬ k < 0 ∧ z_wi w 0 1 = true ∧ 1 ≤ cN c ∧ ∃ v, (∀ v', gTr c k.toNatClampNeg w v' → v' = v) ∧ rv = some (.int v)))) := by
    intro hw
    refine x_bipush (v := -2) (pc2 := 17) dX5_trip_15 rfl (by decide) ?_
    refine x_iret dX5_trip_17 rfl ?_
    exact ⟨hrf, ⟨rfl, rfl⟩, Or.inl ⟨rfl, Or.inr (Or.inl ⟨hk0, hw, rfl⟩)⟩⟩
  refine x_iload2 (pc2 := 7) dX5_trip_6 rfl ?_
  refine x_if_lt (pc2 := 10) (pc3 := 15) dX5_trip_7 rfl rfl (fun h7 => ?_) (fun h7 => ?_)
  · exact hbad (by unfold z_wi; rw [decide_eq_true h7]; rfl)
  refine x_iload2 (pc2 := 11) dX5_trip_10 rfl ?_
  refine x_iconst (v := 1) (pc2 := 12) dX5_trip_11 rfl (by decide) ?_
  refine x_icmp_le (pc2 := 15) (pc3 := 18) dX5_trip_12 rfl rfl (fun h12 => ?_) (fun h12 => ?_)
  rotate_left
  · exact hbad (by unfold z_wi; rw [decide_eq_true (Int32.not_le.mp h12)]; simp)
  have hw : z_wi w 0 1 = true := by
    unfold z_wi
    rw [decide_eq_false h7, decide_eq_false (Int32.not_lt.mpr h12)]
    rfl
  refine x_aload0 (pc2 := 19) dX5_trip_18 rfl ?_
  refine x_getR (pc2 := 22) fX5_12 sh_0 rfl dX5_trip_19 rfl ?_
  refine x_fV0 (pc2 := 25) eX0_isThere kX5_114 sh_1 rfl (Nat.le_of_ble_eq_true rfl) dX5_trip_22 rfl (s_isThere _ _ z_P1) ?_
  rw [hN, z_pos_nat (by omega)]
  refine x_if_ne (pc2 := 28) (pc3 := 31) dX5_trip_25 rfl rfl (fun h25 => ?_) (fun h25 => ?_)
  rotate_left
  · rw [z_b0] at h25
    have := of_decide_eq_false h25
    refine x_bipush (v := -3) (pc2 := 30) dX5_trip_28 rfl (by decide) ?_
    refine x_iret dX5_trip_30 rfl ?_
    exact ⟨hrf, ⟨rfl, rfl⟩, Or.inl ⟨rfl, Or.inr (Or.inr ⟨hk0, hw, by omega, rfl⟩)⟩⟩
  rw [z_bn0] at h25
  have hN1 := of_decide_eq_true h25
  obtain ⟨hc, hC, hch⟩ := hcC hN1
  obtain ⟨kn, hkn, rfl⟩ := nI_of hk0
  rw [nI_clamp hkn]
  refine x_aload0 (pc2 := 32) dX5_trip_31 rfl ?_
  refine x_cV0 eX5_makePlan kX5_174 sh_0 rfl (Nat.le_of_ble_eq_true rfl) dX5_trip_32 ?_
  refine (s_makePlan d hc hC hch).mono ?_
  rintro rv τ ⟨rfl, hF, h1011, h9, n, h8, hpl⟩
  show z_At _ _ 35 _ [] _ _
  have hn := hpl.2.1
  have hfin : ∀ v, v = (if kn < n then (if w = 0 then τ.1 42 kn / 16 else τ.1 42 kn - τ.1 42 kn / 16 * 16) else -9) → (gFpl σ τ ∧ (τ.1 0 10 = σ.1 0 10 ∧ τ.1 0 11 = σ.1 0 11) ∧ ((τ = σ ∧ ((nI kn < 0 ∧ some (Value.int v) = some (.int (-1))) ∨ (¬ nI kn < 0 ∧ z_wi w 0 1 = false ∧ some (Value.int v) = some (.int (-2))) ∨ (¬ nI kn < 0 ∧ z_wi w 0 1 = true ∧ cN c = 0 ∧ some (Value.int v) = some (.int (-3))))) ∨ (gCh τ c ∧ ¬ nI kn < 0 ∧ z_wi w 0 1 = true ∧ 1 ≤ cN c ∧ ∃ v2, (∀ v', gTr c kn w v' → v' = v2) ∧ some (Value.int v) = some (.int v2)))) := by
    intro v hv
    exact ⟨hF, h1011, Or.inr ⟨Or.inr ⟨h9, n, h8, hpl⟩, hk0, hw, hN1, v, fun v' ht => by rw [hv]; exact hpl.trip hc ht, rfl⟩⟩
  refine x_iload1 (pc2 := 36) dX5_trip_35 rfl ?_
  refine x_aload0 (pc2 := 37) dX5_trip_36 rfl ?_
  refine x_getI (pc2 := 40) fX5_180 sh_0 rfl dX5_trip_37 rfl ?_
  rw [h8]
  refine x_icmp_lt (pc2 := 43) (pc3 := 46) dX5_trip_40 rfl rfl (fun h40 => ?_) (fun h40 => ?_)
  rotate_left
  · rw [nI_lt_iff hkn (by omega)] at h40
    refine x_bipush (v := -9) (pc2 := 45) dX5_trip_43 rfl (by decide) ?_
    refine x_iret dX5_trip_45 rfl ?_
    exact hfin _ (by rw [if_neg h40])
  rw [nI_lt_iff hkn (by omega)] at h40
  refine x_iload2 (pc2 := 47) dX5_trip_46 rfl ?_
  refine x_if_ne (pc2 := 50) (pc3 := 62) dX5_trip_47 rfl rfl (fun h47 => ?_) (fun h47 => ?_)
  · skip
    refine x_aload0 (pc2 := 63) dX5_trip_62 rfl ?_
    refine x_getR (pc2 := 66) fX5_48 sh_0 rfl dX5_trip_63 rfl ?_
    refine x_iload1 (pc2 := 67) dX5_trip_66 rfl ?_
    refine x_iald (pc2 := 68) sh_42 (by exact z_in (by omega)) dX5_trip_67 rfl ?_
    rw [nI_clamp (by omega)]
    refine x_bipush (v := 16) (pc2 := 70) dX5_trip_68 rfl (by decide) ?_
    refine x_irem (pc2 := 71) dX5_trip_70 rfl (by decide) ?_
    refine x_iret dX5_trip_71 rfl ?_
    exact hfin _ (by rw [if_pos h40, if_neg h47])
  · skip
    refine x_aload0 (pc2 := 51) dX5_trip_50 rfl ?_
    refine x_getR (pc2 := 54) fX5_48 sh_0 rfl dX5_trip_51 rfl ?_
    refine x_iload1 (pc2 := 55) dX5_trip_54 rfl ?_
    refine x_iald (pc2 := 56) sh_42 (by exact z_in (by omega)) dX5_trip_55 rfl ?_
    rw [nI_clamp (by omega)]
    refine x_bipush (v := 16) (pc2 := 58) dX5_trip_56 rfl (by decide) ?_
    refine x_idiv (pc2 := 59) dX5_trip_58 rfl (by decide) ?_
    refine x_goto (pc2 := 71) dX5_trip_59 rfl ?_
    refine x_iret dX5_trip_71 rfl ?_
    exact hfin _ (by rw [if_pos h40, if_pos h47])
/-- what cost and help may write, too: the draft -/
def gFpd (σ τ : zS) : Prop := (∀ q, q ≠ 0 → ¬ (7 ≤ q ∧ q ≤ 12) → q < 31 ∨ 42 < q → τ.1 q = σ.1 q) ∧ (∀ j, j ≠ 7 → j ≠ 8 → j ≠ 9 → j ≠ 10 → j ≠ 11 → τ.1 0 j = σ.1 0 j) ∧ τ.2 = σ.2
theorem gFpl.d {σ τ : zS} (h : gFpl σ τ) : gFpd σ τ := ⟨fun q a _ b => h.1 q a b, h.2⟩
theorem gDr.bears {σ : zS} {c : zG} (h : gDr σ c) (v : Int32) : gDr (z_st σ 7 0 v) (cSB c v) := by
  obtain ⟨c', hC, he⟩ := h
  obtain ⟨⟨a1, a2, a3⟩, ⟨b1, b2⟩, ⟨d1, d2, d3⟩, e1, f1⟩ := hC
  refine ⟨cSB c' v, ⟨⟨?_, ?_, a3⟩, ⟨?_, ?_⟩, ⟨?_, ?_, ?_⟩, ?_, ?_⟩, he.sb v⟩
  · rw [z_st_fld _ _ _ (by decide)]; exact a1
  · rw [z_st_fld _ _ _ (by decide)]; exact a2
  · rw [z_st_row _ _ _ (by decide)]; exact b1
  · rw [z_st_row _ _ _ (by decide)]; exact b2
  · rw [z_st_row _ _ _ (by decide)]; exact d1
  · rw [z_st_row _ _ _ (by decide)]; exact d2
  · rw [z_st_row _ _ _ (by decide)]; exact d3
  · rw [z_st_at]; rfl
  · rw [z_st_fld _ _ _ (by decide)]; exact f1
theorem s_helpC (d : Nat) {σ : zS} {c : zG} (w : Int32) (hN : σ.1 1 2 = nI (cN c)) (hN3 : cN c ≤ 3) (hcC : 1 ≤ cN c → gWf c ∧ gC 1 σ c ∧ gCh σ c) (hB : 1 ≤ cN c → ∃ b, b ≤ 36 ∧ cB c = nI b) (hbd : ∀ j, j < 3 → σ.1 4 j = 0 ∨ σ.1 4 j = 1) : z_Ex mX5_help (d + 7) [.ref 0, .int w] σ (fun rv τ => gFpd σ τ ∧ (τ.1 0 10 = σ.1 0 10 ∧ τ.1 0 11 = σ.1 0 11) ∧ ((τ = σ ∧ ((z_wi w 0 36 = false ∧ rv = some (.int (-2))) ∨ (z_wi w 0 36 = true ∧ cN c = 0 ∧ rv = some (.int (-3))))) ∨ (gCh τ c ∧ z_wi w 0 36 = true ∧ 1 ≤ cN c ∧ gWf (cSB c (cB c + w)) ∧ ∃ v, (∀ v', gHe c w v' → v' = v) ∧ rv = some (.int v)))) := by
  have hrf : gFpd σ σ := gFpl.rf.d
  refine x_enter (by decide) (Nat.le_of_ble_eq_true rfl) ?_
  show z_At _ _ _ [.ref 0, .int w, .null] _ _ _
  have hbad : z_wi w 0 36 = false → z_At mX5_help (d + 7) 10 [.ref 0, .int w, .null] [] σ (fun rv τ => gFpd σ τ ∧ (τ.1 0 10 = σ.1 0 10 ∧ τ.1 0 11 = σ.1 0 11) ∧ ((τ = σ ∧ ((z_wi w 0 36 = false ∧ rv = some (.int (-2))) ∨ (z_wi w 0 36 = true ∧ cN c = 0 ∧ rv = some (.int (-3))))) ∨ (gCh τ c ∧ z_wi w 0 36 = true ∧ 1 ≤ cN c ∧ gWf (cSB c (cB c + w)) ∧ ∃ v, (∀ v', gHe c w v' → v' = v) ∧ rv = some (.int v)))) := by
    intro hw
    refine x_bipush (v := -2) (pc2 := 12) dX5_help_10 rfl (by decide) ?_
    refine x_iret dX5_help_12 rfl ?_
    exact ⟨hrf, ⟨rfl, rfl⟩, Or.inl ⟨rfl, Or.inl ⟨hw, rfl⟩⟩⟩
  refine x_iload1 (pc2 := 1) dX5_help_0 rfl ?_
  refine x_if_lt (pc2 := 4) (pc3 := 10) dX5_help_1 rfl rfl (fun h1 => ?_) (fun h1 => ?_)
  · exact hbad (by unfold z_wi; rw [decide_eq_true h1]; rfl)
  refine x_iload1 (pc2 := 5) dX5_help_4 rfl ?_
  refine x_bipush (v := 36) (pc2 := 7) dX5_help_5 rfl (by decide) ?_
  refine x_icmp_le (pc2 := 10) (pc3 := 13) dX5_help_7 rfl rfl (fun h7 => ?_) (fun h7 => ?_)
  rotate_left
  · exact hbad (by unfold z_wi; rw [decide_eq_true (Int32.not_le.mp h7)]; simp)
  have hw : z_wi w 0 36 = true := by
    unfold z_wi
    rw [decide_eq_false h1, decide_eq_false (Int32.not_lt.mpr h7)]
    rfl
  refine x_aload0 (pc2 := 14) dX5_help_13 rfl ?_
  refine x_getR (pc2 := 17) fX5_12 sh_0 rfl dX5_help_14 rfl ?_
  refine x_fV0 (pc2 := 20) eX0_isThere kX5_114 sh_1 rfl (Nat.le_of_ble_eq_true rfl) dX5_help_17 rfl (s_isThere _ _ z_P1) ?_
  rw [hN, z_pos_nat (by omega)]
  refine x_if_ne (pc2 := 23) (pc3 := 26) dX5_help_20 rfl rfl (fun h20 => ?_) (fun h20 => ?_)
  rotate_left
  · rw [z_b0] at h20
    have := of_decide_eq_false h20
    refine x_bipush (v := -3) (pc2 := 25) dX5_help_23 rfl (by decide) ?_
    refine x_iret dX5_help_25 rfl ?_
    exact ⟨hrf, ⟨rfl, rfl⟩, Or.inl ⟨rfl, Or.inr ⟨hw, by omega, rfl⟩⟩⟩
  rw [z_bn0] at h20
  have hN1 := of_decide_eq_true h20
  obtain ⟨hc, hC, hch⟩ := hcC hN1
  obtain ⟨b, hb, eb⟩ := hB hN1
  have hE := nE_lt hc
  obtain ⟨wn, hwn, ew⟩ : ∃ wn, wn ≤ 36 ∧ w = nI wn := by
    obtain ⟨j, hj, rfl⟩ := nI_of h1
    rw [show (36 : Int32) = nI 36 from rfl, nI_le_iff hj (by decide)] at h7
    exact ⟨j, h7, rfl⟩
  have hc2 : gWf (cSB c (cB c + w)) := by
    rw [eb, ew, z_nIadd]
    exact cSB_wf hc (by omega)
  refine x_aload0 (pc2 := 27) dX5_help_26 rfl ?_
  refine x_cV0 eX5_makePlan kX5_174 sh_0 rfl (Nat.le_of_ble_eq_true rfl) dX5_help_27 ?_
  refine (s_makePlan d hc hC hch).mono ?_
  rintro rv τ ⟨rfl, hF, h1011, h9, n, h8, hpl⟩
  show z_At _ _ 30 _ [] _ _
  have hch1 : gCh τ c := Or.inr ⟨h9, n, h8, hpl⟩
  generalize hmi : τ.1 0 7 = mi at hpl
  refine x_aload0 (pc2 := 31) dX5_help_30 rfl ?_
  refine x_getI (pc2 := 34) fX5_177 sh_0 rfl dX5_help_31 rfl ?_
  refine x_bipush (v := -9) (pc2 := 36) dX5_help_34 rfl (by decide) ?_
  rw [hmi]
  refine x_icmp_ne (pc2 := 39) (pc3 := 42) dX5_help_36 rfl rfl (fun h36 => ?_) (fun h36 => ?_)
  rotate_left
  · skip
    refine x_bipush (v := -9) (pc2 := 41) dX5_help_39 rfl (by decide) ?_
    refine x_iret dX5_help_41 rfl ?_
    exact ⟨hF.d, h1011, Or.inr ⟨hch1, hw, hN1, hc2, -9, fun v' hh => by
      obtain ⟨T, T', q1, q2, q3⟩ := hh
      have e1 := hpl.1 T q1
      rcases q3 with q3 | q3
      · exact q3.2
      · rw [h36, eM_nI q3.1] at e1
        exact absurd e1.symm (nI_n9 (by omega)), rfl⟩⟩
  have hC1 := gC1_fp hC hF
  refine x_aload0 (pc2 := 43) dX5_help_42 rfl ?_
  refine x_getR (pc2 := 46) fX5_18 sh_0 rfl dX5_help_43 rfl ?_
  refine x_aload0 (pc2 := 47) dX5_help_46 rfl ?_
  refine x_getR (pc2 := 50) fX5_12 sh_0 rfl dX5_help_47 rfl ?_
  refine x_cV1 eX0_become kX5_79 sh_7 rfl (Nat.le_of_ble_eq_true rfl) dX5_help_50 ?_
  refine (s_become _ (Or.inr ⟨rfl, rfl⟩) (fun j hj => by rw [hF.1 4 (by decide) (by omega)]; exact hbd j hj)).mono ?_
  rintro rv τ2 ⟨rfl, hBc⟩
  show z_At _ _ 53 _ [] _ _
  have hDr := hBc.dr hc hC1
  have e70 : τ2.1 7 0 = cB c := by
    obtain ⟨c', x1, x2⟩ := hDr
    rw [x1.2.2.2.1, ← x2.2.2.2.2.2.1]
  refine x_aload0 (pc2 := 54) dX5_help_53 rfl ?_
  refine x_getR (pc2 := 57) fX5_18 sh_0 rfl dX5_help_54 rfl ?_
  refine x_dup (pc2 := 58) dX5_help_57 rfl rfl ?_
  refine x_getI (pc2 := 61) fX5_118 sh_7 rfl dX5_help_58 rfl ?_
  refine x_iload1 (pc2 := 62) dX5_help_61 rfl ?_
  refine x_iadd (pc2 := 63) dX5_help_62 rfl ?_
  refine x_putI (pc2 := 66) pX5_118 sh_7 rfl dX5_help_63 rfl ?_
  rw [e70]
  obtain ⟨c2, hC2, hq2⟩ := hDr.bears (cB c + w)
  have hcw2 := hq2.wf hc2
  refine x_aload0 (pc2 := 67) dX5_help_66 rfl ?_
  refine x_getR (pc2 := 70) fX5_44 sh_0 rfl dX5_help_67 rfl ?_
  refine x_aload0 (pc2 := 71) dX5_help_70 rfl ?_
  refine x_getR (pc2 := 74) fX5_18 sh_0 rfl dX5_help_71 rfl ?_
  refine x_iconst (v := 0) (pc2 := 75) dX5_help_74 rfl (by decide) ?_
  refine x_cV2 eX2_least kX5_187 sh_31 rfl (Nat.le_of_ble_eq_true rfl) dX5_help_75 ?_
  refine (s_least (d + 1) z_P7 (b := false) hcw2 hC2).mono ?_
  rintro rv τ3 ⟨hF3, hR⟩
  obtain ⟨v3, rfl⟩ : ∃ v, rv = some (.int v) := by
    obtain ⟨T, h⟩ := hR
    rcases h with h | ⟨now, O, h, -⟩
    · exact ⟨_, h.1⟩
    · exact ⟨_, h⟩
  show z_At _ _ 78 _ [.int v3] _ _
  have hmin := sR_least hcw2 hR
  have hmin2 : ∀ T, pD (nG (cSB c (cB c + w))) 1000000 T → v3 = eM (T (nE c)) := fun T hT => by
    have := hmin T ((hq2.q hc2).D (nG_gr hc2) hT)
    rw [← hq2.e] at this
    exact this
  have r0 : τ3.1 0 = τ.1 0 := by rw [hF3.1 0 (by omega), z_st_row _ _ _ (by decide), hBc.1 0 (by omega)]
  have r42 : τ3.1 42 = τ.1 42 := by rw [hF3.1 42 (by omega), z_st_row _ _ _ (by decide), hBc.1 42 (by omega)]
  have hFd : gFpd σ τ3 := by
    refine ⟨fun q a1 a2 a3 => ?_, fun j a1 a2 a3 a4 a5 => ?_, ?_⟩
    · rw [hF3.1 q (by omega), z_st_row _ _ _ (by omega), hBc.1 q (by omega), hF.1 q a1 a3]
    · rw [r0, hF.2.1 j a1 a2 a3 a4 a5]
    · rw [hF3.2]
      show τ2.2 = _
      rw [hBc.2.1, hF.2.2]
  have hch3 : gCh τ3 c := by
    unfold gCh
    rw [r0, r42]
    exact hch1
  have h1011' : τ3.1 0 10 = σ.1 0 10 ∧ τ3.1 0 11 = σ.1 0 11 := by rw [r0]; exact h1011
  refine x_istore2 (pc2 := 79) dX5_help_78 rfl rfl ?_
  refine x_iload2 (pc2 := 80) dX5_help_79 rfl ?_
  refine x_bipush (v := -9) (pc2 := 82) dX5_help_80 rfl (by decide) ?_
  refine x_icmp_ne (pc2 := 85) (pc3 := 90) dX5_help_82 rfl rfl (fun h82 => ?_) (fun h82 => ?_)
  rotate_left
  · skip
    refine x_bipush (v := -9) (pc2 := 87) dX5_help_85 rfl (by decide) ?_
    refine x_goto (pc2 := 96) dX5_help_87 rfl ?_
    refine x_iret dX5_help_96 rfl ?_
    refine ⟨hFd, h1011', Or.inr ⟨hch3, hw, hN1, hc2, -9, fun v' hh => ?_, rfl⟩⟩
    obtain ⟨T, T', q1, q2, q3⟩ := hh
    have e1 := hmin2 T' q2
    rcases q3 with q3 | q3
    · exact q3.2
    · rw [h82, eM_nI q3.2.1] at e1
      exact absurd e1.symm (nI_n9 (by omega))
  · skip
    refine x_aload0 (pc2 := 91) dX5_help_90 rfl ?_
    refine x_getI (pc2 := 94) fX5_177 sh_0 rfl dX5_help_91 rfl ?_
    rw [r0, hmi]
    refine x_iload2 (pc2 := 95) dX5_help_94 rfl ?_
    refine x_isub (pc2 := 96) dX5_help_95 rfl ?_
    refine x_iret dX5_help_96 rfl ?_
    refine ⟨hFd, h1011', Or.inr ⟨hch3, hw, hN1, hc2, _, fun v' hh => ?_, rfl⟩⟩
    obtain ⟨T, T', q1, q2, q3⟩ := hh
    have e1 := hpl.1 T q1
    have e2 := hmin2 T' q2
    rcases q3 with ⟨q3 | q3, -⟩ | q3
    · rw [q3] at e1; exact absurd e1 h36
    · rw [q3] at e2; exact absurd e2 h82
    · rw [eM_nI q3.1] at e1
      rw [eM_nI q3.2.1] at e2
      rw [e1, e2]
      exact q3.2.2
