/-! dry of both -/
def z_dryO (c : zG) (n : Nat) (to x : Nat → Nat) (w : Int32) : Int64 := match wW c to x n with
  | some _ => -9223372036854775808
  | none => lN (if w = 0 then wU c to x n / Nat.gcd (wL x n) (wU c to x n) else wL x n / Nat.gcd (wL x n) (wU c to x n))
theorem s_dryC (d : Nat) (σ σ0 : zS) (hσ : σ0 = z_f0 σ) (sh la i n w : Int32) {N K : Nat} (hN : σ0.1 1 2 = nI N) (hN3 : N ≤ 3) (hK : σ0.1 1 6 = nI K) (hK4 : K ≤ 4) (hz : vp_in sh 4 → ∃ z : Nat, σ0.1 (14 + sh.toNatClampNeg) 1 = nI z ∧ z ≤ 60) {c : zG} (hcf : 1 ≤ N → gWf c ∧ gC 1 σ0 c) (hb0 : σ0.1 29 0 = 0) (a : Int32) (ha : a = z_b (decide (w = 0) || decide (w = 1))) : z_Ex mX5_dry (d + 4) [.ref 0, .int sh, .int la, .int i, .int n, .int w] σ (fun rv τ => rv = some (.long (if z_tC σ0 sh la i n a = 0 then z_dryO c n.toNatClampNeg (z_to (σ0.1 (14 + sh.toNatClampNeg + 4)) i.toNatClampNeg) (z_xs (σ0.1 (14 + sh.toNatClampNeg + 4)) i.toNatClampNeg) w else -9223372036854775808)) ∧ gFw σ0 τ ((z_tF σ0 sh la i n a).1 0 13)) := by
  refine x_enter (by decide) (Nat.le_of_ble_eq_true rfl) ?_
  show z_At _ _ _ [.ref 0, .int sh, .int la, .int i, .int n, .int w] _ _ _
  refine x_aload0 (pc2 := 1) dX5_dry_0 rfl ?_
  refine x_iconst (v := 0) (pc2 := 2) dX5_dry_1 rfl (by decide) ?_
  refine x_putI (pc2 := 5) pX5_53 sh_0 rfl dX5_dry_2 rfl ?_
  rw [show z_st σ 0 13 0 = σ0 from hσ.symm]
  clear hσ
  suffices hgo : z_At mX5_dry (d + 4) 27 [.ref 0, .int sh, .int la, .int i, .int n, .int w] [.int a, .int n, .int i, .int la, .int sh, .ref 0] σ0 (fun rv τ => rv = some (.long (if z_tC σ0 sh la i n a = 0 then z_dryO c n.toNatClampNeg (z_to (σ0.1 (14 + sh.toNatClampNeg + 4)) i.toNatClampNeg) (z_xs (σ0.1 (14 + sh.toNatClampNeg + 4)) i.toNatClampNeg) w else -9223372036854775808)) ∧ gFw σ0 τ ((z_tF σ0 sh la i n a).1 0 13)) by
    refine x_aload0 (pc2 := 6) dX5_dry_5 rfl ?_
    refine x_iload1 (pc2 := 7) dX5_dry_6 rfl ?_
    refine x_iload2 (pc2 := 8) dX5_dry_7 rfl ?_
    refine x_iload3 (pc2 := 9) dX5_dry_8 rfl ?_
    refine x_iload4 (pc2 := 11) dX5_dry_9 rfl ?_
    refine x_iload5 (pc2 := 13) dX5_dry_11 rfl ?_
    refine x_if_eq (pc2 := 16) (pc3 := 22) dX5_dry_13 rfl rfl (fun h13 => ?_) (fun h13 => ?_)
    · have e : a = 1 := by rw [ha, h13]; rfl
      rw [e] at hgo ⊢
      refine x_iconst (v := 1) (pc2 := 23) dX5_dry_22 rfl (by decide) ?_
      refine x_goto (pc2 := 27) dX5_dry_23 rfl ?_
      exact hgo
    · skip
      refine x_iload5 (pc2 := 18) dX5_dry_16 rfl ?_
      refine x_iconst (v := 1) (pc2 := 19) dX5_dry_18 rfl (by decide) ?_
      refine x_icmp_ne (pc2 := 22) (pc3 := 26) dX5_dry_19 rfl rfl (fun h19 => ?_) (fun h19 => ?_)
      · have e : a = 0 := by rw [ha]; simp [h13, h19, z_b]
        rw [e] at hgo ⊢
        refine x_iconst (v := 0) (pc2 := 27) dX5_dry_26 rfl (by decide) ?_
        exact hgo
      · have e : a = 1 := by rw [ha, h19]; rfl
        rw [e] at hgo ⊢
        refine x_iconst (v := 1) (pc2 := 23) dX5_dry_22 rfl (by decide) ?_
        refine x_goto (pc2 := 27) dX5_dry_23 rfl ?_
        exact hgo
  refine x_cV5 eX5_takeTrips kX5_130 sh_0 rfl (Nat.le_of_ble_eq_true rfl) dX5_dry_27 ?_
  refine (s_takeTrips (d + 1) sh la i n a hN hN3 hK hK4 hz).mono ?_
  rintro rv τ ⟨rfl, hF, hT⟩
  show z_At _ _ 30 _ [.int _] _ _
  refine x_if_eq (pc2 := 33) (pc3 := 37) dX5_dry_30 rfl rfl (fun h30 => ?_) (fun h30 => ?_)
  rotate_left
  · skip
    refine x_ldc2 (pc2 := 36) (by decide +kernel : Cond.constantLong RX5 157 (-9223372036854775808) ∈ lw_tbl) dX5_dry_33 rfl ?_
    refine x_lret dX5_dry_36 rfl ?_
    rw [if_neg h30]
    exact ⟨rfl, hF.w⟩
  have hT := hT h30
  obtain ⟨g1, g2, g3, g4⟩ := z_tC_0 h30
  rw [if_pos h30]
  have hN1 : 1 ≤ N := by
    rw [hN] at g1
    unfold z_pos at g1
    rcases Nat.eq_zero_or_pos N with q | q
    · subst q; exact absurd g1 (by decide)
    · exact q
  obtain ⟨hc, hC⟩ := hcf hN1
  have hcN : cN c = N := nI_inj (by have := hc.2.1; omega) (by omega) (by rw [← hC.1.2.1, hN])
  rw [hN, hK] at g2
  have hF1 := hF.w
  have hC1 : gC 1 τ c := hC.w hF1
  have hb1 : τ.1 29 0 = 0 := by rw [hF1.2.2.2.1]; exact hb0
  have hvN := z_ck_to hN3 g2
  have hxs := z_xs_lt (σ0.1 (14 + sh.toNatClampNeg + 4)) i.toNatClampNeg
  generalize z_to (σ0.1 (14 + sh.toNatClampNeg + 4)) i.toNatClampNeg = to at *
  generalize z_xs (σ0.1 (14 + sh.toNatClampNeg + 4)) i.toNatClampNeg = x at *
  generalize n.toNatClampNeg = n' at *
  have h18 := hT.2.1
  refine x_aload0 (pc2 := 38) dX5_dry_37 rfl ?_
  refine x_getR (pc2 := 41) fX5_37 sh_0 rfl dX5_dry_38 rfl ?_
  refine x_aload0 (pc2 := 42) dX5_dry_41 rfl ?_
  refine x_getR (pc2 := 45) fX5_12 sh_0 rfl dX5_dry_42 rfl ?_
  refine x_cV1 eX4_go kX5_134 sh_26 rfl (Nat.le_of_ble_eq_true rfl) dX5_dry_45 ?_
  refine (s_goC d z_P1 hc hC1 hT hxs (fun k hk => by rw [hcN]; exact hvN k hk) hb1).mono ?_
  rintro rv υ ⟨rfl, hFc, hwr, hJ⟩
  show z_At _ _ 48 _ [] _ _
  have hF2 := hF1.c hFc
  unfold z_dryO
  refine x_aload0 (pc2 := 49) dX5_dry_48 rfl ?_
  refine x_getR (pc2 := 52) fX5_37 sh_0 rfl dX5_dry_49 rfl ?_
  refine x_getI (pc2 := 55) fX5_137 sh_26 rfl dX5_dry_52 rfl ?_
  refine x_bipush (v := -9) (pc2 := 57) dX5_dry_55 rfl (by decide) ?_
  rw [hwr]
  refine x_icmp_eq (pc2 := 60) (pc3 := 64) dX5_dry_57 rfl rfl (fun h57 => ?_) (fun h57 => ?_)
  rotate_left
  · rw [wR_none (fun k hk => by have := wW_lt _ _ hk; omega)] at h57
    refine x_ldc2 (pc2 := 63) (by decide +kernel : Cond.constantLong RX5 157 (-9223372036854775808) ∈ lw_tbl) dX5_dry_60 rfl ?_
    refine x_lret dX5_dry_63 rfl ?_
    cases e : wW c to x n' with
    | none => exact absurd e h57
    | some k => exact ⟨rfl, hF2⟩
  rw [wR_none (fun k hk => by have := wW_lt _ _ hk; omega)] at h57
  obtain ⟨-, u1, u2⟩ := hJ h57
  rw [h57]
  refine x_iload5 (pc2 := 66) dX5_dry_64 rfl ?_
  refine x_if_ne (pc2 := 69) (pc3 := 79) dX5_dry_66 rfl rfl (fun h66 => ?_) (fun h66 => ?_)
  · skip
    refine x_aload0 (pc2 := 80) dX5_dry_79 rfl ?_
    refine x_getR (pc2 := 83) fX5_37 sh_0 rfl dX5_dry_80 rfl ?_
    refine x_getL (pc2 := 86) fX5_163 sh_26 rfl dX5_dry_83 rfl ?_
    rw [u2]
    refine x_lret dX5_dry_86 rfl ?_
    exact ⟨by simp only [if_neg h66], hF2⟩
  · skip
    refine x_aload0 (pc2 := 70) dX5_dry_69 rfl ?_
    refine x_getR (pc2 := 73) fX5_37 sh_0 rfl dX5_dry_70 rfl ?_
    refine x_getL (pc2 := 76) fX5_159 sh_26 rfl dX5_dry_73 rfl ?_
    refine x_goto (pc2 := 86) dX5_dry_76 rfl ?_
    rw [u1]
    refine x_lret dX5_dry_86 rfl ?_
    exact ⟨by simp only [if_pos h66], hF2⟩
theorem s_dryM (d : Nat) (σ σ0 : zS) (hσ : σ0 = z_g0 σ) (sh la i n w : Int32) {N K : Nat} (hN : σ0.1 43 6 = nI N) (hN3 : N ≤ 3) (hK : σ0.1 43 7 = nI K) (hK4 : K ≤ 4) (hz : vp_in sh 4 → σ0.1 44 sh.toNatClampNeg ≠ -9 → ∃ z : Nat, σ0.1 45 sh.toNatClampNeg = nI z ∧ z ≤ 60) {c : zG} (hcf : 1 ≤ N → gWf c ∧ gM σ0 c) (a : Int32) (ha : a = z_b (z_wi w 0 1)) : z_Ex mX6_dry (d + 4) [.ref 43, .int sh, .int la, .int i, .int n, .int w] σ (fun rv τ => rv = some (.long (if z_mC σ0 sh la i n a = 0 then z_dryO c n.toNatClampNeg (z_to (z_row σ0 sh.toNatClampNeg) i.toNatClampNeg) (z_xs (z_row σ0 sh.toNatClampNeg) i.toNatClampNeg) w else -9223372036854775808)) ∧ gFv σ0 τ ((z_mF σ0 sh la i n a).1 43 0)) := by
  refine x_enter (by decide) (Nat.le_of_ble_eq_true rfl) ?_
  show z_At _ _ _ [.ref 43, .int sh, .int la, .int i, .int n, .int w] _ _ _
  refine x_aload0 (pc2 := 1) dX6_dry_0 rfl ?_
  refine x_iconst (v := 0) (pc2 := 2) dX6_dry_1 rfl (by decide) ?_
  refine x_putI (pc2 := 5) pX6_75 sh_43 rfl dX6_dry_2 rfl ?_
  rw [show z_st σ 43 0 0 = σ0 from hσ.symm]
  clear hσ
  have hbad : ¬ z_mC σ0 sh la i n a = 0 → z_mF σ0 sh la i n a = σ0 → z_At mX6_dry (d + 4) 31 [.ref 43, .int sh, .int la, .int i, .int n, .int w] [] σ0 (fun rv τ => rv = some (.long (if z_mC σ0 sh la i n a = 0 then z_dryO c n.toNatClampNeg (z_to (z_row σ0 sh.toNatClampNeg) i.toNatClampNeg) (z_xs (z_row σ0 sh.toNatClampNeg) i.toNatClampNeg) w else -9223372036854775808)) ∧ gFv σ0 τ ((z_mF σ0 sh la i n a).1 43 0)) := by
    intro q1 q2
    rw [if_neg q1, q2]
    refine x_ldc2 (pc2 := 34) (by decide +kernel : Cond.constantLong RX6 78 (-9223372036854775808) ∈ lw_tbl) dX6_dry_31 rfl ?_
    refine x_lret dX6_dry_34 rfl ?_
    exact ⟨rfl, gFv.rf⟩
  refine x_iload1 (pc2 := 6) dX6_dry_5 rfl ?_
  refine x_fS1 (pc2 := 9) eX6_isSheet kX6_93 (Nat.le_of_ble_eq_true rfl) dX6_dry_6 rfl (s_isSheetM _ _ _) ?_
  refine x_if_eq (pc2 := 12) (pc3 := 31) dX6_dry_9 rfl rfl (fun h9 => ?_) (fun h9 => ?_)
  · have h9' := z_b0.mp h9
    exact hbad (by unfold z_mC; rw [if_pos h9']; decide) (by unfold z_mF; rw [if_pos h9'])
  have h9' : ¬ z_wi sh 0 3 = false := by rw [z_bn0.mp h9]; decide
  have hsh := z_in_sh h9
  refine x_iload2 (pc2 := 13) dX6_dry_12 rfl ?_
  refine x_iload4 (pc2 := 15) dX6_dry_13 rfl ?_
  refine x_fS2 (pc2 := 18) eX6_arePairs kX6_199 (Nat.le_of_ble_eq_true rfl) dX6_dry_15 rfl (s_arePairs _ _ _ _) ?_
  refine x_if_eq (pc2 := 21) (pc3 := 31) dX6_dry_18 rfl rfl (fun h18 => ?_) (fun h18 => ?_)
  · have h18' := z_b0.mp h18
    exact hbad (by unfold z_mC; rw [if_neg h9', if_pos (Or.inl h18')]; decide) (by unfold z_mF; rw [if_neg h9', if_pos (Or.inl h18')])
  have hpr := z_bn0.mp h18
  refine x_iload5 (pc2 := 23) dX6_dry_21 rfl ?_
  refine x_iconst (v := 0) (pc2 := 24) dX6_dry_23 rfl (by decide) ?_
  refine x_iconst (v := 1) (pc2 := 25) dX6_dry_24 rfl (by decide) ?_
  refine x_fS3 (pc2 := 28) eX6_within kX6_80 (Nat.le_of_ble_eq_true rfl) dX6_dry_25 rfl (s_within _ _ _ _ _) ?_
  refine x_if_ne (pc2 := 31) (pc3 := 35) dX6_dry_28 rfl rfl (fun h28 => ?_) (fun h28 => ?_)
  rotate_left
  · have h28' := z_b0.mp h28
    have ha0 : a = 0 := by rw [ha, h28']; rfl
    exact hbad (by unfold z_mC; rw [if_neg h9', if_pos (Or.inr ha0)]; decide) (by unfold z_mF; rw [if_neg h9', if_pos (Or.inr ha0)])
  have h28' := z_bn0.mp h28
  have ha1 : ¬ a = 0 := by rw [ha, h28']; decide
  have hb : ¬ ((z_wi la 0 2 && z_wi n 0 18) = false ∨ a = 0) := fun q => q.elim (fun q => by rw [hpr] at q; cases q) ha1
  have eC : z_mC σ0 sh la i n a = z_lC σ0 sh la i n := by unfold z_mC; rw [if_neg h9', if_neg hb]
  have eF : z_mF σ0 sh la i n a = z_lF σ0 sh la i n := by unfold z_mF; rw [if_neg h9', if_neg hb]
  rw [eC, eF]
  clear hbad
  obtain ⟨n', hn1, hn2, hn18⟩ := z_wi18 (Bool.and_eq_true _ _ ▸ hpr).2
  rw [hn2, hn1]
  refine x_aload0 (pc2 := 36) dX6_dry_35 rfl ?_
  refine x_iload1 (pc2 := 37) dX6_dry_36 rfl ?_
  refine x_iload2 (pc2 := 38) dX6_dry_37 rfl ?_
  refine x_iload3 (pc2 := 39) dX6_dry_38 rfl ?_
  refine x_iload4 (pc2 := 41) dX6_dry_39 rfl ?_
  refine x_cV4 eX6_layTrips kX6_202 sh_43 rfl (Nat.le_of_ble_eq_true rfl) dX6_dry_41 ?_
  refine (s_layTrips (d + 1) sh la i hsh hn18 hN hN3 hK hK4 (hz hsh)).mono ?_
  rintro rv τ ⟨rfl, hF, hT⟩
  show z_At _ _ 44 _ [.int _] _ _
  refine x_if_ne (pc2 := 47) (pc3 := 56) dX6_dry_44 rfl rfl (fun h44 => ?_) (fun h44 => ?_)
  · skip
    refine x_ldc2 (pc2 := 59) (by decide +kernel : Cond.constantLong RX6 78 (-9223372036854775808) ∈ lw_tbl) dX6_dry_56 rfl ?_
    refine x_lret dX6_dry_59 rfl ?_
    rw [if_neg h44]
    exact ⟨rfl, hF.v⟩
  have hT := hT h44
  obtain ⟨g1, g2⟩ := z_lC_0 h44
  rw [if_pos h44]
  have hN1 : 1 ≤ N := by
    rw [hN] at g1
    rcases Nat.eq_zero_or_pos N with q | q
    · subst q; exact absurd rfl g1
    · exact q
  obtain ⟨hc, hM⟩ := hcf hN1
  have hF1 := hF.v
  have hM1 : gM τ c := hM.v hF1
  have hxs := z_xs_lt (z_row σ0 sh.toNatClampNeg) i.toNatClampNeg
  generalize z_to (z_row σ0 sh.toNatClampNeg) i.toNatClampNeg = to at *
  generalize z_xs (z_row σ0 sh.toNatClampNeg) i.toNatClampNeg = x at *
  refine x_aload0 (pc2 := 48) dX6_dry_47 rfl ?_
  refine x_cV0 eX6_go kX6_205 sh_43 rfl (Nat.le_of_ble_eq_true rfl) dX6_dry_48 ?_
  refine (s_goM d hc hM1 hT hxs).mono ?_
  rintro rv υ ⟨rfl, hFc, hJ⟩
  show z_At _ _ 51 _ [.int _] _ _
  have hF2 := hF1.c hFc
  unfold z_dryO
  refine x_bipush (v := -9) (pc2 := 53) dX6_dry_51 rfl (by decide) ?_
  refine x_icmp_eq (pc2 := 56) (pc3 := 60) dX6_dry_53 rfl rfl (fun h53 => ?_) (fun h53 => ?_)
  rotate_left
  · rw [wR_none (fun k hk => by have := wW_lt _ _ hk; omega)] at h53
    refine x_ldc2 (pc2 := 59) (by decide +kernel : Cond.constantLong RX6 78 (-9223372036854775808) ∈ lw_tbl) dX6_dry_56 rfl ?_
    refine x_lret dX6_dry_59 rfl ?_
    cases e : wW c to x n' with
    | none => exact absurd e h53
    | some k => exact ⟨rfl, hF2⟩
  rw [wR_none (fun k hk => by have := wW_lt _ _ hk; omega)] at h53
  have hJ := hJ h53
  rw [h53]
  obtain ⟨u1, u2, u3⟩ := wUL hc n' (wW_ok _ h53)
  have u4 : (10 : Nat) ^ n' ≤ 10 ^ 18 := Nat.pow_le_pow_right (by decide) hn18
  refine x_aload0 (pc2 := 61) dX6_dry_60 rfl ?_
  refine x_getL (pc2 := 64) fX6_181 sh_43 rfl dX6_dry_61 rfl ?_
  refine x_aload0 (pc2 := 65) dX6_dry_64 rfl ?_
  refine x_getL (pc2 := 68) fX6_185 sh_43 rfl dX6_dry_65 rfl ?_
  refine x_iload5 (pc2 := 70) dX6_dry_68 rfl ?_
  rw [hJ.2.1.2.2.1, hJ.2.1.2.2.2]
  refine x_fS3 (pc2 := 73) eX6_inLeastTerms kX6_211 (Nat.le_of_ble_eq_true rfl) dX6_dry_70 rfl (s_inLeastTerms _ _ _ u1 (by omega) (by omega)) ?_
  refine x_lret dX6_dry_73 rfl ?_
  exact ⟨rfl, hF2⟩
