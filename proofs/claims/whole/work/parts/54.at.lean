/-! at and dry of both -/
def z_atO (c : zG) (n : Nat) (to x : Nat → Nat) (t m : Nat) : Int32 := match wW c to x n with
  | some k => -100 - nI k
  | none => wA c to x t m n
theorem z_rng_nat {t : Int32} {K : Nat} (hK : K < 2 ^ 31) (h : z_rng t (nI K) = true) : ∃ t', t' < K ∧ t = nI t' ∧ t.toNatClampNeg = t' := by
  unfold z_rng at h
  rw [Bool.and_eq_true] at h
  have h1 : ¬ t < 0 := by simpa using h.1
  have h2 : ¬ nI K ≤ t := by simpa using h.2
  have hx := z_nat h1
  have hlt : t.toNatClampNeg < 2 ^ 31 := by
    have := Int32.toInt_lt t
    unfold Int32.toNatClampNeg
    omega
  refine ⟨t.toNatClampNeg, ?_, hx, rfl⟩
  rw [hx, nI_le_iff hK hlt] at h2
  omega
theorem z_999 {m : Int32} (h1 : ¬ m < 0) : ∃ m', m = nI m' ∧ m.toNatClampNeg = m' ∧ m' < 2 ^ 31 := by
  have hlt : m.toNatClampNeg < 2 ^ 31 := by
    have := Int32.toInt_lt m
    unfold Int32.toNatClampNeg
    omega
  exact ⟨m.toNatClampNeg, z_nat h1, rfl, hlt⟩
def z_atE (t m K : Int32) : Bool := z_rng t K && (!decide (m < 0) && decide (m ≤ 999))
theorem s_atC (d : Nat) (σ σ0 : zS) (hσ : σ0 = z_f0 σ) (t m sh la i n : Int32) {N K : Nat} (hN : σ0.1 1 2 = nI N) (hN3 : N ≤ 3) (hK : σ0.1 1 6 = nI K) (hK4 : K ≤ 4) (hz : vp_in sh 4 → ∃ z : Nat, σ0.1 (14 + sh.toNatClampNeg) 1 = nI z ∧ z ≤ 60) {c : zG} (hcf : 1 ≤ N → gWf c ∧ gC 1 σ0 c) (hb0 : σ0.1 29 0 = 0) : z_Ex mX5_at (d + 4) [.ref 0, .int t, .int m, .int sh, .int la, .int i, .int n] σ (fun rv τ => rv = some (.int (if z_rng t (nI K) = false then -1 else if m < 0 ∨ ¬ m ≤ 999 then -2 else if z_tC σ0 sh la i n 1 = 0 then z_atO c n.toNatClampNeg (z_to (σ0.1 (14 + sh.toNatClampNeg + 4)) i.toNatClampNeg) (z_xs (σ0.1 (14 + sh.toNatClampNeg + 4)) i.toNatClampNeg) t.toNatClampNeg m.toNatClampNeg else z_tC σ0 sh la i n 1)) ∧ gFw σ0 τ (if z_rng t (nI K) = false then σ0.1 0 13 else if m < 0 ∨ ¬ m ≤ 999 then σ0.1 0 13 else (z_tF σ0 sh la i n 1).1 0 13)) := by
  refine x_enter (by decide) (Nat.le_of_ble_eq_true rfl) ?_
  show z_At _ _ _ [.ref 0, .int t, .int m, .int sh, .int la, .int i, .int n, .null] _ _ _
  have hrf : gFw σ0 σ0 (σ0.1 0 13) := ⟨fun _ _ _ _ _ _ _ => rfl, fun _ _ => rfl, rfl, rfl, fun _ _ => rfl⟩
  refine x_aload0 (pc2 := 1) dX5_at_0 rfl ?_
  refine x_iconst (v := 0) (pc2 := 2) dX5_at_1 rfl (by decide) ?_
  refine x_putI (pc2 := 5) pX5_53 sh_0 rfl dX5_at_2 rfl ?_
  rw [show z_st σ 0 13 0 = σ0 from hσ.symm]
  clear hσ
  refine x_aload0 (pc2 := 6) dX5_at_5 rfl ?_
  refine x_getR (pc2 := 9) fX5_12 sh_0 rfl dX5_at_6 rfl ?_
  refine x_iload1 (pc2 := 10) dX5_at_9 rfl ?_
  refine x_fV1 (pc2 := 13) eX0_hasThing kX5_105 sh_1 rfl (Nat.le_of_ble_eq_true rfl) dX5_at_10 rfl (s_hasThing _ _ z_P1 _) ?_
  rw [hK]
  refine x_if_ne (pc2 := 16) (pc3 := 18) dX5_at_13 rfl rfl (fun h13 => ?_) (fun h13 => ?_)
  rotate_left
  · have h13' := z_b0.mp h13
    refine x_iconst (v := -1) (pc2 := 17) dX5_at_16 rfl (by decide) ?_
    refine x_iret dX5_at_17 rfl ?_
    rw [if_pos h13', if_pos h13']
    exact ⟨rfl, hrf⟩
  have h13' := z_bn0.mp h13
  have n13 : ¬ z_rng t (nI K) = false := by rw [h13']; decide
  rw [if_neg n13, if_neg n13]
  refine x_iload2 (pc2 := 19) dX5_at_18 rfl ?_
  refine x_if_lt (pc2 := 22) (pc3 := 29) dX5_at_19 rfl rfl (fun h19 => ?_) (fun h19 => ?_)
  · skip
    refine x_bipush (v := -2) (pc2 := 31) dX5_at_29 rfl (by decide) ?_
    refine x_iret dX5_at_31 rfl ?_
    rw [if_pos (Or.inl h19), if_pos (Or.inl h19)]
    exact ⟨rfl, hrf⟩
  refine x_iload2 (pc2 := 23) dX5_at_22 rfl ?_
  refine x_sipush (v := 999) (pc2 := 26) dX5_at_23 rfl (by decide) ?_
  refine x_icmp_le (pc2 := 29) (pc3 := 32) dX5_at_26 rfl rfl (fun h26 => ?_) (fun h26 => ?_)
  rotate_left
  · skip
    refine x_bipush (v := -2) (pc2 := 31) dX5_at_29 rfl (by decide) ?_
    refine x_iret dX5_at_31 rfl ?_
    rw [if_pos (Or.inr h26), if_pos (Or.inr h26)]
    exact ⟨rfl, hrf⟩
  have n26 : ¬ (m < 0 ∨ ¬ m ≤ 999) := fun q => q.elim h19 (fun q => q h26)
  rw [if_neg n26, if_neg n26]
  obtain ⟨t', t1, t2, t3⟩ := z_rng_nat (by omega) h13'
  obtain ⟨m', m1, m2, m3⟩ := z_999 h19
  rw [t3, m2, t2, m1]
  refine x_aload0 (pc2 := 33) dX5_at_32 rfl ?_
  refine x_iload3 (pc2 := 34) dX5_at_33 rfl ?_
  refine x_iload4 (pc2 := 36) dX5_at_34 rfl ?_
  refine x_iload5 (pc2 := 38) dX5_at_36 rfl ?_
  refine x_iload6 (pc2 := 40) dX5_at_38 rfl ?_
  refine x_iconst (v := 1) (pc2 := 41) dX5_at_40 rfl (by decide) ?_
  refine x_cV5 eX5_takeTrips kX5_130 sh_0 rfl (Nat.le_of_ble_eq_true rfl) dX5_at_41 ?_
  refine (s_takeTrips (d + 1) sh la i n 1 hN hN3 hK hK4 hz).mono ?_
  rintro rv τ ⟨rfl, hF, hT⟩
  show z_At _ _ 44 _ [.int _] _ _
  refine x_istore7 (pc2 := 46) dX5_at_44 rfl rfl ?_
  refine x_iload7 (pc2 := 48) dX5_at_46 rfl ?_
  refine x_if_eq (pc2 := 51) (pc3 := 54) dX5_at_48 rfl rfl (fun h48 => ?_) (fun h48 => ?_)
  rotate_left
  · skip
    refine x_iload7 (pc2 := 53) dX5_at_51 rfl ?_
    refine x_iret dX5_at_53 rfl ?_
    rw [if_neg h48]
    exact ⟨rfl, hF.w⟩
  have hT := hT h48
  obtain ⟨g1, g2, g3, g4⟩ := z_tC_0 h48
  rw [if_pos h48]
  have hN1 : 1 ≤ N := by
    rw [hN] at g1
    unfold z_pos at g1
    rcases Nat.eq_zero_or_pos N with q | q
    · subst q; exact absurd g1 (by decide)
    · exact q
  obtain ⟨hc, hC⟩ := hcf hN1
  have hcN : cN c = N := nI_inj (by have := hc.2.1; omega) (by omega) (by rw [← hC.1.2.1, hN])
  rw [hN, hK] at g2
  have hF1 := hF.w
  have hC1 : gC 1 τ c := hC.w hF1
  have hb1 : τ.1 29 0 = 0 := by rw [hF1.2.2.2.1]; exact hb0
  have hvN := z_ck_to hN3 g2
  have hxs := z_xs_lt (σ0.1 (14 + sh.toNatClampNeg + 4)) i.toNatClampNeg
  generalize z_to (σ0.1 (14 + sh.toNatClampNeg + 4)) i.toNatClampNeg = to at *
  generalize z_xs (σ0.1 (14 + sh.toNatClampNeg + 4)) i.toNatClampNeg = x at *
  generalize n.toNatClampNeg = n' at *
  have h18 := hT.2.1
  refine x_aload0 (pc2 := 55) dX5_at_54 rfl ?_
  refine x_getR (pc2 := 58) fX5_37 sh_0 rfl dX5_at_55 rfl ?_
  refine x_aload0 (pc2 := 59) dX5_at_58 rfl ?_
  refine x_getR (pc2 := 62) fX5_12 sh_0 rfl dX5_at_59 rfl ?_
  refine x_cV1 eX4_go kX5_134 sh_26 rfl (Nat.le_of_ble_eq_true rfl) dX5_at_62 ?_
  refine (s_goC d z_P1 hc hC1 hT hxs (fun k hk => by rw [hcN]; exact hvN k hk) hb1).mono ?_
  rintro rv υ ⟨rfl, hFc, hwr, hJ⟩
  show z_At _ _ 65 _ [] _ _
  have hF2 := hF1.c hFc
  unfold z_atO
  refine x_aload0 (pc2 := 66) dX5_at_65 rfl ?_
  refine x_getR (pc2 := 69) fX5_37 sh_0 rfl dX5_at_66 rfl ?_
  refine x_getI (pc2 := 72) fX5_137 sh_26 rfl dX5_at_69 rfl ?_
  refine x_bipush (v := -9) (pc2 := 74) dX5_at_72 rfl (by decide) ?_
  rw [hwr]
  refine x_icmp_ne (pc2 := 77) (pc3 := 89) dX5_at_74 rfl rfl (fun h74 => ?_) (fun h74 => ?_)
  · rw [wR_none (fun k hk => by have := wW_lt _ _ hk; omega)] at h74
    refine x_bipush (v := -100) (pc2 := 91) dX5_at_89 rfl (by decide) ?_
    refine x_aload0 (pc2 := 92) dX5_at_91 rfl ?_
    refine x_getR (pc2 := 95) fX5_37 sh_0 rfl dX5_at_92 rfl ?_
    refine x_getI (pc2 := 98) fX5_137 sh_26 rfl dX5_at_95 rfl ?_
    refine x_isub (pc2 := 99) dX5_at_98 rfl ?_
    refine x_iret dX5_at_99 rfl ?_
    rw [hwr]
    cases e : wW c to x n' with
    | none => exact absurd e h74
    | some k => exact ⟨rfl, hF2⟩
  · rw [wR_none (fun k hk => by have := wW_lt _ _ hk; omega)] at h74
    obtain ⟨hJ, -⟩ := hJ h74
    rw [h74]
    refine x_aload0 (pc2 := 78) dX5_at_77 rfl ?_
    refine x_getR (pc2 := 81) fX5_37 sh_0 rfl dX5_at_78 rfl ?_
    refine x_iload1 (pc2 := 82) dX5_at_81 rfl ?_
    refine x_iload2 (pc2 := 83) dX5_at_82 rfl ?_
    refine x_fV2 (pc2 := 86) eX4_spotOf kX5_153 sh_26 rfl (Nat.le_of_ble_eq_true rfl) dX5_at_83 rfl (s_spotOf _ hc (hT.of hFc) hxs (wW_ok _ h74) hJ.2.2.2 (by omega) m3) ?_
    refine x_goto (pc2 := 99) dX5_at_86 rfl ?_
    refine x_iret dX5_at_99 rfl ?_
    exact ⟨rfl, hF2⟩
theorem s_atM (d : Nat) (σ σ0 : zS) (hσ : σ0 = z_g0 σ) (t m sh la i n : Int32) {N K : Nat} (hN : σ0.1 43 6 = nI N) (hN3 : N ≤ 3) (hK : σ0.1 43 7 = nI K) (hK4 : K ≤ 4) (hz : vp_in sh 4 → σ0.1 44 sh.toNatClampNeg ≠ -9 → ∃ z : Nat, σ0.1 45 sh.toNatClampNeg = nI z ∧ z ≤ 60) {c : zG} (hcf : 1 ≤ N → gWf c ∧ gM σ0 c) : z_Ex mX6_at (d + 4) [.ref 43, .int t, .int m, .int sh, .int la, .int i, .int n] σ (fun rv τ => rv = some (.int (if z_rng t (nI K) = false then -1 else if z_wi m 0 999 = false then -2 else if z_mC σ0 sh la i n 1 = 0 then z_atO c n.toNatClampNeg (z_to (z_row σ0 sh.toNatClampNeg) i.toNatClampNeg) (z_xs (z_row σ0 sh.toNatClampNeg) i.toNatClampNeg) t.toNatClampNeg m.toNatClampNeg else z_mC σ0 sh la i n 1)) ∧ gFv σ0 τ (if z_rng t (nI K) = false then σ0.1 43 0 else if z_wi m 0 999 = false then σ0.1 43 0 else (z_mF σ0 sh la i n 1).1 43 0)) := by
  refine x_enter (by decide) (Nat.le_of_ble_eq_true rfl) ?_
  show z_At _ _ _ [.ref 43, .int t, .int m, .int sh, .int la, .int i, .int n, .null, .null] _ _ _
  refine x_aload0 (pc2 := 1) dX6_at_0 rfl ?_
  refine x_iconst (v := 0) (pc2 := 2) dX6_at_1 rfl (by decide) ?_
  refine x_putI (pc2 := 5) pX6_75 sh_43 rfl dX6_at_2 rfl ?_
  rw [show z_st σ 43 0 0 = σ0 from hσ.symm]
  clear hσ
  refine x_aload0 (pc2 := 6) dX6_at_5 rfl ?_
  refine x_iload1 (pc2 := 7) dX6_at_6 rfl ?_
  refine x_fV1 (pc2 := 10) eX6_isThing kX6_143 sh_43 rfl (Nat.le_of_ble_eq_true rfl) dX6_at_7 rfl (s_isThing _ _ _) ?_
  rw [hK]
  refine x_if_ne (pc2 := 13) (pc3 := 15) dX6_at_10 rfl rfl (fun h10 => ?_) (fun h10 => ?_)
  rotate_left
  · have h10' := z_b0.mp h10
    refine x_iconst (v := -1) (pc2 := 14) dX6_at_13 rfl (by decide) ?_
    refine x_iret dX6_at_14 rfl ?_
    rw [if_pos h10', if_pos h10']
    exact ⟨rfl, gFv.rf⟩
  have h10' := z_bn0.mp h10
  have n10 : ¬ z_rng t (nI K) = false := by rw [h10']; decide
  rw [if_neg n10, if_neg n10]
  refine x_iload2 (pc2 := 16) dX6_at_15 rfl ?_
  refine x_iconst (v := 0) (pc2 := 17) dX6_at_16 rfl (by decide) ?_
  refine x_sipush (v := 999) (pc2 := 20) dX6_at_17 rfl (by decide) ?_
  refine x_fS3 (pc2 := 23) eX6_within kX6_80 (Nat.le_of_ble_eq_true rfl) dX6_at_20 rfl (s_within _ _ _ _ _) ?_
  refine x_if_ne (pc2 := 26) (pc3 := 29) dX6_at_23 rfl rfl (fun h23 => ?_) (fun h23 => ?_)
  rotate_left
  · have h23' := z_b0.mp h23
    refine x_bipush (v := -2) (pc2 := 28) dX6_at_26 rfl (by decide) ?_
    refine x_iret dX6_at_28 rfl ?_
    rw [if_pos h23', if_pos h23']
    exact ⟨rfl, gFv.rf⟩
  have h23' := z_bn0.mp h23
  have n23 : ¬ z_wi m 0 999 = false := by rw [h23']; decide
  rw [if_neg n23, if_neg n23]
  have h19 : ¬ m < 0 := by
    unfold z_wi at h23'
    rw [Bool.and_eq_true] at h23'
    simpa using h23'.1
  obtain ⟨t', t1, t2, t3⟩ := z_rng_nat (by omega) h10'
  obtain ⟨m', m1, m2, m3⟩ := z_999 h19
  refine x_iload3 (pc2 := 30) dX6_at_29 rfl ?_
  refine x_fS1 (pc2 := 33) eX6_isSheet kX6_93 (Nat.le_of_ble_eq_true rfl) dX6_at_30 rfl (s_isSheetM _ _ _) ?_
  refine x_if_ne (pc2 := 36) (pc3 := 38) dX6_at_33 rfl rfl (fun h33 => ?_) (fun h33 => ?_)
  rotate_left
  · have h33' := z_b0.mp h33
    refine x_iconst (v := -1) (pc2 := 37) dX6_at_36 rfl (by decide) ?_
    refine x_iret dX6_at_37 rfl ?_
    have eC : z_mC σ0 sh la i n 1 = -1 := by unfold z_mC; rw [if_pos h33']
    have eF : z_mF σ0 sh la i n 1 = σ0 := by unfold z_mF; rw [if_pos h33']
    rw [eC, eF, if_neg (by decide)]
    exact ⟨rfl, gFv.rf⟩
  have h33' : ¬ z_wi sh 0 3 = false := by rw [z_bn0.mp h33]; decide
  have hsh := z_in_sh h33
  refine x_iload4 (pc2 := 40) dX6_at_38 rfl ?_
  refine x_iload6 (pc2 := 42) dX6_at_40 rfl ?_
  refine x_fS2 (pc2 := 45) eX6_arePairs kX6_199 (Nat.le_of_ble_eq_true rfl) dX6_at_42 rfl (s_arePairs _ _ _ _) ?_
  refine x_if_ne (pc2 := 48) (pc3 := 51) dX6_at_45 rfl rfl (fun h45 => ?_) (fun h45 => ?_)
  rotate_left
  · have h45' := z_b0.mp h45
    refine x_bipush (v := -2) (pc2 := 50) dX6_at_48 rfl (by decide) ?_
    refine x_iret dX6_at_50 rfl ?_
    have eC : z_mC σ0 sh la i n 1 = -2 := by unfold z_mC; rw [if_neg h33', if_pos (Or.inl h45')]
    have eF : z_mF σ0 sh la i n 1 = σ0 := by unfold z_mF; rw [if_neg h33', if_pos (Or.inl h45')]
    rw [eC, eF, if_neg (by decide)]
    exact ⟨rfl, gFv.rf⟩
  have hpr := z_bn0.mp h45
  have hb : ¬ ((z_wi la 0 2 && z_wi n 0 18) = false ∨ (1 : Int32) = 0) := fun q => q.elim (fun q => by rw [hpr] at q; cases q) (fun q => absurd q (by decide))
  have eC : z_mC σ0 sh la i n 1 = z_lC σ0 sh la i n := by unfold z_mC; rw [if_neg h33', if_neg hb]
  have eF : z_mF σ0 sh la i n 1 = z_lF σ0 sh la i n := by unfold z_mF; rw [if_neg h33', if_neg hb]
  rw [eC, eF]
  obtain ⟨n', hn1, hn2, hn18⟩ := z_wi18 (Bool.and_eq_true _ _ ▸ hpr).2
  rw [t3, m2, t2, m1, hn2, hn1]
  refine x_aload0 (pc2 := 52) dX6_at_51 rfl ?_
  refine x_iload3 (pc2 := 53) dX6_at_52 rfl ?_
  refine x_iload4 (pc2 := 55) dX6_at_53 rfl ?_
  refine x_iload5 (pc2 := 57) dX6_at_55 rfl ?_
  refine x_iload6 (pc2 := 59) dX6_at_57 rfl ?_
  refine x_cV4 eX6_layTrips kX6_202 sh_43 rfl (Nat.le_of_ble_eq_true rfl) dX6_at_59 ?_
  refine (s_layTrips (d + 1) sh la i hsh hn18 hN hN3 hK hK4 (hz hsh)).mono ?_
  rintro rv τ ⟨rfl, hF, hT⟩
  show z_At _ _ 62 _ [.int _] _ _
  refine x_istore7 (pc2 := 64) dX6_at_62 rfl rfl ?_
  refine x_iload7 (pc2 := 66) dX6_at_64 rfl ?_
  refine x_if_eq (pc2 := 69) (pc3 := 72) dX6_at_66 rfl rfl (fun h66 => ?_) (fun h66 => ?_)
  rotate_left
  · skip
    refine x_iload7 (pc2 := 71) dX6_at_69 rfl ?_
    refine x_iret dX6_at_71 rfl ?_
    rw [if_neg h66]
    exact ⟨rfl, hF.v⟩
  have hT := hT h66
  obtain ⟨g1, g2⟩ := z_lC_0 h66
  rw [if_pos h66]
  have hN1 : 1 ≤ N := by
    rw [hN] at g1
    rcases Nat.eq_zero_or_pos N with q | q
    · subst q; exact absurd rfl g1
    · exact q
  obtain ⟨hc, hM⟩ := hcf hN1
  have hF1 := hF.v
  have hM1 : gM τ c := hM.v hF1
  have hxs := z_xs_lt (z_row σ0 sh.toNatClampNeg) i.toNatClampNeg
  generalize z_to (z_row σ0 sh.toNatClampNeg) i.toNatClampNeg = to at *
  generalize z_xs (z_row σ0 sh.toNatClampNeg) i.toNatClampNeg = x at *
  refine x_aload0 (pc2 := 73) dX6_at_72 rfl ?_
  refine x_cV0 eX6_go kX6_205 sh_43 rfl (Nat.le_of_ble_eq_true rfl) dX6_at_73 ?_
  refine (s_goM d hc hM1 hT hxs).mono ?_
  rintro rv υ ⟨rfl, hFc, hJ⟩
  show z_At _ _ 76 _ [.int _] _ _
  have hF2 := hF1.c hFc
  unfold z_atO
  refine x_istore8 (pc2 := 78) dX6_at_76 rfl rfl ?_
  refine x_iload8 (pc2 := 80) dX6_at_78 rfl ?_
  refine x_bipush (v := -9) (pc2 := 82) dX6_at_80 rfl (by decide) ?_
  refine x_icmp_ne (pc2 := 85) (pc3 := 94) dX6_at_82 rfl rfl (fun h82 => ?_) (fun h82 => ?_)
  · rw [wR_none (fun k hk => by have := wW_lt _ _ hk; omega)] at h82
    refine x_bipush (v := -100) (pc2 := 96) dX6_at_94 rfl (by decide) ?_
    refine x_iload8 (pc2 := 98) dX6_at_96 rfl ?_
    refine x_isub (pc2 := 99) dX6_at_98 rfl ?_
    refine x_iret dX6_at_99 rfl ?_
    cases e : wW c to x n' with
    | none => exact absurd e h82
    | some k => exact ⟨rfl, hF2⟩
  · rw [wR_none (fun k hk => by have := wW_lt _ _ hk; omega)] at h82
    have hJ := hJ h82
    rw [h82]
    refine x_aload0 (pc2 := 86) dX6_at_85 rfl ?_
    refine x_iload1 (pc2 := 87) dX6_at_86 rfl ?_
    refine x_iload2 (pc2 := 88) dX6_at_87 rfl ?_
    refine x_fV2 (pc2 := 91) eX6_spotAt kX6_208 sh_43 rfl (Nat.le_of_ble_eq_true rfl) dX6_at_88 rfl (s_spotAt _ hc (hT.of hFc) hxs (wW_ok _ h82) hJ.2.2 (by omega) m3) ?_
    refine x_goto (pc2 := 99) dX6_at_91 rfl ?_
    refine x_iret dX6_at_99 rfl ?_
    exact ⟨rfl, hF2⟩
