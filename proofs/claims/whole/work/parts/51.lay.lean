/-! the model's layTrips -/
def gFl (σ τ : zS) : Prop := (∀ q, q ≠ 43 → q ≠ 54 → q ≠ 55 → τ.1 q = σ.1 q) ∧ (∀ j, j ≠ 21 → τ.1 43 j = σ.1 43 j) ∧ τ.2 = σ.2
theorem gFl.rf (σ : zS) : gFl σ σ := ⟨fun _ _ _ _ => rfl, fun _ _ => rfl, rfl⟩
def z_row (σ : zS) (k : Nat) : Nat → Int32 := fun j => σ.1 46 (60 * k + j)
def z_lC (σ : zS) (sh la i n : Int32) : Int32 := if ¬ z_ag (σ.1 44 sh.toNatClampNeg) la i (2 * n) (σ.1 45 sh.toNatClampNeg) = 0 then -10 - z_ag (σ.1 44 sh.toNatClampNeg) la i (2 * n) (σ.1 45 sh.toNatClampNeg) else if σ.1 43 6 = 0 then -3 else z_ck (z_row σ sh.toNatClampNeg) i.toNatClampNeg (σ.1 43 6) (σ.1 43 7) n.toNatClampNeg
def z_lF (σ : zS) (sh la i n : Int32) : zS := if ¬ z_ag (σ.1 44 sh.toNatClampNeg) la i (2 * n) (σ.1 45 sh.toNatClampNeg) = 0 then z_st σ 43 0 (z_ag (σ.1 44 sh.toNatClampNeg) la i (2 * n) (σ.1 45 sh.toNatClampNeg)) else σ
theorem s_layTrips (d : Nat) {σ : zS} (sh la i : Int32) {n' : Nat} (hsh : vp_in sh 4) (hn18 : n' ≤ 18) {N K : Nat} (hN : σ.1 43 6 = nI N) (hN3 : N ≤ 3) (hK : σ.1 43 7 = nI K) (hK4 : K ≤ 4) (hz : σ.1 44 sh.toNatClampNeg ≠ -9 → ∃ z : Nat, σ.1 45 sh.toNatClampNeg = nI z ∧ z ≤ 60) : z_Ex mX6_layTrips (d + 2) [.ref 43, .int sh, .int la, .int i, .int (nI n')] σ (fun rv τ => rv = some (.int (z_lC σ sh la i (nI n'))) ∧ gFl (z_lF σ sh la i (nI n')) τ ∧ (z_lC σ sh la i (nI n') = 0 → gTm τ n' (z_to (z_row σ sh.toNatClampNeg) i.toNatClampNeg) (z_xs (z_row σ sh.toNatClampNeg) i.toNatClampNeg))) := by
  refine x_enter (by decide) (Nat.le_of_ble_eq_true rfl) ?_
  show z_At _ _ _ [.ref 43, .int sh, .int la, .int i, .int (nI n'), .null, .null, .null] _ _ _
  refine x_aload0 (pc2 := 1) dX6_layTrips_0 rfl ?_
  refine x_iload1 (pc2 := 2) dX6_layTrips_1 rfl ?_
  refine x_iload2 (pc2 := 3) dX6_layTrips_2 rfl ?_
  refine x_iload3 (pc2 := 4) dX6_layTrips_3 rfl ?_
  refine x_iconst (v := 2) (pc2 := 5) dX6_layTrips_4 rfl (by decide) ?_
  refine x_iload4 (pc2 := 7) dX6_layTrips_5 rfl ?_
  refine x_imul (pc2 := 8) dX6_layTrips_7 rfl ?_
  refine x_fV4 (pc2 := 11) eX6_against kX6_100 sh_43 rfl (Nat.le_of_ble_eq_true rfl) dX6_layTrips_8 rfl (s_against _ _ _ _ _ _ hsh) ?_
  refine x_istore5 (pc2 := 13) dX6_layTrips_11 rfl rfl ?_
  refine x_iload5 (pc2 := 15) dX6_layTrips_13 rfl ?_
  refine x_if_eq (pc2 := 18) (pc3 := 25) dX6_layTrips_15 rfl rfl (fun h15 => ?_) (fun h15 => ?_)
  rotate_left
  · skip
    refine x_aload0 (pc2 := 19) dX6_layTrips_18 rfl ?_
    refine x_iload5 (pc2 := 21) dX6_layTrips_19 rfl ?_
    refine x_fV1 (pc2 := 24) eX6_fails kX6_104 sh_43 rfl (Nat.le_of_ble_eq_true rfl) dX6_layTrips_21 rfl (s_fails _ _ _) ?_
    refine x_iret dX6_layTrips_24 rfl ?_
    have eC : z_lC σ sh la i (nI n') = -10 - z_ag (σ.1 44 sh.toNatClampNeg) la i (2 * nI n') (σ.1 45 sh.toNatClampNeg) := by unfold z_lC; rw [if_pos h15]
    have eF : z_lF σ sh la i (nI n') = z_st σ 43 0 (z_ag (σ.1 44 sh.toNatClampNeg) la i (2 * nI n') (σ.1 45 sh.toNatClampNeg)) := by unfold z_lF; rw [if_pos h15]
    rw [eC, eF]
    refine ⟨rfl, gFl.rf _, fun q => ?_⟩
    exfalso
    revert q
    unfold z_ag
    split
    · decide
    · split
      · decide
      · split
        · decide
        · split <;> decide
  have eF : z_lF σ sh la i (nI n') = σ := by unfold z_lF; rw [if_neg (fun q => q h15)]
  rw [eF]
  refine x_aload0 (pc2 := 26) dX6_layTrips_25 rfl ?_
  refine x_getI (pc2 := 29) fX6_84 sh_43 rfl dX6_layTrips_26 rfl ?_
  refine x_if_ne (pc2 := 32) (pc3 := 35) dX6_layTrips_29 rfl rfl (fun h29 => ?_) (fun h29 => ?_)
  rotate_left
  · skip
    refine x_bipush (v := -3) (pc2 := 34) dX6_layTrips_32 rfl (by decide) ?_
    refine x_iret dX6_layTrips_34 rfl ?_
    have eC : z_lC σ sh la i (nI n') = -3 := by unfold z_lC; rw [if_neg (fun q => q h15), if_pos h29]
    rw [eC]
    exact ⟨rfl, gFl.rf _, fun q => absurd q (by decide)⟩
  have eC : z_lC σ sh la i (nI n') = z_ck (z_row σ sh.toNatClampNeg) i.toNatClampNeg (σ.1 43 6) (σ.1 43 7) n' := by unfold z_lC; rw [if_neg (fun q => q h15), if_neg h29, nI_clamp (by omega)]
  rw [eC]
  have hs9 : σ.1 44 sh.toNatClampNeg ≠ -9 := fun q => by
    rw [z_ag, q] at h15
    simp at h15
  obtain ⟨z, hz1, hz2⟩ := hz hs9
  have hidx : z_hc i (nI (2 * n')) (nI z) = true := by
    rw [z_ag, hz1, gb_two n' (by omega)] at h15
    by_cases g1 : σ.1 44 sh.toNatClampNeg ≠ -9 ∧ σ.1 44 sh.toNatClampNeg ≠ la
    · rw [if_pos g1] at h15; exact absurd h15 (by decide)
    · rw [if_neg g1, if_neg hs9] at h15
      by_cases g2 : ¬ 0 ≤ nI (2 * n')
      · rw [if_pos g2] at h15; exact absurd h15 (by decide)
      · rw [if_neg g2] at h15
        by_cases g3 : i < 0 ∨ nI z < i ∨ ¬ nI (2 * n') ≤ nI z - i
        · rw [if_pos g3] at h15; exact absurd h15 (by decide)
        · have g2' : ¬ nI (2 * n') < 0 := nI_pos (by omega)
          have g4 : ¬ nI z - i < nI (2 * n') := fun q => g3 (Or.inr (Or.inr (Int32.not_le.mpr q)))
          unfold z_hc
          simp only [decide_eq_false g2', decide_eq_false (fun q => g3 (Or.inl q) : ¬ i < 0), decide_eq_false (fun q => g3 (Or.inr (Or.inl q)) : ¬ nI z < i), decide_eq_false g4]
          rfl
  obtain ⟨b, hib, hib2, hbz⟩ := z_hc_nat hn18 hz2 hidx
  rw [hib2]
  have hfirst := z_cellAt hsh (show ¬ i < 0 by rw [hib]; exact nI_pos (by omega))
  have hk4 : sh.toNatClampNeg < 4 := Nat.not_le.mp fun q => hsh (Or.inr q)
  rw [hib2] at hfirst
  generalize hkk : sh.toNatClampNeg = k0 at *
  clear eC eF hidx h15 hz hs9
  refine x_bipush (v := 60) (pc2 := 37) dX6_layTrips_35 rfl (by decide) ?_
  refine x_iload1 (pc2 := 38) dX6_layTrips_37 rfl ?_
  refine x_imul (pc2 := 39) dX6_layTrips_38 rfl ?_
  refine x_iload3 (pc2 := 40) dX6_layTrips_39 rfl ?_
  refine x_iadd (pc2 := 41) dX6_layTrips_40 rfl ?_
  rw [hfirst]
  refine x_istore6 (pc2 := 43) dX6_layTrips_41 rfl rfl ?_
  refine x_iconst (v := 0) (pc2 := 44) dX6_layTrips_43 rfl (by decide) ?_
  refine x_istore7 (pc2 := 46) dX6_layTrips_44 rfl rfl ?_
  suffices h : ∀ j k, k + j = n' → ∀ τ, gFl σ τ → τ.1 43 21 = σ.1 43 21 → (∀ q, q < k → τ.1 54 q = z_row σ k0 (b + 2 * q) ∧ τ.1 55 q = z_row σ k0 (b + 2 * q + 1)) → z_ck (z_row σ k0) b (σ.1 43 6) (σ.1 43 7) k = 0 → z_At mX6_layTrips (d + 2) 46 [.ref 43, .int sh, .int la, .int i, .int (nI n'), .int (z_ag (σ.1 44 k0) la i (2 * nI n') (σ.1 45 k0)), .int (nI (60 * k0 + b)), .int (nI k)] [] τ (fun rv τ => rv = some (.int (z_ck (z_row σ k0) b (σ.1 43 6) (σ.1 43 7) n')) ∧ gFl σ τ ∧ (z_ck (z_row σ k0) b (σ.1 43 6) (σ.1 43 7) n' = 0 → gTm τ n' (z_to (z_row σ k0) b) (z_xs (z_row σ k0) b))) from h n' 0 (by omega) _ (gFl.rf σ) rfl (fun q hq => by omega) rfl
  intro j
  induction j with
  | zero =>
    intro k hk τ hF hc0 hrow hck
    obtain rfl : k = n' := by omega
    refine x_iload7 (pc2 := 48) dX6_layTrips_46 rfl ?_
    refine x_iload4 (pc2 := 50) dX6_layTrips_48 rfl ?_
    refine x_icmp_ge (pc2 := 53) (pc3 := 148) dX6_layTrips_50 rfl rfl (fun h50 => ?_) (fun h50 => ?_)
    · skip
      refine x_aload0 (pc2 := 149) dX6_layTrips_148 rfl ?_
      refine x_iload4 (pc2 := 151) dX6_layTrips_149 rfl ?_
      refine x_putI (pc2 := 154) pX6_172 sh_43 rfl dX6_layTrips_151 rfl ?_
      refine x_iconst (v := 0) (pc2 := 155) dX6_layTrips_154 rfl (by decide) ?_
      refine x_iret dX6_layTrips_155 rfl ?_
      refine ⟨by rw [hck], ⟨fun q h1 h2 h3 => ?_, fun q h1 => ?_, hF.2.2⟩, fun _ => ⟨z_st_at _ _ _ _, hn18, fun q hq => ?_⟩⟩
      · rw [z_st_row _ _ _ h1]; exact hF.1 q h1 h2 h3
      · rw [z_st_fld _ _ _ h1]; exact hF.2.1 q h1
      · obtain ⟨g1, g2⟩ := z_ck_ok k hck q hq
        rw [hN] at g1
        rw [hK] at g2
        obtain ⟨v, v1, v2, v3⟩ := z_spot_nat hN3 g1
        obtain ⟨s, s1, s2, s3⟩ := z_os_nat hK4 g2
        have hpow : 2 ^ K ≤ 2 ^ 4 := Nat.pow_le_pow_right (by decide) hK4
        rw [z_st_row _ _ _ (by decide), z_st_row _ _ _ (by decide), (hrow q hq).1, (hrow q hq).2]
        unfold z_to z_xs
        rw [v3, s3, Nat.mod_eq_of_lt (by omega)]
        exact ⟨v2, by omega, s2⟩
    · exact absurd (Int32.le_refl _) h50
  | succ j ih =>
    intro k hk τ hF hc0 hrow hck
    have e46 : τ.1 46 = σ.1 46 := hF.1 46 (by decide) (by decide) (by decide)
    have e6 : τ.1 43 6 = σ.1 43 6 := hF.2.1 6 (by decide)
    have e7 : τ.1 43 7 = σ.1 43 7 := hF.2.1 7 (by decide)
    have hr1 : z_row σ k0 (b + 2 * k) = σ.1 46 (60 * k0 + b + 2 * k) := by unfold z_row; rw [← Nat.add_assoc]
    have hr2 : z_row σ k0 (b + 2 * k + 1) = σ.1 46 (60 * k0 + b + 2 * k + 1) := by unfold z_row; rw [← Nat.add_assoc, ← Nat.add_assoc]
    have e2 := gb_two k (by omega)
    refine x_iload7 (pc2 := 48) dX6_layTrips_46 rfl ?_
    refine x_iload4 (pc2 := 50) dX6_layTrips_48 rfl ?_
    refine x_icmp_ge (pc2 := 53) (pc3 := 148) dX6_layTrips_50 rfl rfl (fun h50 => ?_) (fun h50 => ?_)
    · exact absurd h50 (nI_ge (by omega) (by omega))
    · skip
      refine x_aload0 (pc2 := 54) dX6_layTrips_53 rfl ?_
      refine x_aload0 (pc2 := 55) dX6_layTrips_54 rfl ?_
      refine x_getR (pc2 := 58) fX6_16 sh_43 rfl dX6_layTrips_55 rfl ?_
      refine x_iload6 (pc2 := 60) dX6_layTrips_58 rfl ?_
      refine x_iconst (v := 2) (pc2 := 61) dX6_layTrips_60 rfl (by decide) ?_
      refine x_iload7 (pc2 := 63) dX6_layTrips_61 rfl ?_
      refine x_imul (pc2 := 64) dX6_layTrips_63 rfl ?_
      rw [e2]
      refine x_iadd (pc2 := 65) dX6_layTrips_64 rfl ?_
      rw [z_nIadd]
      refine x_iald (pc2 := 66) sh_46 (by exact z_in (by omega)) dX6_layTrips_65 rfl ?_
      refine x_fV1 (pc2 := 69) eX6_isSpot kX6_160 sh_43 rfl (Nat.le_of_ble_eq_true rfl) dX6_layTrips_66 rfl (s_isSpot _ _ _) ?_
      rw [nI_clamp (by omega), e46, e6, ← hr1]
      refine x_if_ne (pc2 := 72) (pc3 := 74) dX6_layTrips_69 rfl rfl (fun h69 => ?_) (fun h69 => ?_)
      rotate_left
      · have h69' := z_b0.mp h69
        refine x_iconst (v := -1) (pc2 := 73) dX6_layTrips_72 rfl (by decide) ?_
        refine x_iret dX6_layTrips_73 rfl ?_
        have hc1 : z_ck (z_row σ k0) b (σ.1 43 6) (σ.1 43 7) (k + 1) = -1 := by rw [z_ck, if_pos hck, if_pos h69']
        have := z_ck_stay (k := k + 1) (by rw [hc1]; decide) j
        rw [show k + 1 + j = n' by omega, hc1] at this
        rw [this]
        exact ⟨rfl, hF, fun q => absurd q (by decide)⟩
      have h69' := z_bn0.mp h69
      refine x_aload0 (pc2 := 75) dX6_layTrips_74 rfl ?_
      refine x_getR (pc2 := 78) fX6_16 sh_43 rfl dX6_layTrips_75 rfl ?_
      refine x_iload6 (pc2 := 80) dX6_layTrips_78 rfl ?_
      refine x_iconst (v := 2) (pc2 := 81) dX6_layTrips_80 rfl (by decide) ?_
      refine x_iload7 (pc2 := 83) dX6_layTrips_81 rfl ?_
      refine x_imul (pc2 := 84) dX6_layTrips_83 rfl ?_
      rw [e2]
      refine x_iadd (pc2 := 85) dX6_layTrips_84 rfl ?_
      rw [z_nIadd]
      refine x_iconst (v := 1) (pc2 := 86) dX6_layTrips_85 rfl (by decide) ?_
      refine x_iadd (pc2 := 87) dX6_layTrips_86 rfl ?_
      rw [← nI_succ]
      refine x_iald (pc2 := 88) sh_46 (by exact z_in (by omega)) dX6_layTrips_87 rfl ?_
      refine x_iconst (v := 0) (pc2 := 89) dX6_layTrips_88 rfl (by decide) ?_
      refine x_aload0 (pc2 := 90) dX6_layTrips_89 rfl ?_
      refine x_fV0 (pc2 := 93) eX6_allThings kX6_149 sh_43 rfl (Nat.le_of_ble_eq_true rfl) dX6_layTrips_90 rfl (s_allThings _ _) ?_
      refine x_fS3 (pc2 := 96) eX6_within kX6_80 (Nat.le_of_ble_eq_true rfl) dX6_layTrips_93 rfl (s_within _ _ _ _ _) ?_
      rw [nI_clamp (by omega), e46, e7, ← hr2, show z_wi (z_row σ k0 (b + 2 * k + 1)) 0 (((1 : Int32) <<< (σ.1 43 7 &&& 31)) - 1) = z_os (z_row σ k0 (b + 2 * k + 1)) (σ.1 43 7) from rfl]
      refine x_if_ne (pc2 := 99) (pc3 := 102) dX6_layTrips_96 rfl rfl (fun h96 => ?_) (fun h96 => ?_)
      rotate_left
      · have h96' := z_b0.mp h96
        refine x_bipush (v := -2) (pc2 := 101) dX6_layTrips_99 rfl (by decide) ?_
        refine x_iret dX6_layTrips_101 rfl ?_
        have hc1 : z_ck (z_row σ k0) b (σ.1 43 6) (σ.1 43 7) (k + 1) = -2 := by rw [z_ck, if_pos hck, if_neg (by rw [h69']; decide), if_pos h96']
        have := z_ck_stay (k := k + 1) (by rw [hc1]; decide) j
        rw [show k + 1 + j = n' by omega, hc1] at this
        rw [this]
        exact ⟨rfl, hF, fun q => absurd q (by decide)⟩
      have h96' := z_bn0.mp h96
      refine x_aload0 (pc2 := 103) dX6_layTrips_102 rfl ?_
      refine x_getR (pc2 := 106) fX6_48 sh_43 rfl dX6_layTrips_103 rfl ?_
      refine x_iload7 (pc2 := 108) dX6_layTrips_106 rfl ?_
      refine x_aload0 (pc2 := 109) dX6_layTrips_108 rfl ?_
      refine x_getR (pc2 := 112) fX6_16 sh_43 rfl dX6_layTrips_109 rfl ?_
      refine x_iload6 (pc2 := 114) dX6_layTrips_112 rfl ?_
      refine x_iconst (v := 2) (pc2 := 115) dX6_layTrips_114 rfl (by decide) ?_
      refine x_iload7 (pc2 := 117) dX6_layTrips_115 rfl ?_
      refine x_imul (pc2 := 118) dX6_layTrips_117 rfl ?_
      rw [e2]
      refine x_iadd (pc2 := 119) dX6_layTrips_118 rfl ?_
      rw [z_nIadd]
      refine x_iald (pc2 := 120) sh_46 (by exact z_in (by omega)) dX6_layTrips_119 rfl ?_
      refine x_iast (pc2 := 121) sh_54 (by exact z_in (by omega)) dX6_layTrips_120 rfl ?_
      refine x_aload0 (pc2 := 122) dX6_layTrips_121 rfl ?_
      refine x_getR (pc2 := 125) fX6_51 sh_43 rfl dX6_layTrips_122 rfl ?_
      refine x_iload7 (pc2 := 127) dX6_layTrips_125 rfl ?_
      refine x_aload0 (pc2 := 128) dX6_layTrips_127 rfl ?_
      refine x_getR (pc2 := 131) fX6_16 sh_43 rfl dX6_layTrips_128 rfl ?_
      refine x_iload6 (pc2 := 133) dX6_layTrips_131 rfl ?_
      refine x_iconst (v := 2) (pc2 := 134) dX6_layTrips_133 rfl (by decide) ?_
      refine x_iload7 (pc2 := 136) dX6_layTrips_134 rfl ?_
      refine x_imul (pc2 := 137) dX6_layTrips_136 rfl ?_
      rw [e2, nI_clamp (by omega), nI_clamp (by omega), e46, ← hr1]
      refine x_iadd (pc2 := 138) dX6_layTrips_137 rfl ?_
      rw [z_nIadd]
      refine x_iconst (v := 1) (pc2 := 139) dX6_layTrips_138 rfl (by decide) ?_
      refine x_iadd (pc2 := 140) dX6_layTrips_139 rfl ?_
      rw [← nI_succ]
      refine x_iald (pc2 := 141) sh_46 (by exact z_in (by omega)) dX6_layTrips_140 rfl ?_
      refine x_iast (pc2 := 142) sh_55 (by exact z_in (by omega)) dX6_layTrips_141 rfl ?_
      refine x_iinc7 (pc2 := 145) dX6_layTrips_142 rfl (z_inc1 _) rfl ?_
      refine x_goto (pc2 := 46) dX6_layTrips_145 rfl ?_
      rw [← nI_succ, nI_clamp (by omega), nI_clamp (by omega), z_st_row _ _ _ (by decide), e46, ← hr2]
      have hc1 : z_ck (z_row σ k0) b (σ.1 43 6) (σ.1 43 7) (k + 1) = 0 := by rw [z_ck, if_pos hck, if_neg (by rw [h69']; decide), if_neg (by rw [h96']; decide)]
      refine ih (k + 1) (by omega) _ ⟨fun q h1 h2 h3 => ?_, fun q h1 => ?_, hF.2.2⟩ ?_ (fun q hq => ?_) hc1
      · rw [z_st_row _ _ _ h3, z_st_row _ _ _ h2]; exact hF.1 q h1 h2 h3
      · rw [z_st_row _ _ _ (by decide), z_st_row _ _ _ (by decide)]; exact hF.2.1 q h1
      · rw [z_st_row _ _ _ (by decide), z_st_row _ _ _ (by decide)]; exact hc0
      · have g1 : (z_st (z_st τ 54 k (z_row σ k0 (b + 2 * k))) 55 k (z_row σ k0 (b + 2 * k + 1))).1 54 = upd (τ.1 54) k (z_row σ k0 (b + 2 * k)) := by rw [z_st_row _ _ _ (by decide), z_st_rowS]
        have g2 : (z_st (z_st τ 54 k (z_row σ k0 (b + 2 * k))) 55 k (z_row σ k0 (b + 2 * k + 1))).1 55 = upd (τ.1 55) k (z_row σ k0 (b + 2 * k + 1)) := by rw [z_st_rowS, z_st_row _ _ _ (by decide)]
        rw [g1, g2]
        unfold upd
        by_cases e : q = k
        · rw [if_pos e, if_pos e, e]
          exact ⟨rfl, rfl⟩
        · rw [if_neg e, if_neg e]
          exact hrow q (by omega)
