/-! the class's search: stateBehind -/
theorem gb_rem16 : ∀ m < 32, nI m - nI m / 16 * 16 = nI (m % 16) := by decide +kernel
theorem gb_an15 : ∀ a < 16, ∀ b < 16, nI a &&& (nI b ^^^ (-1)) = nI (a &&& (15 - b)) := by decide +kernel
theorem gb_andn_lt : ∀ a < 16, ∀ b < 16, a &&& (15 - b) < 16 := by decide +kernel
theorem gb_sbK : ∀ K < 5, ∀ h < 2 ^ K, ∀ x < 16, x &&& (15 - h) = 0 → x < 2 ^ K := by decide +kernel
theorem gb_sub2 : ∀ K < 5, ∀ h < 2 ^ K, ∀ x < 16, h &&& (15 - x) < 2 ^ K := by decide +kernel
/-- where a move leads to; -1: it can't be -/
def sB (go st : Nat → Bool) (sd : Nat → Nat) (N s h mv : Nat) : Int32 := if (mv < 16 ∧ s % 4 = 0) ∨ (¬ mv < 16 ∧ s % 4 = N) ∨ mv % 16 &&& (15 - h) ≠ 0 then -1 else if go (mv % 16) = false ∨ st (h &&& (15 - mv % 16)) = false then -1 else if mv < 16 then nI s - nI (sd (mv % 16)) else nI s + nI (sd (mv % 16))
theorem s_stateBehind (d : Nat) (σ : zS) {go st : Nat → Bool} {sd : Nat → Nat} {N K s h mv : Nat} (hs : s < 1024) (hK4 : K ≤ 4) (hhK : h < 2 ^ K) (hm : mv < 32) (hN : σ.1 31 1 = nI N) (hN3 : N ≤ 3) (hsN : s % 4 ≤ N) (h32 : ∀ x < 2 ^ K, σ.1 32 x = z_b (go x)) (hst33 : ∀ x < 2 ^ K, σ.1 33 x = z_b (st x)) (h34 : ∀ x < 2 ^ K, σ.1 34 x = nI (sd x)) : z_Fn mX2_stateBehind (d + 1) [.ref 31, .int (nI s), .int (nI h), .int (nI mv)] σ (.int (sB go st sd N s h mv)) σ := by
  refine x_enter (by decide) (Nat.le_of_ble_eq_true rfl) ?_
  show z_At _ _ _ [.ref 31, .int (nI s), .int (nI h), .int (nI mv), .null, .null] _ _ _
  have hx : mv % 16 < 16 := Nat.mod_lt _ (by decide)
  have h2K : 2 ^ K ≤ 16 := (Nat.pow_le_pow_right (by decide) hK4 : 2 ^ K ≤ 2 ^ 4)
  have hh : h < 16 := by omega
  have hy := gb_sub2 K (by omega) h hhK (mv % 16) hx
  refine x_iload3 (pc2 := 1) dX2_stateBehind_0 rfl ?_
  refine x_bipush (v := 16) (pc2 := 3) dX2_stateBehind_1 rfl (by decide) ?_
  refine x_irem (pc2 := 4) dX2_stateBehind_3 rfl (by decide) ?_
  rw [gb_rem16 mv hm]
  refine x_istore4 (pc2 := 6) dX2_stateBehind_4 rfl rfl ?_
  refine x_iload1 (pc2 := 7) dX2_stateBehind_6 rfl ?_
  refine x_iload3 (pc2 := 8) dX2_stateBehind_7 rfl ?_
  refine x_fS2 (pc2 := 11) eX2_spotBehind kX2_126 (Nat.le_of_ble_eq_true rfl) dX2_stateBehind_8 rfl (s_spotBehind _ _ hs hm) ?_
  have hrest : ¬ (mv < 16 ∧ s % 4 = 0) → ¬ (¬ mv < 16 ∧ s % 4 = N) → ∀ w, z_At mX2_stateBehind (d + 1) 27 [.ref 31, .int (nI s), .int (nI h), .int (nI mv), .int (nI (mv % 16)), .int w] [] σ (fun rv τ => rv = some (.int (sB go st sd N s h mv)) ∧ τ = σ) := by
    intro n1 n2 w
    refine x_iload4 (pc2 := 29) dX2_stateBehind_27 rfl ?_
    refine x_iload2 (pc2 := 30) dX2_stateBehind_29 rfl ?_
    refine x_iconst (v := -1) (pc2 := 31) dX2_stateBehind_30 rfl (by decide) ?_
    refine x_ixor (pc2 := 32) dX2_stateBehind_31 rfl ?_
    refine x_iand (pc2 := 33) dX2_stateBehind_32 rfl ?_
    rw [gb_an15 _ hx _ hh]
    refine x_if_eq (pc2 := 36) (pc3 := 38) dX2_stateBehind_33 rfl rfl (fun h33 => ?_) (fun h33 => ?_)
    rotate_left
    · skip
      refine x_iconst (v := -1) (pc2 := 37) dX2_stateBehind_36 rfl (by decide) ?_
      refine x_iret dX2_stateBehind_37 rfl ?_
      have q : mv % 16 &&& (15 - h) ≠ 0 := fun q => h33 (by rw [q]; rfl)
      rw [sB, if_pos (Or.inr (Or.inr q))]
      exact ⟨rfl, rfl⟩
    have q0 : mv % 16 &&& (15 - h) = 0 := by
      have := gb_andn_lt (mv % 16) hx h hh
      exact nI_inj (b := 0) (by omega) (by omega) h33
    have n3 : ¬ ((mv < 16 ∧ s % 4 = 0) ∨ (¬ mv < 16 ∧ s % 4 = N) ∨ mv % 16 &&& (15 - h) ≠ 0) := fun q => q.elim n1 (fun q => q.elim n2 (fun q => q q0))
    rw [sB, if_neg n3]
    have hxK := gb_sbK K (by omega) h hhK (mv % 16) hx q0
    refine x_aload0 (pc2 := 39) dX2_stateBehind_38 rfl ?_
    refine x_getR (pc2 := 42) fX2_11 sh_31 rfl dX2_stateBehind_39 rfl ?_
    refine x_iload4 (pc2 := 44) dX2_stateBehind_42 rfl ?_
    refine x_zald (pc2 := 45) sh_32 (by exact z_in (by omega)) dX2_stateBehind_44 rfl ?_
    rw [nI_clamp (by omega), h32 _ hxK]
    refine x_if_eq (pc2 := 48) (pc3 := 62) dX2_stateBehind_45 rfl rfl (fun h45 => ?_) (fun h45 => ?_)
    · skip
      refine x_iconst (v := -1) (pc2 := 63) dX2_stateBehind_62 rfl (by decide) ?_
      refine x_iret dX2_stateBehind_63 rfl ?_
      rw [if_pos (Or.inl (z_b0.mp h45))]
      exact ⟨rfl, rfl⟩
    refine x_aload0 (pc2 := 49) dX2_stateBehind_48 rfl ?_
    refine x_getR (pc2 := 52) fX2_15 sh_31 rfl dX2_stateBehind_49 rfl ?_
    refine x_iload2 (pc2 := 53) dX2_stateBehind_52 rfl ?_
    refine x_iload4 (pc2 := 55) dX2_stateBehind_53 rfl ?_
    refine x_iconst (v := -1) (pc2 := 56) dX2_stateBehind_55 rfl (by decide) ?_
    refine x_ixor (pc2 := 57) dX2_stateBehind_56 rfl ?_
    refine x_iand (pc2 := 58) dX2_stateBehind_57 rfl ?_
    rw [gb_an15 _ hh _ hx]
    refine x_zald (pc2 := 59) sh_33 (by exact z_in (by omega)) dX2_stateBehind_58 rfl ?_
    rw [nI_clamp (by omega), hst33 _ hy]
    refine x_if_ne (pc2 := 62) (pc3 := 64) dX2_stateBehind_59 rfl rfl (fun h59 => ?_) (fun h59 => ?_)
    rotate_left
    · skip
      refine x_iconst (v := -1) (pc2 := 63) dX2_stateBehind_62 rfl (by decide) ?_
      refine x_iret dX2_stateBehind_63 rfl ?_
      rw [if_pos (Or.inr (z_b0.mp h59))]
      exact ⟨rfl, rfl⟩
    rw [if_neg (by rw [z_bn0.mp h45, z_bn0.mp h59]; decide)]
    refine x_iload3 (pc2 := 65) dX2_stateBehind_64 rfl ?_
    refine x_bipush (v := 16) (pc2 := 67) dX2_stateBehind_65 rfl (by decide) ?_
    refine x_icmp_ge (pc2 := 70) (pc3 := 82) dX2_stateBehind_67 rfl rfl (fun h67 => ?_) (fun h67 => ?_)
    · have h67 := (nI_le_iff (a := 16) (by omega) (by omega)).mp h67
      rw [if_neg (by omega)]
      refine x_iload1 (pc2 := 83) dX2_stateBehind_82 rfl ?_
      refine x_aload0 (pc2 := 84) dX2_stateBehind_83 rfl ?_
      refine x_getR (pc2 := 87) fX2_18 sh_31 rfl dX2_stateBehind_84 rfl ?_
      refine x_iload4 (pc2 := 89) dX2_stateBehind_87 rfl ?_
      refine x_iald (pc2 := 90) sh_34 (by exact z_in (by omega)) dX2_stateBehind_89 rfl ?_
      rw [nI_clamp (by omega), h34 _ hxK]
      refine x_iadd (pc2 := 91) dX2_stateBehind_90 rfl ?_
      refine x_iret dX2_stateBehind_91 rfl ?_
      exact ⟨rfl, rfl⟩
    · have h67 : ¬ 16 ≤ mv := fun q => h67 ((nI_le_iff (a := 16) (by omega) (by omega)).mpr q)
      rw [if_pos (by omega)]
      refine x_iload1 (pc2 := 71) dX2_stateBehind_70 rfl ?_
      refine x_aload0 (pc2 := 72) dX2_stateBehind_71 rfl ?_
      refine x_getR (pc2 := 75) fX2_18 sh_31 rfl dX2_stateBehind_72 rfl ?_
      refine x_iload4 (pc2 := 77) dX2_stateBehind_75 rfl ?_
      refine x_iald (pc2 := 78) sh_34 (by exact z_in (by omega)) dX2_stateBehind_77 rfl ?_
      rw [nI_clamp (by omega), h34 _ hxK]
      refine x_isub (pc2 := 79) dX2_stateBehind_78 rfl ?_
      refine x_goto (pc2 := 91) dX2_stateBehind_79 rfl ?_
      refine x_iret dX2_stateBehind_91 rfl ?_
      exact ⟨rfl, rfl⟩
  by_cases c : mv < 16
  · rw [if_pos c]
    by_cases e : s % 4 = 0
    · rw [e]
      refine x_istore5 (pc2 := 13) dX2_stateBehind_11 rfl rfl ?_
      refine x_iload5 (pc2 := 15) dX2_stateBehind_13 rfl ?_
      refine x_if_lt (pc2 := 18) (pc3 := 36) dX2_stateBehind_15 rfl rfl (fun h15 => ?_) (fun h15 => ?_)
      · skip
        refine x_iconst (v := -1) (pc2 := 37) dX2_stateBehind_36 rfl (by decide) ?_
        refine x_iret dX2_stateBehind_37 rfl ?_
        rw [sB, if_pos (Or.inl ⟨c, e⟩)]
        exact ⟨rfl, rfl⟩
      · exact absurd (by decide) h15
    · rw [show nI (s % 4) + -1 = nI (s % 4 - 1) from (Int32.sub_eq_add_neg (a := nI (s % 4)) (b := 1)).symm.trans (Int32.ofNat_sub (a := s % 4) (b := 1) (by omega)).symm]
      refine x_istore5 (pc2 := 13) dX2_stateBehind_11 rfl rfl ?_
      refine x_iload5 (pc2 := 15) dX2_stateBehind_13 rfl ?_
      refine x_if_lt (pc2 := 18) (pc3 := 36) dX2_stateBehind_15 rfl rfl (fun h15 => ?_) (fun h15 => ?_)
      · exact absurd h15 (nI_pos (by omega))
      refine x_iload5 (pc2 := 20) dX2_stateBehind_18 rfl ?_
      refine x_aload0 (pc2 := 21) dX2_stateBehind_20 rfl ?_
      refine x_getI (pc2 := 24) fX2_72 sh_31 rfl dX2_stateBehind_21 rfl ?_
      rw [hN]
      refine x_icmp_gt (pc2 := 27) (pc3 := 36) dX2_stateBehind_24 rfl rfl (fun h24 => ?_) (fun h24 => ?_)
      · exact absurd ((nI_lt_iff (by omega) (by omega)).mp h24) (by omega)
      exact hrest (fun q => e q.2) (fun q => q.1 c) _
  · rw [if_neg c]
    refine x_istore5 (pc2 := 13) dX2_stateBehind_11 rfl rfl ?_
    refine x_iload5 (pc2 := 15) dX2_stateBehind_13 rfl ?_
    refine x_if_lt (pc2 := 18) (pc3 := 36) dX2_stateBehind_15 rfl rfl (fun h15 => ?_) (fun h15 => ?_)
    · exact absurd h15 (nI_pos (by omega))
    refine x_iload5 (pc2 := 20) dX2_stateBehind_18 rfl ?_
    refine x_aload0 (pc2 := 21) dX2_stateBehind_20 rfl ?_
    refine x_getI (pc2 := 24) fX2_72 sh_31 rfl dX2_stateBehind_21 rfl ?_
    rw [hN]
    refine x_icmp_gt (pc2 := 27) (pc3 := 36) dX2_stateBehind_24 rfl rfl (fun h24 => ?_) (fun h24 => ?_)
    · have h24 := (nI_lt_iff (by omega) (by omega)).mp h24
      refine x_iconst (v := -1) (pc2 := 37) dX2_stateBehind_36 rfl (by decide) ?_
      refine x_iret dX2_stateBehind_37 rfl ?_
      rw [sB, if_pos (Or.inr (Or.inl ⟨c, by omega⟩))]
      exact ⟨rfl, rfl⟩
    have h24 : ¬ N < s % 4 + 1 := fun q => h24 ((nI_lt_iff (by omega) (by omega)).mpr q)
    exact hrest (fun q => c q.1) (fun q => by omega) _
