/-! copy of both -/
def z_cpV (a b la lb i j n sa sb : Int32) : Int32 := if z_wi a 0 3 = false ∨ z_wi b 0 3 = false then -1 else if la = -9 ∨ lb = -9 then -10 - 1 else if ¬ la = lb then -10 - 2 else if z_hc i n sa = false ∨ z_hc j n sb = false then -10 - 3 else n
theorem z_hc_nat2 {i n : Int32} {z : Nat} (hz : z ≤ 60) (h : z_hc i n (nI z) = true) : ∃ b m, i = nI b ∧ i.toNatClampNeg = b ∧ n = nI m ∧ n.toNatClampNeg = m ∧ b + m ≤ z := by
  unfold z_hc at h
  rw [Bool.and_eq_true, Bool.and_eq_true, Bool.and_eq_true] at h
  have h0 : ¬ n < 0 := by simpa using h.1
  have h1 : ¬ i < 0 := by simpa using h.2.1
  have h2 : ¬ nI z < i := by simpa using h.2.2.1
  have h3 : ¬ nI z - i < n := by simpa using h.2.2.2
  obtain ⟨b, b1, b2, b3⟩ := z_999 h1
  obtain ⟨m, m1, m2, m3⟩ := z_999 h0
  refine ⟨b, m, b1, b2, m1, m2, ?_⟩
  rw [b1, nI_lt_iff (by omega) b3] at h2
  have e : nI z - i = nI (z - b) := by
    rw [b1]
    exact (Int32.ofNat_sub (a := z) (b := b) (by omega)).symm
  rw [e, m1, nI_lt_iff (by omega) m3] at h3
  omega
theorem s_copyC (d : Nat) (σ σ0 : zS) (hσ : σ0 = z_f0 σ) (k i o j n : Int32) (hz : ∀ q, vp_in q 4 → ∃ z : Nat, σ0.1 (14 + q.toNatClampNeg) 1 = nI z ∧ z ≤ 60) : z_Fn mX5_copy (d + 2) [.ref 0, .int k, .int i, .int o, .int j, .int n] σ (.int (z_cpV k o (σ0.1 (14 + k.toNatClampNeg) 0) (σ0.1 (14 + o.toNatClampNeg) 0) i j n (σ0.1 (14 + k.toNatClampNeg) 1) (σ0.1 (14 + o.toNatClampNeg) 1))) (if z_wi k 0 3 = false ∨ z_wi o 0 3 = false then σ0 else if σ0.1 (14 + k.toNatClampNeg) 0 = -9 ∨ σ0.1 (14 + o.toNatClampNeg) 0 = -9 then z_st σ0 0 13 1 else if ¬ σ0.1 (14 + k.toNatClampNeg) 0 = σ0.1 (14 + o.toNatClampNeg) 0 then z_st σ0 0 13 2 else if z_hc i n (σ0.1 (14 + k.toNatClampNeg) 1) = false ∨ z_hc j n (σ0.1 (14 + o.toNatClampNeg) 1) = false then z_st σ0 0 13 3 else z_cp σ0 (14 + k.toNatClampNeg + 4) (14 + o.toNatClampNeg + 4) i.toNatClampNeg j.toNatClampNeg n.toNatClampNeg) := by
  refine x_enter (by decide) (Nat.le_of_ble_eq_true rfl) ?_
  show z_At _ _ _ [.ref 0, .int k, .int i, .int o, .int j, .int n, .null, .null] _ _ _
  unfold z_cpV
  refine x_aload0 (pc2 := 1) dX5_copy_0 rfl ?_
  refine x_iconst (v := 0) (pc2 := 2) dX5_copy_1 rfl (by decide) ?_
  refine x_putI (pc2 := 5) pX5_53 sh_0 rfl dX5_copy_2 rfl ?_
  rw [show z_st σ 0 13 0 = σ0 from hσ.symm]
  clear hσ
  refine x_iload1 (pc2 := 6) dX5_copy_5 rfl ?_
  refine x_fS1 (pc2 := 9) eX5_isSheet kX5_57 (Nat.le_of_ble_eq_true rfl) dX5_copy_6 rfl (s_isSheetC _ _ _) ?_
  refine x_if_eq (pc2 := 12) (pc3 := 19) dX5_copy_9 rfl rfl (fun h9 => ?_) (fun h9 => ?_)
  · have h9' := z_b0.mp h9
    refine x_iconst (v := -1) (pc2 := 20) dX5_copy_19 rfl (by decide) ?_
    refine x_iret dX5_copy_20 rfl ?_
    rw [if_pos (Or.inl h9'), if_pos (Or.inl h9')]
    exact ⟨rfl, rfl⟩
  refine x_iload3 (pc2 := 13) dX5_copy_12 rfl ?_
  refine x_fS1 (pc2 := 16) eX5_isSheet kX5_57 (Nat.le_of_ble_eq_true rfl) dX5_copy_13 rfl (s_isSheetC _ _ _) ?_
  refine x_if_ne (pc2 := 19) (pc3 := 21) dX5_copy_16 rfl rfl (fun h16 => ?_) (fun h16 => ?_)
  rotate_left
  · have h16' := z_b0.mp h16
    refine x_iconst (v := -1) (pc2 := 20) dX5_copy_19 rfl (by decide) ?_
    refine x_iret dX5_copy_20 rfl ?_
    rw [if_pos (Or.inr h16'), if_pos (Or.inr h16')]
    exact ⟨rfl, rfl⟩
  have hA := z_isS_of (z_in_sh h9)
  have hB := z_isS_of (z_in_sh h16)
  obtain ⟨za, za1, za2⟩ := hz k (z_in_sh h9)
  obtain ⟨zb, zb1, zb2⟩ := hz o (z_in_sh h16)
  have n1 : ¬ (z_wi k 0 3 = false ∨ z_wi o 0 3 = false) := by rw [z_bn0.mp h9, z_bn0.mp h16]; decide
  rw [if_neg n1, if_neg n1]
  refine x_aload0 (pc2 := 22) dX5_copy_21 rfl ?_
  refine x_getR (pc2 := 25) fX5_23 sh_0 rfl dX5_copy_22 rfl ?_
  refine x_iload1 (pc2 := 26) dX5_copy_25 rfl ?_
  refine x_aald (pc2 := 27) sh_13 (by first | exact z_in_sh h9 | exact z_in_sh h16) dX5_copy_26 rfl ?_
  refine x_astore6 (pc2 := 29) dX5_copy_27 rfl rfl ?_
  refine x_aload0 (pc2 := 30) dX5_copy_29 rfl ?_
  refine x_getR (pc2 := 33) fX5_23 sh_0 rfl dX5_copy_30 rfl ?_
  refine x_iload3 (pc2 := 34) dX5_copy_33 rfl ?_
  refine x_aald (pc2 := 35) sh_13 (by first | exact z_in_sh h9 | exact z_in_sh h16) dX5_copy_34 rfl ?_
  refine x_astore7 (pc2 := 37) dX5_copy_35 rfl rfl ?_
  refine x_aload6 (pc2 := 39) dX5_copy_37 rfl ?_
  refine x_fV0 (pc2 := 42) eX3_isNothing kX5_218 (sh_S hA) rfl (Nat.le_of_ble_eq_true rfl) dX5_copy_39 rfl (s_isNothing _ _ hA) ?_
  generalize hra : 14 + k.toNatClampNeg = ra at *
  generalize hrb : 14 + o.toNatClampNeg = rb at *
  refine x_if_ne (pc2 := 45) (pc3 := 53) dX5_copy_42 rfl rfl (fun h42 => ?_) (fun h42 => ?_)
  · have h42' := of_decide_eq_true (z_bn0.mp h42)
    refine x_aload0 (pc2 := 54) dX5_copy_53 rfl ?_
    refine x_iconst (v := 1) (pc2 := 55) dX5_copy_54 rfl (by decide) ?_
    refine x_fV1 (pc2 := 58) eX5_faulted kX5_68 sh_0 rfl (Nat.le_of_ble_eq_true rfl) dX5_copy_55 rfl (s_faulted _ _ _) ?_
    refine x_iret dX5_copy_58 rfl ?_
    rw [if_pos (Or.inl h42'), if_pos (Or.inl h42')]
    exact ⟨rfl, rfl⟩
  have h42' := of_decide_eq_false (z_b0.mp h42)
  refine x_aload7 (pc2 := 47) dX5_copy_45 rfl ?_
  refine x_fV0 (pc2 := 50) eX3_isNothing kX5_218 (sh_S hB) rfl (Nat.le_of_ble_eq_true rfl) dX5_copy_47 rfl (s_isNothing _ _ hB) ?_
  refine x_if_eq (pc2 := 53) (pc3 := 59) dX5_copy_50 rfl rfl (fun h50 => ?_) (fun h50 => ?_)
  rotate_left
  · have h50' := of_decide_eq_true (z_bn0.mp h50)
    refine x_aload0 (pc2 := 54) dX5_copy_53 rfl ?_
    refine x_iconst (v := 1) (pc2 := 55) dX5_copy_54 rfl (by decide) ?_
    refine x_fV1 (pc2 := 58) eX5_faulted kX5_68 sh_0 rfl (Nat.le_of_ble_eq_true rfl) dX5_copy_55 rfl (s_faulted _ _ _) ?_
    refine x_iret dX5_copy_58 rfl ?_
    rw [if_pos (Or.inr h50'), if_pos (Or.inr h50')]
    exact ⟨rfl, rfl⟩
  have h50' := of_decide_eq_false (z_b0.mp h50)
  have n2 : ¬ (σ0.1 ra 0 = -9 ∨ σ0.1 rb 0 = -9) := fun q => q.elim h42' h50'
  rw [if_neg n2, if_neg n2]
  refine x_aload6 (pc2 := 61) dX5_copy_59 rfl ?_
  refine x_getI (pc2 := 64) fX5_227 (sh_S hA) rfl dX5_copy_61 rfl ?_
  refine x_aload7 (pc2 := 66) dX5_copy_64 rfl ?_
  refine x_getI (pc2 := 69) fX5_227 (sh_S hB) rfl dX5_copy_66 rfl ?_
  refine x_icmp_eq (pc2 := 72) (pc3 := 78) dX5_copy_69 rfl rfl (fun h69 => ?_) (fun h69 => ?_)
  rotate_left
  · skip
    refine x_aload0 (pc2 := 73) dX5_copy_72 rfl ?_
    refine x_iconst (v := 2) (pc2 := 74) dX5_copy_73 rfl (by decide) ?_
    refine x_fV1 (pc2 := 77) eX5_faulted kX5_68 sh_0 rfl (Nat.le_of_ble_eq_true rfl) dX5_copy_74 rfl (s_faulted _ _ _) ?_
    refine x_iret dX5_copy_77 rfl ?_
    rw [if_pos h69, if_pos h69]
    exact ⟨rfl, rfl⟩
  have n69 : ¬ ¬ σ0.1 ra 0 = σ0.1 rb 0 := fun q => q h69
  rw [if_neg n69, if_neg n69]
  refine x_aload6 (pc2 := 80) dX5_copy_78 rfl ?_
  refine x_iload2 (pc2 := 81) dX5_copy_80 rfl ?_
  refine x_iload5 (pc2 := 83) dX5_copy_81 rfl ?_
  refine x_fV2 (pc2 := 86) eX3_hasCells kX5_71 (sh_S hA) rfl (Nat.le_of_ble_eq_true rfl) dX5_copy_83 rfl (s_hasCells _ _ hA _ _) ?_
  refine x_if_eq (pc2 := 89) (pc3 := 101) dX5_copy_86 rfl rfl (fun h86 => ?_) (fun h86 => ?_)
  · have h86' := z_b0.mp h86
    refine x_aload0 (pc2 := 102) dX5_copy_101 rfl ?_
    refine x_iconst (v := 3) (pc2 := 103) dX5_copy_102 rfl (by decide) ?_
    refine x_fV1 (pc2 := 106) eX5_faulted kX5_68 sh_0 rfl (Nat.le_of_ble_eq_true rfl) dX5_copy_103 rfl (s_faulted _ _ _) ?_
    refine x_iret dX5_copy_106 rfl ?_
    rw [if_pos (Or.inl h86'), if_pos (Or.inl h86')]
    exact ⟨rfl, rfl⟩
  have h86' := z_bn0.mp h86
  refine x_aload7 (pc2 := 91) dX5_copy_89 rfl ?_
  refine x_iload4 (pc2 := 93) dX5_copy_91 rfl ?_
  refine x_iload5 (pc2 := 95) dX5_copy_93 rfl ?_
  refine x_fV2 (pc2 := 98) eX3_hasCells kX5_71 (sh_S hB) rfl (Nat.le_of_ble_eq_true rfl) dX5_copy_95 rfl (s_hasCells _ _ hB _ _) ?_
  refine x_if_ne (pc2 := 101) (pc3 := 107) dX5_copy_98 rfl rfl (fun h98 => ?_) (fun h98 => ?_)
  rotate_left
  · have h98' := z_b0.mp h98
    refine x_aload0 (pc2 := 102) dX5_copy_101 rfl ?_
    refine x_iconst (v := 3) (pc2 := 103) dX5_copy_102 rfl (by decide) ?_
    refine x_fV1 (pc2 := 106) eX5_faulted kX5_68 sh_0 rfl (Nat.le_of_ble_eq_true rfl) dX5_copy_103 rfl (s_faulted _ _ _) ?_
    refine x_iret dX5_copy_106 rfl ?_
    rw [if_pos (Or.inr h98'), if_pos (Or.inr h98')]
    exact ⟨rfl, rfl⟩
  have h98' := z_bn0.mp h98
  have n3 : ¬ (z_hc i n (σ0.1 ra 1) = false ∨ z_hc j n (σ0.1 rb 1) = false) := by rw [h86', h98']; decide
  rw [if_neg n3, if_neg n3]
  rw [za1] at h86'
  rw [zb1] at h98'
  obtain ⟨b, m, b1, b2, m1, m2, bm⟩ := z_hc_nat2 za2 h86'
  obtain ⟨b', m', b1', b2', m1', m2', bm'⟩ := z_hc_nat2 zb2 h98'
  refine x_aload6 (pc2 := 109) dX5_copy_107 rfl ?_
  refine x_getR (pc2 := 112) fX5_167 (sh_S hA) rfl dX5_copy_109 rfl ?_
  refine x_iload2 (pc2 := 113) dX5_copy_112 rfl ?_
  refine x_aload7 (pc2 := 115) dX5_copy_113 rfl ?_
  refine x_getR (pc2 := 118) fX5_167 (sh_S hB) rfl dX5_copy_115 rfl ?_
  refine x_iload4 (pc2 := 120) dX5_copy_118 rfl ?_
  refine x_iload5 (pc2 := 122) dX5_copy_120 rfl ?_
  refine x_acopy (pc2 := 125) w_cpy_link (sh_S1 hA) (sh_S1 hB) ?_ ?_ ?_ ?_ ?_ (Nat.le_of_ble_eq_true rfl) dX5_copy_122 rfl ?_
  · rw [b1]; exact nI_pos (by omega)
  · rw [b1']; exact nI_pos (by omega)
  · rw [m1]; exact nI_pos (by omega)
  · omega
  · omega
  refine x_iload5 (pc2 := 127) dX5_copy_125 rfl ?_
  refine x_iret dX5_copy_127 rfl ?_
  exact ⟨rfl, rfl⟩

/-! the model's copy: a loop in the right direction -/
def z_cq (σ : zS) (src dst lo hi : Nat) : zS := (z_up σ.1 46 (fun p => if dst + lo ≤ p ∧ p < dst + hi then σ.1 46 (src + (p - dst)) else σ.1 46 p), σ.2)
theorem z_cq_0 (σ : zS) (src dst lo : Nat) : z_cq σ src dst lo lo = σ := by
  unfold z_cq z_up
  refine Prod.ext ?_ rfl
  funext q
  by_cases h : q = 46
  · subst h
    simp only [if_true]
    funext j
    rw [if_neg (by omega)]
  · simp [h]
theorem z_cq_at (σ : zS) (src dst lo hi p : Nat) : (z_cq σ src dst lo hi).1 46 p = if dst + lo ≤ p ∧ p < dst + hi then σ.1 46 (src + (p - dst)) else σ.1 46 p := by
  simp [z_cq, z_up]
theorem z_cq_up (σ : zS) {src dst hi : Nat} : z_st (z_cq σ src dst 0 hi) 46 (dst + hi) (σ.1 46 (src + hi)) = z_cq σ src dst 0 (hi + 1) := by
  unfold z_cq z_st z_up upd
  refine Prod.ext ?_ rfl
  funext q
  by_cases h : q = 46
  · subst h
    simp only [if_true]
    funext p
    by_cases hp : p = dst + hi
    · rw [if_pos hp, if_pos (by omega), hp, show src + (dst + hi - dst) = src + hi by omega]
    · rw [if_neg hp]
      by_cases h2 : dst + 0 ≤ p ∧ p < dst + hi
      · rw [if_pos h2, if_pos (by omega)]
      · rw [if_neg h2, if_neg (by omega)]
  · simp [h]
theorem z_cq_dn (σ : zS) {src dst lo hi : Nat} (hlo : lo < hi) : z_st (z_cq σ src dst (lo + 1) hi) 46 (dst + lo) (σ.1 46 (src + lo)) = z_cq σ src dst lo hi := by
  unfold z_cq z_st z_up upd
  refine Prod.ext ?_ rfl
  funext q
  by_cases h : q = 46
  · subst h
    simp only [if_true]
    funext p
    by_cases hp : p = dst + lo
    · rw [if_pos hp, if_pos (by omega), hp, show src + (dst + lo - dst) = src + lo by omega]
    · rw [if_neg hp]
      by_cases h2 : dst + (lo + 1) ≤ p ∧ p < dst + hi
      · rw [if_pos h2, if_pos (by omega)]
      · rw [if_neg h2, if_neg (by omega)]
  · simp [h]
theorem s_copyM (d : Nat) (σ σ0 : zS) (hσ : σ0 = z_g0 σ) (k i o j n : Int32) (hz : ∀ q, vp_in q 4 → σ0.1 44 q.toNatClampNeg ≠ -9 → ∃ z : Nat, σ0.1 45 q.toNatClampNeg = nI z ∧ z ≤ 60) : z_Fn mX6_copy (d + 2) [.ref 43, .int k, .int i, .int o, .int j, .int n] σ (.int (z_cpV k o (σ0.1 44 k.toNatClampNeg) (σ0.1 44 o.toNatClampNeg) i j n (σ0.1 45 k.toNatClampNeg) (σ0.1 45 o.toNatClampNeg))) (if z_wi k 0 3 = false ∨ z_wi o 0 3 = false then σ0 else if σ0.1 44 k.toNatClampNeg = -9 ∨ σ0.1 44 o.toNatClampNeg = -9 then z_st σ0 43 0 1 else if ¬ σ0.1 44 k.toNatClampNeg = σ0.1 44 o.toNatClampNeg then z_st σ0 43 0 2 else if z_hc i n (σ0.1 45 k.toNatClampNeg) = false ∨ z_hc j n (σ0.1 45 o.toNatClampNeg) = false then z_st σ0 43 0 3 else z_cq σ0 (60 * k.toNatClampNeg + i.toNatClampNeg) (60 * o.toNatClampNeg + j.toNatClampNeg) 0 n.toNatClampNeg) := by
  refine x_enter (by decide) (Nat.le_of_ble_eq_true rfl) ?_
  show z_At _ _ _ [.ref 43, .int k, .int i, .int o, .int j, .int n, .null, .null, .null, .null] _ _ _
  unfold z_cpV
  refine x_aload0 (pc2 := 1) dX6_copy_0 rfl ?_
  refine x_iconst (v := 0) (pc2 := 2) dX6_copy_1 rfl (by decide) ?_
  refine x_putI (pc2 := 5) pX6_75 sh_43 rfl dX6_copy_2 rfl ?_
  rw [show z_st σ 43 0 0 = σ0 from hσ.symm]
  clear hσ
  refine x_iload1 (pc2 := 6) dX6_copy_5 rfl ?_
  refine x_fS1 (pc2 := 9) eX6_isSheet kX6_93 (Nat.le_of_ble_eq_true rfl) dX6_copy_6 rfl (s_isSheetM _ _ _) ?_
  refine x_if_eq (pc2 := 12) (pc3 := 19) dX6_copy_9 rfl rfl (fun h9 => ?_) (fun h9 => ?_)
  · have h9' := z_b0.mp h9
    refine x_iconst (v := -1) (pc2 := 20) dX6_copy_19 rfl (by decide) ?_
    refine x_iret dX6_copy_20 rfl ?_
    rw [if_pos (Or.inl h9'), if_pos (Or.inl h9')]
    exact ⟨rfl, rfl⟩
  refine x_iload3 (pc2 := 13) dX6_copy_12 rfl ?_
  refine x_fS1 (pc2 := 16) eX6_isSheet kX6_93 (Nat.le_of_ble_eq_true rfl) dX6_copy_13 rfl (s_isSheetM _ _ _) ?_
  refine x_if_ne (pc2 := 19) (pc3 := 21) dX6_copy_16 rfl rfl (fun h16 => ?_) (fun h16 => ?_)
  rotate_left
  · have h16' := z_b0.mp h16
    refine x_iconst (v := -1) (pc2 := 20) dX6_copy_19 rfl (by decide) ?_
    refine x_iret dX6_copy_20 rfl ?_
    rw [if_pos (Or.inr h16'), if_pos (Or.inr h16')]
    exact ⟨rfl, rfl⟩
  have n1 : ¬ (z_wi k 0 3 = false ∨ z_wi o 0 3 = false) := by rw [z_bn0.mp h9, z_bn0.mp h16]; decide
  rw [if_neg n1, if_neg n1]
  refine x_aload0 (pc2 := 22) dX6_copy_21 rfl ?_
  refine x_getR (pc2 := 25) fX6_9 sh_43 rfl dX6_copy_22 rfl ?_
  refine x_iload1 (pc2 := 26) dX6_copy_25 rfl ?_
  refine x_iald (pc2 := 27) sh_44 (by first | exact z_in_sh h9 | exact z_in_sh h16) dX6_copy_26 rfl ?_
  refine x_bipush (v := -9) (pc2 := 29) dX6_copy_27 rfl (by decide) ?_
  refine x_icmp_eq (pc2 := 32) (pc3 := 43) dX6_copy_29 rfl rfl (fun h29 => ?_) (fun h29 => ?_)
  · skip
    refine x_aload0 (pc2 := 44) dX6_copy_43 rfl ?_
    refine x_iconst (v := 1) (pc2 := 45) dX6_copy_44 rfl (by decide) ?_
    refine x_fV1 (pc2 := 48) eX6_fails kX6_104 sh_43 rfl (Nat.le_of_ble_eq_true rfl) dX6_copy_45 rfl (s_fails _ _ _) ?_
    refine x_iret dX6_copy_48 rfl ?_
    rw [if_pos (Or.inl h29), if_pos (Or.inl h29)]
    exact ⟨rfl, rfl⟩
  refine x_aload0 (pc2 := 33) dX6_copy_32 rfl ?_
  refine x_getR (pc2 := 36) fX6_9 sh_43 rfl dX6_copy_33 rfl ?_
  refine x_iload3 (pc2 := 37) dX6_copy_36 rfl ?_
  refine x_iald (pc2 := 38) sh_44 (by first | exact z_in_sh h9 | exact z_in_sh h16) dX6_copy_37 rfl ?_
  refine x_bipush (v := -9) (pc2 := 40) dX6_copy_38 rfl (by decide) ?_
  refine x_icmp_ne (pc2 := 43) (pc3 := 49) dX6_copy_40 rfl rfl (fun h40 => ?_) (fun h40 => ?_)
  rotate_left
  · skip
    refine x_aload0 (pc2 := 44) dX6_copy_43 rfl ?_
    refine x_iconst (v := 1) (pc2 := 45) dX6_copy_44 rfl (by decide) ?_
    refine x_fV1 (pc2 := 48) eX6_fails kX6_104 sh_43 rfl (Nat.le_of_ble_eq_true rfl) dX6_copy_45 rfl (s_fails _ _ _) ?_
    refine x_iret dX6_copy_48 rfl ?_
    rw [if_pos (Or.inr h40), if_pos (Or.inr h40)]
    exact ⟨rfl, rfl⟩
  have n2 : ¬ (σ0.1 44 k.toNatClampNeg = -9 ∨ σ0.1 44 o.toNatClampNeg = -9) := fun q => q.elim h29 h40
  rw [if_neg n2, if_neg n2]
  refine x_aload0 (pc2 := 50) dX6_copy_49 rfl ?_
  refine x_getR (pc2 := 53) fX6_9 sh_43 rfl dX6_copy_50 rfl ?_
  refine x_iload1 (pc2 := 54) dX6_copy_53 rfl ?_
  refine x_iald (pc2 := 55) sh_44 (by first | exact z_in_sh h9 | exact z_in_sh h16) dX6_copy_54 rfl ?_
  refine x_aload0 (pc2 := 56) dX6_copy_55 rfl ?_
  refine x_getR (pc2 := 59) fX6_9 sh_43 rfl dX6_copy_56 rfl ?_
  refine x_iload3 (pc2 := 60) dX6_copy_59 rfl ?_
  refine x_iald (pc2 := 61) sh_44 (by first | exact z_in_sh h9 | exact z_in_sh h16) dX6_copy_60 rfl ?_
  refine x_icmp_eq (pc2 := 64) (pc3 := 70) dX6_copy_61 rfl rfl (fun h61 => ?_) (fun h61 => ?_)
  rotate_left
  · skip
    refine x_aload0 (pc2 := 65) dX6_copy_64 rfl ?_
    refine x_iconst (v := 2) (pc2 := 66) dX6_copy_65 rfl (by decide) ?_
    refine x_fV1 (pc2 := 69) eX6_fails kX6_104 sh_43 rfl (Nat.le_of_ble_eq_true rfl) dX6_copy_66 rfl (s_fails _ _ _) ?_
    refine x_iret dX6_copy_69 rfl ?_
    rw [if_pos h61, if_pos h61]
    exact ⟨rfl, rfl⟩
  have n61 : ¬ ¬ σ0.1 44 k.toNatClampNeg = σ0.1 44 o.toNatClampNeg := fun q => q h61
  rw [if_neg n61, if_neg n61]
  obtain ⟨za, za1, za2⟩ := hz k (z_in_sh h9) h29
  obtain ⟨zb, zb1, zb2⟩ := hz o (z_in_sh h16) h40
  have hwr : z_hc i n (σ0.1 45 k.toNatClampNeg) = false ∨ z_hc j n (σ0.1 45 o.toNatClampNeg) = false → ∀ l6 : Int32, z_At mX6_copy (d + 2) 144 [.ref 43, .int k, .int i, .int o, .int j, .int n, .int l6, .null, .null, .null] [] σ0 (fun rv σ' => rv = some (.int (if z_hc i n (σ0.1 45 k.toNatClampNeg) = false ∨ z_hc j n (σ0.1 45 o.toNatClampNeg) = false then -10 - 3 else n)) ∧ σ' = if z_hc i n (σ0.1 45 k.toNatClampNeg) = false ∨ z_hc j n (σ0.1 45 o.toNatClampNeg) = false then z_st σ0 43 0 3 else z_cq σ0 (60 * k.toNatClampNeg + i.toNatClampNeg) (60 * o.toNatClampNeg + j.toNatClampNeg) 0 n.toNatClampNeg) := by
    intro q l6
    rw [if_pos q]
    refine x_aload0 (pc2 := 145) dX6_copy_144 rfl ?_
    refine x_iconst (v := 3) (pc2 := 146) dX6_copy_145 rfl (by decide) ?_
    refine x_fV1 (pc2 := 149) eX6_fails kX6_104 sh_43 rfl (Nat.le_of_ble_eq_true rfl) dX6_copy_146 rfl (s_fails _ _ _) ?_
    refine x_iret dX6_copy_149 rfl ?_
    refine ⟨rfl, ?_⟩
    rw [if_pos q]
  have hwr109 : z_hc i n (σ0.1 45 k.toNatClampNeg) = false ∨ z_hc j n (σ0.1 45 o.toNatClampNeg) = false → z_At mX6_copy (d + 2) 109 [.ref 43, .int k, .int i, .int o, .int j, .int n, .null, .null, .null, .null] [] σ0 (fun rv σ' => rv = some (.int (if z_hc i n (σ0.1 45 k.toNatClampNeg) = false ∨ z_hc j n (σ0.1 45 o.toNatClampNeg) = false then -10 - 3 else n)) ∧ σ' = if z_hc i n (σ0.1 45 k.toNatClampNeg) = false ∨ z_hc j n (σ0.1 45 o.toNatClampNeg) = false then z_st σ0 43 0 3 else z_cq σ0 (60 * k.toNatClampNeg + i.toNatClampNeg) (60 * o.toNatClampNeg + j.toNatClampNeg) 0 n.toNatClampNeg) := by
    intro q
    refine x_iconst (v := 0) (pc2 := 110) dX6_copy_109 rfl (by decide) ?_
    refine x_istore6 (pc2 := 112) dX6_copy_110 rfl rfl ?_
    refine x_iload6 (pc2 := 114) dX6_copy_112 rfl ?_
    refine x_if_eq (pc2 := 117) (pc3 := 144) dX6_copy_114 rfl rfl (fun h114 => ?_) (fun h114 => ?_)
    · exact hwr q 0
    · exact absurd rfl h114
  have hcF : ∀ {a b s : Int32}, (b < 0 ∨ a < 0 ∨ s < a ∨ s - a < b) → z_hc a b s = false := fun q => by
    unfold z_hc
    rcases q with q | q | q | q <;> simp [q]
  refine x_iload2 (pc2 := 71) dX6_copy_70 rfl ?_
  refine x_if_lt (pc2 := 74) (pc3 := 109) dX6_copy_71 rfl rfl (fun h71 => ?_) (fun h71 => ?_)
  · exact hwr109 (Or.inl (hcF (Or.inr (Or.inl h71))))
  refine x_iload4 (pc2 := 76) dX6_copy_74 rfl ?_
  refine x_if_lt (pc2 := 79) (pc3 := 109) dX6_copy_76 rfl rfl (fun h76 => ?_) (fun h76 => ?_)
  · exact hwr109 (Or.inr (hcF (Or.inr (Or.inl h76))))
  refine x_iload5 (pc2 := 81) dX6_copy_79 rfl ?_
  refine x_if_lt (pc2 := 84) (pc3 := 109) dX6_copy_81 rfl rfl (fun h81 => ?_) (fun h81 => ?_)
  · exact hwr109 (Or.inl (hcF (Or.inl h81)))
  refine x_iload2 (pc2 := 85) dX6_copy_84 rfl ?_
  refine x_aload0 (pc2 := 86) dX6_copy_85 rfl ?_
  refine x_getR (pc2 := 89) fX6_13 sh_43 rfl dX6_copy_86 rfl ?_
  refine x_iload1 (pc2 := 90) dX6_copy_89 rfl ?_
  refine x_iald (pc2 := 91) sh_45 (by first | exact z_in_sh h9 | exact z_in_sh h16) dX6_copy_90 rfl ?_
  refine x_icmp_gt (pc2 := 94) (pc3 := 109) dX6_copy_91 rfl rfl (fun h91 => ?_) (fun h91 => ?_)
  · exact hwr109 (Or.inl (hcF (Or.inr (Or.inr (Or.inl h91)))))
  refine x_iload4 (pc2 := 96) dX6_copy_94 rfl ?_
  refine x_aload0 (pc2 := 97) dX6_copy_96 rfl ?_
  refine x_getR (pc2 := 100) fX6_13 sh_43 rfl dX6_copy_97 rfl ?_
  refine x_iload3 (pc2 := 101) dX6_copy_100 rfl ?_
  refine x_iald (pc2 := 102) sh_45 (by first | exact z_in_sh h9 | exact z_in_sh h16) dX6_copy_101 rfl ?_
  refine x_icmp_gt (pc2 := 105) (pc3 := 109) dX6_copy_102 rfl rfl (fun h102 => ?_) (fun h102 => ?_)
  · exact hwr109 (Or.inr (hcF (Or.inr (Or.inr (Or.inl h102)))))
  refine x_iconst (v := 1) (pc2 := 106) dX6_copy_105 rfl (by decide) ?_
  refine x_goto (pc2 := 110) dX6_copy_106 rfl ?_
  refine x_istore6 (pc2 := 112) dX6_copy_110 rfl rfl ?_
  refine x_iload6 (pc2 := 114) dX6_copy_112 rfl ?_
  refine x_if_eq (pc2 := 117) (pc3 := 144) dX6_copy_114 rfl rfl (fun h114 => ?_) (fun h114 => ?_)
  · exact absurd h114 (by decide)
  refine x_iload5 (pc2 := 119) dX6_copy_117 rfl ?_
  refine x_aload0 (pc2 := 120) dX6_copy_119 rfl ?_
  refine x_getR (pc2 := 123) fX6_13 sh_43 rfl dX6_copy_120 rfl ?_
  refine x_iload1 (pc2 := 124) dX6_copy_123 rfl ?_
  refine x_iald (pc2 := 125) sh_45 (by first | exact z_in_sh h9 | exact z_in_sh h16) dX6_copy_124 rfl ?_
  refine x_iload2 (pc2 := 126) dX6_copy_125 rfl ?_
  refine x_isub (pc2 := 127) dX6_copy_126 rfl ?_
  refine x_icmp_gt (pc2 := 130) (pc3 := 144) dX6_copy_127 rfl rfl (fun h127 => ?_) (fun h127 => ?_)
  · exact hwr (Or.inl (hcF (Or.inr (Or.inr (Or.inr h127))))) 1
  refine x_iload5 (pc2 := 132) dX6_copy_130 rfl ?_
  refine x_aload0 (pc2 := 133) dX6_copy_132 rfl ?_
  refine x_getR (pc2 := 136) fX6_13 sh_43 rfl dX6_copy_133 rfl ?_
  refine x_iload3 (pc2 := 137) dX6_copy_136 rfl ?_
  refine x_iald (pc2 := 138) sh_45 (by first | exact z_in_sh h9 | exact z_in_sh h16) dX6_copy_137 rfl ?_
  refine x_iload4 (pc2 := 140) dX6_copy_138 rfl ?_
  refine x_isub (pc2 := 141) dX6_copy_140 rfl ?_
  refine x_icmp_le (pc2 := 144) (pc3 := 150) dX6_copy_141 rfl rfl (fun h141 => ?_) (fun h141 => ?_)
  rotate_left
  · exact hwr (Or.inr (hcF (Or.inr (Or.inr (Or.inr (Int32.not_le.mp h141)))))) 1
  have hA : z_hc i n (σ0.1 45 k.toNatClampNeg) = true := by
    unfold z_hc
    simp [h71, h81, h91, h127]
  have hB : z_hc j n (σ0.1 45 o.toNatClampNeg) = true := by
    unfold z_hc
    simp [h76, h81, h102, Int32.not_lt.mpr h141]
  have n3 : ¬ (z_hc i n (σ0.1 45 k.toNatClampNeg) = false ∨ z_hc j n (σ0.1 45 o.toNatClampNeg) = false) := by rw [hA, hB]; decide
  rw [if_neg n3, if_neg n3]
  rw [za1] at hA
  rw [zb1] at hB
  obtain ⟨b, m, b1, b2, m1, m2, bm⟩ := z_hc_nat2 za2 hA
  obtain ⟨b', m', b1', b2', m1', m2', bm'⟩ := z_hc_nat2 zb2 hB
  obtain rfl : m = m' := by omega
  have hkv := z_in_sh h9
  have hov := z_in_sh h16
  have hk4 : k.toNatClampNeg < 4 := Nat.not_le.mp fun q => hkv (Or.inr q)
  have ho4 : o.toNatClampNeg < 4 := Nat.not_le.mp fun q => hov (Or.inr q)
  have eA : 60 * k + i = nI (60 * k.toNatClampNeg + b) := by rw [z_cellAt hkv h71, b2]
  have eB : 60 * o + j = nI (60 * o.toNatClampNeg + b') := by rw [z_cellAt hov h76, b2']
  rw [b2, b2', m2]
  clear hwr hwr109 hcF n3 hA hB hz n1 n2 n61
  generalize k.toNatClampNeg = k' at *
  generalize o.toNatClampNeg = o' at *
  have loop : ∀ (ah : Bool) (c q : Nat), q + c = m → (ah = true → b < b') → (ah = false → b' ≤ b) → ∀ o9 : Value, z_At mX6_copy (d + 2) 166 [.ref 43, .int k, .int i, .int o, .int j, .int n, .int 1, .int (z_b ah), .int (nI q), o9] [] (if ah then z_cq σ0 (60 * k' + b) (60 * o' + b') (m - q) m else z_cq σ0 (60 * k' + b) (60 * o' + b') 0 q) (fun rv σ' => rv = some (.int n) ∧ σ' = z_cq σ0 (60 * k' + b) (60 * o' + b') 0 m) := by
    intro ah c
    induction c with
    | zero =>
      intro q hq a1 a2 o9
      obtain rfl : q = m := by omega
      refine x_iload8 (pc2 := 168) dX6_copy_166 rfl ?_
      refine x_iload5 (pc2 := 170) dX6_copy_168 rfl ?_
      refine x_icmp_ge (pc2 := 173) (pc3 := 227) dX6_copy_170 rfl rfl (fun h170 => ?_) (fun h170 => ?_)
      · skip
        refine x_iload5 (pc2 := 229) dX6_copy_227 rfl ?_
        refine x_iret dX6_copy_229 rfl ?_
        refine ⟨rfl, ?_⟩
        cases ah
        · rfl
        · rw [if_pos rfl, Nat.sub_self]
      · exact absurd (by rw [m1]; exact Int32.le_refl _) h170
    | succ c ih =>
      intro q hq a1 a2 o9
      refine x_iload8 (pc2 := 168) dX6_copy_166 rfl ?_
      refine x_iload5 (pc2 := 170) dX6_copy_168 rfl ?_
      refine x_icmp_ge (pc2 := 173) (pc3 := 227) dX6_copy_170 rfl rfl (fun h170 => ?_) (fun h170 => ?_)
      · rw [m1] at h170
        exact absurd h170 (nI_ge (by omega) (by omega))
      · cases ah
        · rw [if_neg (by decide)]
          have ih := fun o9 => ih (q + 1) (by omega) a1 a2 o9
          have a2 := a2 rfl
          refine x_iload7 (pc2 := 175) dX6_copy_173 rfl ?_
          refine x_if_eq (pc2 := 178) (pc3 := 188) dX6_copy_175 rfl rfl (fun h175 => ?_) (fun h175 => ?_)
          rotate_left
          · exact absurd rfl h175
          refine x_iload8 (pc2 := 190) dX6_copy_188 rfl ?_
          refine x_istore9 (pc2 := 192) dX6_copy_190 rfl rfl ?_
          refine x_aload0 (pc2 := 193) dX6_copy_192 rfl ?_
          refine x_getR (pc2 := 196) fX6_16 sh_43 rfl dX6_copy_193 rfl ?_
          refine x_bipush (v := 60) (pc2 := 198) dX6_copy_196 rfl (by decide) ?_
          refine x_iload3 (pc2 := 199) dX6_copy_198 rfl ?_
          refine x_imul (pc2 := 200) dX6_copy_199 rfl ?_
          refine x_iload4 (pc2 := 202) dX6_copy_200 rfl ?_
          refine x_iadd (pc2 := 203) dX6_copy_202 rfl ?_
          refine x_iload9 (pc2 := 205) dX6_copy_203 rfl ?_
          rw [eB]
          refine x_iadd (pc2 := 206) dX6_copy_205 rfl ?_
          rw [z_nIadd]
          refine x_aload0 (pc2 := 207) dX6_copy_206 rfl ?_
          refine x_getR (pc2 := 210) fX6_16 sh_43 rfl dX6_copy_207 rfl ?_
          refine x_bipush (v := 60) (pc2 := 212) dX6_copy_210 rfl (by decide) ?_
          refine x_iload1 (pc2 := 213) dX6_copy_212 rfl ?_
          refine x_imul (pc2 := 214) dX6_copy_213 rfl ?_
          refine x_iload2 (pc2 := 215) dX6_copy_214 rfl ?_
          refine x_iadd (pc2 := 216) dX6_copy_215 rfl ?_
          refine x_iload9 (pc2 := 218) dX6_copy_216 rfl ?_
          rw [eA]
          refine x_iadd (pc2 := 219) dX6_copy_218 rfl ?_
          rw [z_nIadd]
          refine x_iald (pc2 := 220) sh_46 (by exact z_in (by omega)) dX6_copy_219 rfl ?_
          refine x_iast (pc2 := 221) sh_46 (by exact z_in (by omega)) dX6_copy_220 rfl ?_
          refine x_iinc8 (pc2 := 224) dX6_copy_221 rfl (z_inc1 _) rfl ?_
          refine x_goto (pc2 := 166) dX6_copy_224 rfl ?_
          rw [← nI_succ, nI_clamp (by omega), nI_clamp (by omega), z_cq_at, if_neg (by omega), z_cq_up]
          have := ih (.int (nI q))
          rw [if_neg (by decide)] at this
          exact this
        · rw [if_pos rfl]
          have ih := fun o9 => ih (q + 1) (by omega) a1 a2 o9
          have a1 := a1 rfl
          refine x_iload7 (pc2 := 175) dX6_copy_173 rfl ?_
          refine x_if_eq (pc2 := 178) (pc3 := 188) dX6_copy_175 rfl rfl (fun h175 => ?_) (fun h175 => ?_)
          · exact absurd h175 (by decide)
          refine x_iload5 (pc2 := 180) dX6_copy_178 rfl ?_
          refine x_iconst (v := 1) (pc2 := 181) dX6_copy_180 rfl (by decide) ?_
          refine x_isub (pc2 := 182) dX6_copy_181 rfl ?_
          refine x_iload8 (pc2 := 184) dX6_copy_182 rfl ?_
          refine x_isub (pc2 := 185) dX6_copy_184 rfl ?_
          rw [m1, show (nI m - 1 - nI q : Int32) = nI (m - 1 - q) from by
            rw [show (1 : Int32) = nI 1 from rfl, show nI m - nI 1 = nI (m - 1) from (Int32.ofNat_sub (a := m) (b := 1) (by omega)).symm]
            exact (Int32.ofNat_sub (a := m - 1) (b := q) (by omega)).symm]
          refine x_goto (pc2 := 190) dX6_copy_185 rfl ?_
          refine x_istore9 (pc2 := 192) dX6_copy_190 rfl rfl ?_
          refine x_aload0 (pc2 := 193) dX6_copy_192 rfl ?_
          refine x_getR (pc2 := 196) fX6_16 sh_43 rfl dX6_copy_193 rfl ?_
          refine x_bipush (v := 60) (pc2 := 198) dX6_copy_196 rfl (by decide) ?_
          refine x_iload3 (pc2 := 199) dX6_copy_198 rfl ?_
          refine x_imul (pc2 := 200) dX6_copy_199 rfl ?_
          refine x_iload4 (pc2 := 202) dX6_copy_200 rfl ?_
          refine x_iadd (pc2 := 203) dX6_copy_202 rfl ?_
          refine x_iload9 (pc2 := 205) dX6_copy_203 rfl ?_
          rw [eB]
          refine x_iadd (pc2 := 206) dX6_copy_205 rfl ?_
          rw [z_nIadd]
          refine x_aload0 (pc2 := 207) dX6_copy_206 rfl ?_
          refine x_getR (pc2 := 210) fX6_16 sh_43 rfl dX6_copy_207 rfl ?_
          refine x_bipush (v := 60) (pc2 := 212) dX6_copy_210 rfl (by decide) ?_
          refine x_iload1 (pc2 := 213) dX6_copy_212 rfl ?_
          refine x_imul (pc2 := 214) dX6_copy_213 rfl ?_
          refine x_iload2 (pc2 := 215) dX6_copy_214 rfl ?_
          refine x_iadd (pc2 := 216) dX6_copy_215 rfl ?_
          refine x_iload9 (pc2 := 218) dX6_copy_216 rfl ?_
          rw [eA]
          refine x_iadd (pc2 := 219) dX6_copy_218 rfl ?_
          rw [z_nIadd]
          refine x_iald (pc2 := 220) sh_46 (by exact z_in (by omega)) dX6_copy_219 rfl ?_
          refine x_iast (pc2 := 221) sh_46 (by exact z_in (by omega)) dX6_copy_220 rfl ?_
          refine x_iinc8 (pc2 := 224) dX6_copy_221 rfl (z_inc1 _) rfl ?_
          refine x_goto (pc2 := 166) dX6_copy_224 rfl ?_
          rw [← nI_succ, nI_clamp (by omega), nI_clamp (by omega), z_cq_at, if_neg (by omega)]
          have e := z_cq_dn σ0 (src := 60 * k' + b) (dst := 60 * o' + b') (lo := m - 1 - q) (hi := m) (by omega)
          rw [show m - 1 - q + 1 = m - q by omega] at e
          rw [e]
          have := ih (.int (nI (m - 1 - q)))
          rw [if_pos rfl, show m - (q + 1) = m - 1 - q by omega, m1] at this
          exact this
  refine x_iload2 (pc2 := 151) dX6_copy_150 rfl ?_
  refine x_iload4 (pc2 := 153) dX6_copy_151 rfl ?_
  refine x_icmp_ge (pc2 := 156) (pc3 := 160) dX6_copy_153 rfl rfl (fun h153 => ?_) (fun h153 => ?_)
  · rw [b1, b1', nI_le_iff (by omega) (by omega)] at h153
    refine x_iconst (v := 0) (pc2 := 161) dX6_copy_160 rfl (by decide) ?_
    refine x_istore7 (pc2 := 163) dX6_copy_161 rfl rfl ?_
    refine x_iconst (v := 0) (pc2 := 164) dX6_copy_163 rfl (by decide) ?_
    refine x_istore8 (pc2 := 166) dX6_copy_164 rfl rfl ?_
    have := loop false m 0 (by omega) (fun q => by cases q) (fun _ => h153) .null
    rw [if_neg (by decide), z_cq_0] at this
    exact this
  · rw [b1, b1', nI_le_iff (by omega) (by omega)] at h153
    refine x_iconst (v := 1) (pc2 := 157) dX6_copy_156 rfl (by decide) ?_
    refine x_goto (pc2 := 161) dX6_copy_157 rfl ?_
    refine x_istore7 (pc2 := 163) dX6_copy_161 rfl rfl ?_
    refine x_iconst (v := 0) (pc2 := 164) dX6_copy_163 rfl (by decide) ?_
    refine x_istore8 (pc2 := 166) dX6_copy_164 rfl rfl ?_
    have := loop true m 0 (by omega) (fun _ => by omega) (fun q => by cases q) .null
    rw [if_pos rfl, Nat.sub_zero, z_cq_0] at this
    exact this
