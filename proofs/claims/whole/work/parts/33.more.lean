/-! boards, tell, hail, as, reading, back of both -/
theorem s_boardsC (d : Nat) (σ : zS) (k a : Int32) (ha : a = 0 ∨ a = 1) {N : Nat} (hN : σ.1 1 2 = nI N) (hN3 : N ≤ 3) : z_Fn mX5_boards (d + 1) [.ref 0, .int k, .int a] σ (.int (if z_rng k (σ.1 1 2) = false then -1 else if σ.1 4 k.toNatClampNeg = a then 0 else 1)) (if z_rng k (σ.1 1 2) = false then σ else if σ.1 4 k.toNatClampNeg = a then σ else z_fg (z_st σ 4 k.toNatClampNeg a)) := by
  refine x_enter (by decide) (Nat.le_of_ble_eq_true rfl) ?_
  show z_At _ _ _ [.ref 0, .int k, .int a] _ _ _
  refine x_aload0 (pc2 := 1) dX5_boards_0 rfl ?_
  refine x_getR (pc2 := 4) fX5_12 sh_0 rfl dX5_boards_1 rfl ?_
  refine x_iload1 (pc2 := 5) dX5_boards_4 rfl ?_
  refine x_fV1 (pc2 := 8) eX0_hasStage kX5_92 sh_1 rfl (Nat.le_of_ble_eq_true rfl) dX5_boards_5 rfl (s_hasStage _ _ z_P1 _) ?_
  refine x_if_ne (pc2 := 11) (pc3 := 13) dX5_boards_8 rfl rfl (fun h8 => ?_) (fun h8 => ?_)
  · skip
    refine x_aload0 (pc2 := 14) dX5_boards_13 rfl ?_
    refine x_getR (pc2 := 17) fX5_12 sh_0 rfl dX5_boards_14 rfl ?_
    refine x_getR (pc2 := 20) fX5_101 sh_1 rfl dX5_boards_17 rfl ?_
    refine x_iload1 (pc2 := 21) dX5_boards_20 rfl ?_
    refine x_zald (pc2 := 22) sh_4 (by exact z_in_bN h8 hN hN3) dX5_boards_21 rfl ?_
    refine x_iload2 (pc2 := 23) dX5_boards_22 rfl ?_
    refine x_icmp_ne (pc2 := 26) (pc3 := 28) dX5_boards_23 rfl rfl (fun h23 => ?_) (fun h23 => ?_)
    · skip
      refine x_aload0 (pc2 := 29) dX5_boards_28 rfl ?_
      refine x_getR (pc2 := 32) fX5_12 sh_0 rfl dX5_boards_29 rfl ?_
      refine x_getR (pc2 := 35) fX5_101 sh_1 rfl dX5_boards_32 rfl ?_
      refine x_iload1 (pc2 := 36) dX5_boards_35 rfl ?_
      refine x_iload2 (pc2 := 37) dX5_boards_36 rfl ?_
      refine x_zast (pc2 := 38) sh_4 (by exact z_in_bN h8 hN hN3) (by first | assumption | exact z_b01 _ | exact Or.inl rfl | exact Or.inr rfl) dX5_boards_37 rfl ?_
      refine x_aload0 (pc2 := 39) dX5_boards_38 rfl ?_
      refine x_pV0 (pc2 := 42) eX5_forgetSearches kX5_86 sh_0 rfl (Nat.le_of_ble_eq_true rfl) dX5_boards_39 rfl (s_forget _ _) ?_
      refine x_iconst (v := 1) (pc2 := 43) dX5_boards_42 rfl (by decide) ?_
      refine x_iret dX5_boards_43 rfl ?_
      clear ha; rw [hN] at *; exact ⟨by simp only [z_b0, z_bn0] at *; simp [*], by simp only [z_b0, z_bn0] at *; simp [z_fg, *]⟩
    · skip
      refine x_iconst (v := 0) (pc2 := 27) dX5_boards_26 rfl (by decide) ?_
      refine x_iret dX5_boards_27 rfl ?_
      clear ha; rw [hN] at *; exact ⟨by simp only [z_b0, z_bn0] at *; simp [*], by simp only [z_b0, z_bn0] at *; simp [z_fg, *]⟩
  · skip
    refine x_iconst (v := -1) (pc2 := 12) dX5_boards_11 rfl (by decide) ?_
    refine x_iret dX5_boards_12 rfl ?_
    clear ha; rw [hN] at *; exact ⟨by simp only [z_b0, z_bn0] at *; simp [*], by simp only [z_b0, z_bn0] at *; simp [z_fg, *]⟩
theorem s_boardsM (d : Nat) (σ : zS) (k a : Int32) (ha : a = 0 ∨ a = 1) {N : Nat} (hN : σ.1 43 6 = nI N) (hN3 : N ≤ 3) : z_Fn mX6_boards (d + 1) [.ref 43, .int k, .int a] σ (.int (if z_rng k (σ.1 43 6) = false then -1 else if σ.1 49 k.toNatClampNeg = a then 0 else 1)) (if z_rng k (σ.1 43 6) = false then σ else z_st σ 49 k.toNatClampNeg a) := by
  refine x_enter (by decide) (Nat.le_of_ble_eq_true rfl) ?_
  show z_At _ _ _ [.ref 43, .int k, .int a, .null] _ _ _
  refine x_aload0 (pc2 := 1) dX6_boards_0 rfl ?_
  refine x_iload1 (pc2 := 2) dX6_boards_1 rfl ?_
  refine x_fV1 (pc2 := 5) eX6_isStage kX6_140 sh_43 rfl (Nat.le_of_ble_eq_true rfl) dX6_boards_2 rfl (s_isStage _ _ _) ?_
  refine x_if_ne (pc2 := 8) (pc3 := 10) dX6_boards_5 rfl rfl (fun h5 => ?_) (fun h5 => ?_)
  · skip
    refine x_aload0 (pc2 := 11) dX6_boards_10 rfl ?_
    refine x_getR (pc2 := 14) fX6_29 sh_43 rfl dX6_boards_11 rfl ?_
    refine x_iload1 (pc2 := 15) dX6_boards_14 rfl ?_
    refine x_zald (pc2 := 16) sh_49 (by exact z_in_bN h5 hN hN3) dX6_boards_15 rfl ?_
    refine x_istore3 (pc2 := 17) dX6_boards_16 rfl rfl ?_
    refine x_aload0 (pc2 := 18) dX6_boards_17 rfl ?_
    refine x_getR (pc2 := 21) fX6_29 sh_43 rfl dX6_boards_18 rfl ?_
    refine x_iload1 (pc2 := 22) dX6_boards_21 rfl ?_
    refine x_iload2 (pc2 := 23) dX6_boards_22 rfl ?_
    refine x_zast (pc2 := 24) sh_49 (by exact z_in_bN h5 hN hN3) (by first | assumption | exact z_b01 _ | exact Or.inl rfl | exact Or.inr rfl) dX6_boards_23 rfl ?_
    refine x_iload3 (pc2 := 25) dX6_boards_24 rfl ?_
    refine x_iload2 (pc2 := 26) dX6_boards_25 rfl ?_
    refine x_icmp_ne (pc2 := 29) (pc3 := 33) dX6_boards_26 rfl rfl (fun h26 => ?_) (fun h26 => ?_)
    · skip
      refine x_iconst (v := 1) (pc2 := 34) dX6_boards_33 rfl (by decide) ?_
      refine x_iret dX6_boards_34 rfl ?_
      clear ha; rw [hN] at *; exact ⟨by simp only [z_b0, z_bn0] at *; simp [*], by simp only [z_b0, z_bn0] at *; simp [*]⟩
    · skip
      refine x_iconst (v := 0) (pc2 := 30) dX6_boards_29 rfl (by decide) ?_
      refine x_goto (pc2 := 34) dX6_boards_30 rfl ?_
      refine x_iret dX6_boards_34 rfl ?_
      clear ha; rw [hN] at *; exact ⟨by simp only [z_b0, z_bn0] at *; simp [*], by simp only [z_b0, z_bn0] at *; simp [*]⟩
  · skip
    refine x_iconst (v := -1) (pc2 := 9) dX6_boards_8 rfl (by decide) ?_
    refine x_iret dX6_boards_9 rfl ?_
    clear ha; rw [hN] at *; exact ⟨by simp only [z_b0, z_bn0] at *; simp [*], by simp only [z_b0, z_bn0] at *; simp [*]⟩
def z_lv (σ : zS) (b : Int32) : zS := z_st σ 0 12 (31 * σ.1 0 12 + b)
def z_mv (σ : zS) (b : Int32) : zS := z_st σ 43 1 (31 * σ.1 43 1 + b)
theorem s_tellThing (d : Nat) (σ : zS) (t : Int32) (hin : vp_in t 4) : z_Fn mX5_tellAsThing (d + 1) [.ref 0, .int t] σ (.int (σ.1 6 t.toNatClampNeg)) (z_lv σ 1) := by
  refine x_enter (by decide) (Nat.le_of_ble_eq_true rfl) ?_
  show z_At _ _ _ [.ref 0, .int t] _ _ _
  refine x_aload0 (pc2 := 1) dX5_tellAsThing_0 rfl ?_
  refine x_iconst (v := 1) (pc2 := 2) dX5_tellAsThing_1 rfl (by decide) ?_
  refine x_pV1 (pc2 := 5) eX5_leave kX5_245 sh_0 rfl (Nat.le_of_ble_eq_true rfl) dX5_tellAsThing_2 rfl (s_leave _ _ _) ?_
  refine x_aload0 (pc2 := 6) dX5_tellAsThing_5 rfl ?_
  refine x_getR (pc2 := 9) fX5_12 sh_0 rfl dX5_tellAsThing_6 rfl ?_
  refine x_getR (pc2 := 12) fX5_111 sh_1 rfl dX5_tellAsThing_9 rfl ?_
  refine x_iload1 (pc2 := 13) dX5_tellAsThing_12 rfl ?_
  refine x_iald (pc2 := 14) sh_6 (by exact hin) dX5_tellAsThing_13 rfl ?_
  refine x_iret dX5_tellAsThing_14 rfl ?_
  exact ⟨rfl, rfl⟩
theorem s_tellFood (d : Nat) (σ : zS) (t : Int32) (hin : vp_in t 4) : z_Fn mX5_tellAsFood (d + 2) [.ref 0, .int t] σ (.int (σ.1 6 t.toNatClampNeg + 100)) (z_lv (z_lv σ 2) 1) := by
  refine x_enter (by decide) (Nat.le_of_ble_eq_true rfl) ?_
  show z_At _ _ _ [.ref 0, .int t] _ _ _
  refine x_aload0 (pc2 := 1) dX5_tellAsFood_0 rfl ?_
  refine x_iconst (v := 2) (pc2 := 2) dX5_tellAsFood_1 rfl (by decide) ?_
  refine x_pV1 (pc2 := 5) eX5_leave kX5_245 sh_0 rfl (Nat.le_of_ble_eq_true rfl) dX5_tellAsFood_2 rfl (s_leave _ _ _) ?_
  refine x_aload0 (pc2 := 6) dX5_tellAsFood_5 rfl ?_
  refine x_iload1 (pc2 := 7) dX5_tellAsFood_6 rfl ?_
  refine x_fV1 (pc2 := 10) eX5_tellAsThing kX5_242 sh_0 rfl (Nat.le_of_ble_eq_true rfl) dX5_tellAsFood_7 rfl (s_tellThing _ _ _ hin) ?_
  refine x_bipush (v := 100) (pc2 := 12) dX5_tellAsFood_10 rfl (by decide) ?_
  refine x_iadd (pc2 := 13) dX5_tellAsFood_12 rfl ?_
  refine x_iret dX5_tellAsFood_13 rfl ?_
  exact ⟨rfl, rfl⟩
theorem s_tellChild (d : Nat) (σ : zS) (t : Int32) (hin : vp_in t 4) : z_Fn mX5_tellAsChild (d + 3) [.ref 0, .int t] σ (.int (σ.1 6 t.toNatClampNeg + 100 + σ.1 6 t.toNatClampNeg)) (z_lv (z_lv (z_lv (z_lv σ 3) 2) 1) 1) := by
  refine x_enter (by decide) (Nat.le_of_ble_eq_true rfl) ?_
  show z_At _ _ _ [.ref 0, .int t, .null] _ _ _
  refine x_aload0 (pc2 := 1) dX5_tellAsChild_0 rfl ?_
  refine x_iconst (v := 3) (pc2 := 2) dX5_tellAsChild_1 rfl (by decide) ?_
  refine x_pV1 (pc2 := 5) eX5_leave kX5_245 sh_0 rfl (Nat.le_of_ble_eq_true rfl) dX5_tellAsChild_2 rfl (s_leave _ _ _) ?_
  refine x_aload0 (pc2 := 6) dX5_tellAsChild_5 rfl ?_
  refine x_iload1 (pc2 := 7) dX5_tellAsChild_6 rfl ?_
  refine x_fV1 (pc2 := 10) eX5_tellAsFood kX5_239 sh_0 rfl (Nat.le_of_ble_eq_true rfl) dX5_tellAsChild_7 rfl (s_tellFood _ _ _ hin) ?_
  refine x_istore2 (pc2 := 11) dX5_tellAsChild_10 rfl rfl ?_
  refine x_iload2 (pc2 := 12) dX5_tellAsChild_11 rfl ?_
  refine x_aload0 (pc2 := 13) dX5_tellAsChild_12 rfl ?_
  refine x_iload1 (pc2 := 14) dX5_tellAsChild_13 rfl ?_
  refine x_fV1 (pc2 := 17) eX5_tellAsThing kX5_242 sh_0 rfl (Nat.le_of_ble_eq_true rfl) dX5_tellAsChild_14 rfl (s_tellThing _ _ _ hin) ?_
  refine x_iadd (pc2 := 18) dX5_tellAsChild_17 rfl ?_
  refine x_iret dX5_tellAsChild_18 rfl ?_
  exact ⟨rfl, rfl⟩
theorem s_tellC (d : Nat) (σ : zS) (t : Int32) {K : Nat} (hK : σ.1 1 6 = nI K) (hK4 : K ≤ 4) : z_Fn mX5_tell (d + 4) [.ref 0, .int t] σ (.int (if z_rng t (σ.1 1 6) = false then -1 else if σ.1 5 t.toNatClampNeg = 1 then σ.1 6 t.toNatClampNeg + 100 else if σ.1 5 t.toNatClampNeg = 2 then σ.1 6 t.toNatClampNeg + 100 + σ.1 6 t.toNatClampNeg else σ.1 6 t.toNatClampNeg)) (if z_rng t (σ.1 1 6) = false then σ else if σ.1 5 t.toNatClampNeg = 1 then z_lv (z_lv σ 2) 1 else if σ.1 5 t.toNatClampNeg = 2 then z_lv (z_lv (z_lv (z_lv σ 3) 2) 1) 1 else z_lv σ 1) := by
  refine x_enter (by decide) (Nat.le_of_ble_eq_true rfl) ?_
  show z_At _ _ _ [.ref 0, .int t] _ _ _
  refine x_aload0 (pc2 := 1) dX5_tell_0 rfl ?_
  refine x_getR (pc2 := 4) fX5_12 sh_0 rfl dX5_tell_1 rfl ?_
  refine x_iload1 (pc2 := 5) dX5_tell_4 rfl ?_
  refine x_fV1 (pc2 := 8) eX0_hasThing kX5_105 sh_1 rfl (Nat.le_of_ble_eq_true rfl) dX5_tell_5 rfl (s_hasThing _ _ z_P1 _) ?_
  refine x_if_ne (pc2 := 11) (pc3 := 13) dX5_tell_8 rfl rfl (fun h8 => ?_) (fun h8 => ?_)
  · skip
    refine x_aload0 (pc2 := 14) dX5_tell_13 rfl ?_
    refine x_getR (pc2 := 17) fX5_12 sh_0 rfl dX5_tell_14 rfl ?_
    refine x_getR (pc2 := 20) fX5_108 sh_1 rfl dX5_tell_17 rfl ?_
    refine x_iload1 (pc2 := 21) dX5_tell_20 rfl ?_
    refine x_iald (pc2 := 22) sh_5 (by exact z_in_bN h8 hK hK4) dX5_tell_21 rfl ?_
    refine x_lk2 (k1 := 1) (k2 := 2) (p0 := 60) (p1 := 54) (p2 := 48) dX5_tell_22 (by decide) (by decide) (by decide) rfl rfl rfl (fun h22 => ?_) (fun h22 => ?_) (fun h22_1 h22_2 => ?_)
    · skip
      refine x_aload0 (pc2 := 55) dX5_tell_54 rfl ?_
      refine x_iload1 (pc2 := 56) dX5_tell_55 rfl ?_
      refine x_fV1 (pc2 := 59) eX5_tellAsFood kX5_239 sh_0 rfl (Nat.le_of_ble_eq_true rfl) dX5_tell_56 rfl (s_tellFood _ _ _ (z_in_bN h8 hK hK4)) ?_
      refine x_iret dX5_tell_59 rfl ?_
      rw [hK] at *; exact ⟨by simp only [z_b0, z_bn0] at *; simp [*], by simp only [z_b0, z_bn0] at *; simp [*]⟩
    · skip
      refine x_aload0 (pc2 := 49) dX5_tell_48 rfl ?_
      refine x_iload1 (pc2 := 50) dX5_tell_49 rfl ?_
      refine x_fV1 (pc2 := 53) eX5_tellAsChild kX5_236 sh_0 rfl (Nat.le_of_ble_eq_true rfl) dX5_tell_50 rfl (s_tellChild _ _ _ (z_in_bN h8 hK hK4)) ?_
      refine x_iret dX5_tell_53 rfl ?_
      rw [hK] at *; exact ⟨by simp only [z_b0, z_bn0] at *; simp [*], by simp only [z_b0, z_bn0] at *; simp [*]⟩
    · skip
      refine x_aload0 (pc2 := 61) dX5_tell_60 rfl ?_
      refine x_iload1 (pc2 := 62) dX5_tell_61 rfl ?_
      refine x_fV1 (pc2 := 65) eX5_tellAsThing kX5_242 sh_0 rfl (Nat.le_of_ble_eq_true rfl) dX5_tell_62 rfl (s_tellThing _ _ _ (z_in_bN h8 hK hK4)) ?_
      refine x_iret dX5_tell_65 rfl ?_
      rw [hK] at *; exact ⟨by simp only [z_b0, z_bn0] at *; simp [*], by simp only [z_b0, z_bn0] at *; simp [*]⟩
  · skip
    refine x_iconst (v := -1) (pc2 := 12) dX5_tell_11 rfl (by decide) ?_
    refine x_iret dX5_tell_12 rfl ?_
    rw [hK] at *; exact ⟨by simp only [z_b0, z_bn0] at *; simp [*], by simp only [z_b0, z_bn0] at *; simp [*]⟩
theorem z_two (p : Int32) : p + 100 + p = 2 * p + 100 := by grind
theorem s_tellM (d : Nat) (σ : zS) (t : Int32) {K : Nat} (hK : σ.1 43 7 = nI K) (hK4 : K ≤ 4) : z_Fn mX6_tell (d + 1) [.ref 43, .int t] σ (.int (if z_rng t (σ.1 43 7) = false then -1 else if σ.1 50 t.toNatClampNeg = 1 then σ.1 51 t.toNatClampNeg + 100 else if σ.1 50 t.toNatClampNeg = 2 then σ.1 51 t.toNatClampNeg + 100 + σ.1 51 t.toNatClampNeg else σ.1 51 t.toNatClampNeg)) (if z_rng t (σ.1 43 7) = false then σ else if σ.1 50 t.toNatClampNeg = 1 then z_mv (z_mv σ 2) 1 else if σ.1 50 t.toNatClampNeg = 2 then z_mv (z_mv (z_mv (z_mv σ 3) 2) 1) 1 else z_mv σ 1) := by
  refine x_enter (by decide) (Nat.le_of_ble_eq_true rfl) ?_
  show z_At _ _ _ [.ref 43, .int t, .null] _ _ _
  rw [z_two]
  refine x_aload0 (pc2 := 1) dX6_tell_0 rfl ?_
  refine x_iload1 (pc2 := 2) dX6_tell_1 rfl ?_
  refine x_fV1 (pc2 := 5) eX6_isThing kX6_143 sh_43 rfl (Nat.le_of_ble_eq_true rfl) dX6_tell_2 rfl (s_isThing _ _ _) ?_
  refine x_if_ne (pc2 := 8) (pc3 := 10) dX6_tell_5 rfl rfl (fun h5 => ?_) (fun h5 => ?_)
  · skip
    refine x_aload0 (pc2 := 11) dX6_tell_10 rfl ?_
    refine x_getR (pc2 := 14) fX6_36 sh_43 rfl dX6_tell_11 rfl ?_
    refine x_iload1 (pc2 := 15) dX6_tell_14 rfl ?_
    refine x_iald (pc2 := 16) sh_51 (by exact z_in_bN h5 hK hK4) dX6_tell_15 rfl ?_
    refine x_istore2 (pc2 := 17) dX6_tell_16 rfl rfl ?_
    refine x_aload0 (pc2 := 18) dX6_tell_17 rfl ?_
    refine x_getR (pc2 := 21) fX6_33 sh_43 rfl dX6_tell_18 rfl ?_
    refine x_iload1 (pc2 := 22) dX6_tell_21 rfl ?_
    refine x_iald (pc2 := 23) sh_50 (by exact z_in_bN h5 hK hK4) dX6_tell_22 rfl ?_
    refine x_lk2 (k1 := 1) (k2 := 2) (p0 := 90) (p1 := 48) (p2 := 63) dX6_tell_23 (by decide) (by decide) (by decide) rfl rfl rfl (fun h23 => ?_) (fun h23 => ?_) (fun h23_1 h23_2 => ?_)
    · skip
      refine x_aload0 (pc2 := 49) dX6_tell_48 rfl ?_
      refine x_iconst (v := 2) (pc2 := 50) dX6_tell_49 rfl (by decide) ?_
      refine x_pV1 (pc2 := 53) eX6_begins kX6_263 sh_43 rfl (Nat.le_of_ble_eq_true rfl) dX6_tell_50 rfl (s_begins _ _ _) ?_
      refine x_aload0 (pc2 := 54) dX6_tell_53 rfl ?_
      refine x_iconst (v := 1) (pc2 := 55) dX6_tell_54 rfl (by decide) ?_
      refine x_pV1 (pc2 := 58) eX6_begins kX6_263 sh_43 rfl (Nat.le_of_ble_eq_true rfl) dX6_tell_55 rfl (s_begins _ _ _) ?_
      refine x_iload2 (pc2 := 59) dX6_tell_58 rfl ?_
      refine x_bipush (v := 100) (pc2 := 61) dX6_tell_59 rfl (by decide) ?_
      refine x_iadd (pc2 := 62) dX6_tell_61 rfl ?_
      refine x_iret dX6_tell_62 rfl ?_
      rw [hK] at *; exact ⟨by simp only [z_b0, z_bn0] at *; simp [*], by simp only [z_b0, z_bn0] at *; simp [z_mv, *]⟩
    · skip
      refine x_aload0 (pc2 := 64) dX6_tell_63 rfl ?_
      refine x_iconst (v := 3) (pc2 := 65) dX6_tell_64 rfl (by decide) ?_
      refine x_pV1 (pc2 := 68) eX6_begins kX6_263 sh_43 rfl (Nat.le_of_ble_eq_true rfl) dX6_tell_65 rfl (s_begins _ _ _) ?_
      refine x_aload0 (pc2 := 69) dX6_tell_68 rfl ?_
      refine x_iconst (v := 2) (pc2 := 70) dX6_tell_69 rfl (by decide) ?_
      refine x_pV1 (pc2 := 73) eX6_begins kX6_263 sh_43 rfl (Nat.le_of_ble_eq_true rfl) dX6_tell_70 rfl (s_begins _ _ _) ?_
      refine x_aload0 (pc2 := 74) dX6_tell_73 rfl ?_
      refine x_iconst (v := 1) (pc2 := 75) dX6_tell_74 rfl (by decide) ?_
      refine x_pV1 (pc2 := 78) eX6_begins kX6_263 sh_43 rfl (Nat.le_of_ble_eq_true rfl) dX6_tell_75 rfl (s_begins _ _ _) ?_
      refine x_aload0 (pc2 := 79) dX6_tell_78 rfl ?_
      refine x_iconst (v := 1) (pc2 := 80) dX6_tell_79 rfl (by decide) ?_
      refine x_pV1 (pc2 := 83) eX6_begins kX6_263 sh_43 rfl (Nat.le_of_ble_eq_true rfl) dX6_tell_80 rfl (s_begins _ _ _) ?_
      refine x_iconst (v := 2) (pc2 := 84) dX6_tell_83 rfl (by decide) ?_
      refine x_iload2 (pc2 := 85) dX6_tell_84 rfl ?_
      refine x_imul (pc2 := 86) dX6_tell_85 rfl ?_
      refine x_bipush (v := 100) (pc2 := 88) dX6_tell_86 rfl (by decide) ?_
      refine x_iadd (pc2 := 89) dX6_tell_88 rfl ?_
      refine x_iret dX6_tell_89 rfl ?_
      rw [hK] at *; exact ⟨by simp only [z_b0, z_bn0] at *; simp [*], by simp only [z_b0, z_bn0] at *; simp [z_mv, *]⟩
    · skip
      refine x_aload0 (pc2 := 91) dX6_tell_90 rfl ?_
      refine x_iconst (v := 1) (pc2 := 92) dX6_tell_91 rfl (by decide) ?_
      refine x_pV1 (pc2 := 95) eX6_begins kX6_263 sh_43 rfl (Nat.le_of_ble_eq_true rfl) dX6_tell_92 rfl (s_begins _ _ _) ?_
      refine x_iload2 (pc2 := 96) dX6_tell_95 rfl ?_
      refine x_iret dX6_tell_96 rfl ?_
      rw [hK] at *; exact ⟨by simp only [z_b0, z_bn0] at *; simp [*], by simp only [z_b0, z_bn0] at *; simp [z_mv, *]⟩
  · skip
    refine x_iconst (v := -1) (pc2 := 9) dX6_tell_8 rfl (by decide) ?_
    refine x_iret dX6_tell_9 rfl ?_
    rw [hK] at *; exact ⟨by simp only [z_b0, z_bn0] at *; simp [*], by simp only [z_b0, z_bn0] at *; simp [z_mv, *]⟩
theorem s_hailC (d : Nat) (σ : zS) (t : Int32) {K : Nat} (hK : σ.1 1 6 = nI K) (hK4 : K ≤ 4) : z_Fn mX5_hail (d + 1) [.ref 0, .int t] σ (.int (if z_rng t (σ.1 1 6) = false then -1 else if σ.1 5 t.toNatClampNeg = 2 then 60 else t)) (if z_rng t (σ.1 1 6) = false then σ else if σ.1 5 t.toNatClampNeg = 2 then z_lv σ 5 else z_lv σ 4) := by
  refine x_enter (by decide) (Nat.le_of_ble_eq_true rfl) ?_
  show z_At _ _ _ [.ref 0, .int t] _ _ _
  refine x_aload0 (pc2 := 1) dX5_hail_0 rfl ?_
  refine x_getR (pc2 := 4) fX5_12 sh_0 rfl dX5_hail_1 rfl ?_
  refine x_iload1 (pc2 := 5) dX5_hail_4 rfl ?_
  refine x_fV1 (pc2 := 8) eX0_hasThing kX5_105 sh_1 rfl (Nat.le_of_ble_eq_true rfl) dX5_hail_5 rfl (s_hasThing _ _ z_P1 _) ?_
  refine x_if_ne (pc2 := 11) (pc3 := 13) dX5_hail_8 rfl rfl (fun h8 => ?_) (fun h8 => ?_)
  · skip
    refine x_aload0 (pc2 := 14) dX5_hail_13 rfl ?_
    refine x_getR (pc2 := 17) fX5_12 sh_0 rfl dX5_hail_14 rfl ?_
    refine x_getR (pc2 := 20) fX5_108 sh_1 rfl dX5_hail_17 rfl ?_
    refine x_iload1 (pc2 := 21) dX5_hail_20 rfl ?_
    refine x_iald (pc2 := 22) sh_5 (by exact z_in_bN h8 hK hK4) dX5_hail_21 rfl ?_
    refine x_iconst (v := 2) (pc2 := 23) dX5_hail_22 rfl (by decide) ?_
    refine x_icmp_ne (pc2 := 26) (pc3 := 34) dX5_hail_23 rfl rfl (fun h23 => ?_) (fun h23 => ?_)
    · skip
      refine x_aload0 (pc2 := 35) dX5_hail_34 rfl ?_
      refine x_iconst (v := 4) (pc2 := 36) dX5_hail_35 rfl (by decide) ?_
      refine x_pV1 (pc2 := 39) eX5_leave kX5_245 sh_0 rfl (Nat.le_of_ble_eq_true rfl) dX5_hail_36 rfl (s_leave _ _ _) ?_
      refine x_iload1 (pc2 := 40) dX5_hail_39 rfl ?_
      refine x_iret dX5_hail_40 rfl ?_
      rw [hK] at *; exact ⟨by simp only [z_b0, z_bn0] at *; simp [*], by simp only [z_b0, z_bn0] at *; simp [z_lv, *]⟩
    · skip
      refine x_aload0 (pc2 := 27) dX5_hail_26 rfl ?_
      refine x_iconst (v := 5) (pc2 := 28) dX5_hail_27 rfl (by decide) ?_
      refine x_pV1 (pc2 := 31) eX5_leave kX5_245 sh_0 rfl (Nat.le_of_ble_eq_true rfl) dX5_hail_28 rfl (s_leave _ _ _) ?_
      refine x_bipush (v := 60) (pc2 := 33) dX5_hail_31 rfl (by decide) ?_
      refine x_iret dX5_hail_33 rfl ?_
      rw [hK] at *; exact ⟨by simp only [z_b0, z_bn0] at *; simp [*], by simp only [z_b0, z_bn0] at *; simp [z_lv, *]⟩
  · skip
    refine x_iconst (v := -1) (pc2 := 12) dX5_hail_11 rfl (by decide) ?_
    refine x_iret dX5_hail_12 rfl ?_
    rw [hK] at *; exact ⟨by simp only [z_b0, z_bn0] at *; simp [*], by simp only [z_b0, z_bn0] at *; simp [z_lv, *]⟩
theorem s_hailM (d : Nat) (σ : zS) (t : Int32) {K : Nat} (hK : σ.1 43 7 = nI K) (hK4 : K ≤ 4) : z_Fn mX6_hail (d + 1) [.ref 43, .int t] σ (.int (if z_rng t (σ.1 43 7) = false then -1 else if σ.1 50 t.toNatClampNeg = 2 then 60 else t)) (if z_rng t (σ.1 43 7) = false then σ else if σ.1 50 t.toNatClampNeg = 2 then z_mv σ 5 else z_mv σ 4) := by
  refine x_enter (by decide) (Nat.le_of_ble_eq_true rfl) ?_
  show z_At _ _ _ [.ref 43, .int t] _ _ _
  refine x_aload0 (pc2 := 1) dX6_hail_0 rfl ?_
  refine x_iload1 (pc2 := 2) dX6_hail_1 rfl ?_
  refine x_fV1 (pc2 := 5) eX6_isThing kX6_143 sh_43 rfl (Nat.le_of_ble_eq_true rfl) dX6_hail_2 rfl (s_isThing _ _ _) ?_
  refine x_if_ne (pc2 := 8) (pc3 := 10) dX6_hail_5 rfl rfl (fun h5 => ?_) (fun h5 => ?_)
  · skip
    refine x_aload0 (pc2 := 11) dX6_hail_10 rfl ?_
    refine x_aload0 (pc2 := 12) dX6_hail_11 rfl ?_
    refine x_getR (pc2 := 15) fX6_33 sh_43 rfl dX6_hail_12 rfl ?_
    refine x_iload1 (pc2 := 16) dX6_hail_15 rfl ?_
    refine x_iald (pc2 := 17) sh_50 (by exact z_in_bN h5 hK hK4) dX6_hail_16 rfl ?_
    refine x_iconst (v := 2) (pc2 := 18) dX6_hail_17 rfl (by decide) ?_
    refine x_icmp_ne (pc2 := 21) (pc3 := 25) dX6_hail_18 rfl rfl (fun h18 => ?_) (fun h18 => ?_)
    · skip
      refine x_iconst (v := 4) (pc2 := 26) dX6_hail_25 rfl (by decide) ?_
      refine x_pV1 (pc2 := 29) eX6_begins kX6_263 sh_43 rfl (Nat.le_of_ble_eq_true rfl) dX6_hail_26 rfl (s_begins _ _ _) ?_
      refine x_aload0 (pc2 := 30) dX6_hail_29 rfl ?_
      refine x_getR (pc2 := 33) fX6_33 sh_43 rfl dX6_hail_30 rfl ?_
      refine x_iload1 (pc2 := 34) dX6_hail_33 rfl ?_
      refine x_iald (pc2 := 35) sh_50 (by exact z_in_bN h5 hK hK4) dX6_hail_34 rfl ?_
      refine x_iconst (v := 2) (pc2 := 36) dX6_hail_35 rfl (by decide) ?_
      refine x_icmp_ne (pc2 := 39) (pc3 := 44) dX6_hail_36 rfl rfl (fun h36 => ?_) (fun h36 => ?_)
      · skip
        refine x_iload1 (pc2 := 45) dX6_hail_44 rfl ?_
        refine x_iret dX6_hail_45 rfl ?_
        first | exact absurd h36 h18 | exact absurd h18 h36 | (rw [hK] at *; exact ⟨by simp only [z_b0, z_bn0] at *; simp [*], by simp only [z_b0, z_bn0] at *; simp [z_mv, *]⟩)
      · skip
        refine x_bipush (v := 60) (pc2 := 41) dX6_hail_39 rfl (by decide) ?_
        refine x_goto (pc2 := 45) dX6_hail_41 rfl ?_
        refine x_iret dX6_hail_45 rfl ?_
        first | exact absurd h36 h18 | exact absurd h18 h36 | (rw [hK] at *; exact ⟨by simp only [z_b0, z_bn0] at *; simp [*], by simp only [z_b0, z_bn0] at *; simp [z_mv, *]⟩)
    · skip
      refine x_iconst (v := 5) (pc2 := 22) dX6_hail_21 rfl (by decide) ?_
      refine x_goto (pc2 := 26) dX6_hail_22 rfl ?_
      refine x_pV1 (pc2 := 29) eX6_begins kX6_263 sh_43 rfl (Nat.le_of_ble_eq_true rfl) dX6_hail_26 rfl (s_begins _ _ _) ?_
      refine x_aload0 (pc2 := 30) dX6_hail_29 rfl ?_
      refine x_getR (pc2 := 33) fX6_33 sh_43 rfl dX6_hail_30 rfl ?_
      refine x_iload1 (pc2 := 34) dX6_hail_33 rfl ?_
      refine x_iald (pc2 := 35) sh_50 (by exact z_in_bN h5 hK hK4) dX6_hail_34 rfl ?_
      refine x_iconst (v := 2) (pc2 := 36) dX6_hail_35 rfl (by decide) ?_
      refine x_icmp_ne (pc2 := 39) (pc3 := 44) dX6_hail_36 rfl rfl (fun h36 => ?_) (fun h36 => ?_)
      · skip
        refine x_iload1 (pc2 := 45) dX6_hail_44 rfl ?_
        refine x_iret dX6_hail_45 rfl ?_
        first | exact absurd h36 h18 | exact absurd h18 h36 | (rw [hK] at *; exact ⟨by simp only [z_b0, z_bn0] at *; simp [*], by simp only [z_b0, z_bn0] at *; simp [z_mv, *]⟩)
      · skip
        refine x_bipush (v := 60) (pc2 := 41) dX6_hail_39 rfl (by decide) ?_
        refine x_goto (pc2 := 45) dX6_hail_41 rfl ?_
        refine x_iret dX6_hail_45 rfl ?_
        first | exact absurd h36 h18 | exact absurd h18 h36 | (rw [hK] at *; exact ⟨by simp only [z_b0, z_bn0] at *; simp [*], by simp only [z_b0, z_bn0] at *; simp [z_mv, *]⟩)
  · skip
    refine x_iconst (v := -1) (pc2 := 9) dX6_hail_8 rfl (by decide) ?_
    refine x_iret dX6_hail_9 rfl ?_
    first | exact absurd h36 h18 | exact absurd h18 h36 | (rw [hK] at *; exact ⟨by simp only [z_b0, z_bn0] at *; simp [*], by simp only [z_b0, z_bn0] at *; simp [z_mv, *]⟩)
theorem s_asC (d : Nat) (σ σ0 : zS) (hσ : σ0 = z_f0 σ) (t k : Int32) {K : Nat} (hK : σ0.1 1 6 = nI K) (hK4 : K ≤ 4) : z_Fn mX5_as (d + 1) [.ref 0, .int t, .int k] σ (.int (if z_rng t (σ0.1 1 6) = false then -1 else if k < 0 ∨ ¬ k < 3 then -2 else if k ≤ σ0.1 5 t.toNatClampNeg then 1 else -10 - 2)) (if z_rng t (σ0.1 1 6) = false then σ0 else if k < 0 ∨ ¬ k < 3 then σ0 else if k ≤ σ0.1 5 t.toNatClampNeg then σ0 else z_st σ0 0 13 2) := by
  refine x_enter (by decide) (Nat.le_of_ble_eq_true rfl) ?_
  show z_At _ _ _ [.ref 0, .int t, .int k] _ _ _
  refine x_aload0 (pc2 := 1) dX5_as_0 rfl ?_
  refine x_iconst (v := 0) (pc2 := 2) dX5_as_1 rfl (by decide) ?_
  refine x_putI (pc2 := 5) pX5_53 sh_0 rfl dX5_as_2 rfl ?_
  rw [show z_st σ 0 13 0 = σ0 from hσ.symm]
  clear hσ
  refine x_aload0 (pc2 := 6) dX5_as_5 rfl ?_
  refine x_getR (pc2 := 9) fX5_12 sh_0 rfl dX5_as_6 rfl ?_
  refine x_iload1 (pc2 := 10) dX5_as_9 rfl ?_
  refine x_fV1 (pc2 := 13) eX0_hasThing kX5_105 sh_1 rfl (Nat.le_of_ble_eq_true rfl) dX5_as_10 rfl (s_hasThing _ _ z_P1 _) ?_
  refine x_if_ne (pc2 := 16) (pc3 := 18) dX5_as_13 rfl rfl (fun h13 => ?_) (fun h13 => ?_)
  · skip
    refine x_iload2 (pc2 := 19) dX5_as_18 rfl ?_
    refine x_if_lt (pc2 := 22) (pc3 := 27) dX5_as_19 rfl rfl (fun h19 => ?_) (fun h19 => ?_)
    · skip
      refine x_bipush (v := -2) (pc2 := 29) dX5_as_27 rfl (by decide) ?_
      refine x_iret dX5_as_29 rfl ?_
      rw [hK] at *; exact ⟨by simp only [z_b0, z_bn0] at *; simp [*], by simp only [z_b0, z_bn0] at *; simp [*]⟩
    · skip
      refine x_iload2 (pc2 := 23) dX5_as_22 rfl ?_
      refine x_iconst (v := 3) (pc2 := 24) dX5_as_23 rfl (by decide) ?_
      refine x_icmp_lt (pc2 := 27) (pc3 := 30) dX5_as_24 rfl rfl (fun h24 => ?_) (fun h24 => ?_)
      · skip
        refine x_aload0 (pc2 := 31) dX5_as_30 rfl ?_
        refine x_getR (pc2 := 34) fX5_12 sh_0 rfl dX5_as_31 rfl ?_
        refine x_getR (pc2 := 37) fX5_108 sh_1 rfl dX5_as_34 rfl ?_
        refine x_iload1 (pc2 := 38) dX5_as_37 rfl ?_
        refine x_iald (pc2 := 39) sh_5 (by exact z_in_bN h13 hK hK4) dX5_as_38 rfl ?_
        refine x_iload2 (pc2 := 40) dX5_as_39 rfl ?_
        refine x_icmp_ge (pc2 := 43) (pc3 := 51) dX5_as_40 rfl rfl (fun h40 => ?_) (fun h40 => ?_)
        · skip
          refine x_iconst (v := 1) (pc2 := 52) dX5_as_51 rfl (by decide) ?_
          refine x_iret dX5_as_52 rfl ?_
          rw [hK] at *; exact ⟨by simp only [z_b0, z_bn0] at *; simp [*], by simp only [z_b0, z_bn0] at *; simp [*]⟩
        · skip
          refine x_aload0 (pc2 := 44) dX5_as_43 rfl ?_
          refine x_iconst (v := 2) (pc2 := 45) dX5_as_44 rfl (by decide) ?_
          refine x_fV1 (pc2 := 48) eX5_faulted kX5_68 sh_0 rfl (Nat.le_of_ble_eq_true rfl) dX5_as_45 rfl (s_faulted _ _ _) ?_
          refine x_goto (pc2 := 52) dX5_as_48 rfl ?_
          refine x_iret dX5_as_52 rfl ?_
          rw [hK] at *; exact ⟨by simp only [z_b0, z_bn0] at *; simp [*], by simp only [z_b0, z_bn0] at *; simp [*]⟩
      · skip
        refine x_bipush (v := -2) (pc2 := 29) dX5_as_27 rfl (by decide) ?_
        refine x_iret dX5_as_29 rfl ?_
        rw [hK] at *; exact ⟨by simp only [z_b0, z_bn0] at *; simp [*], by simp only [z_b0, z_bn0] at *; simp [*]⟩
  · skip
    refine x_iconst (v := -1) (pc2 := 17) dX5_as_16 rfl (by decide) ?_
    refine x_iret dX5_as_17 rfl ?_
    rw [hK] at *; exact ⟨by simp only [z_b0, z_bn0] at *; simp [*], by simp only [z_b0, z_bn0] at *; simp [*]⟩
theorem s_asM (d : Nat) (σ σ0 : zS) (hσ : σ0 = z_g0 σ) (t k : Int32) {K : Nat} (hK : σ0.1 43 7 = nI K) (hK4 : K ≤ 4) : z_Fn mX6_as (d + 1) [.ref 43, .int t, .int k] σ (.int (if z_rng t (σ0.1 43 7) = false then -1 else if z_wi k 0 2 = false then -2 else if σ0.1 50 t.toNatClampNeg < k then -10 - 2 else 1)) (if z_rng t (σ0.1 43 7) = false then σ0 else if z_wi k 0 2 = false then σ0 else if σ0.1 50 t.toNatClampNeg < k then z_st σ0 43 0 2 else σ0) := by
  refine x_enter (by decide) (Nat.le_of_ble_eq_true rfl) ?_
  show z_At _ _ _ [.ref 43, .int t, .int k] _ _ _
  refine x_aload0 (pc2 := 1) dX6_as_0 rfl ?_
  refine x_iconst (v := 0) (pc2 := 2) dX6_as_1 rfl (by decide) ?_
  refine x_putI (pc2 := 5) pX6_75 sh_43 rfl dX6_as_2 rfl ?_
  rw [show z_st σ 43 0 0 = σ0 from hσ.symm]
  clear hσ
  refine x_aload0 (pc2 := 6) dX6_as_5 rfl ?_
  refine x_iload1 (pc2 := 7) dX6_as_6 rfl ?_
  refine x_fV1 (pc2 := 10) eX6_isThing kX6_143 sh_43 rfl (Nat.le_of_ble_eq_true rfl) dX6_as_7 rfl (s_isThing _ _ _) ?_
  refine x_if_ne (pc2 := 13) (pc3 := 15) dX6_as_10 rfl rfl (fun h10 => ?_) (fun h10 => ?_)
  · skip
    refine x_iload2 (pc2 := 16) dX6_as_15 rfl ?_
    refine x_iconst (v := 0) (pc2 := 17) dX6_as_16 rfl (by decide) ?_
    refine x_iconst (v := 2) (pc2 := 18) dX6_as_17 rfl (by decide) ?_
    refine x_fS3 (pc2 := 21) eX6_within kX6_80 (Nat.le_of_ble_eq_true rfl) dX6_as_18 rfl (s_within _ _ _ _ _) ?_
    refine x_if_ne (pc2 := 24) (pc3 := 27) dX6_as_21 rfl rfl (fun h21 => ?_) (fun h21 => ?_)
    · skip
      refine x_aload0 (pc2 := 28) dX6_as_27 rfl ?_
      refine x_getR (pc2 := 31) fX6_33 sh_43 rfl dX6_as_28 rfl ?_
      refine x_iload1 (pc2 := 32) dX6_as_31 rfl ?_
      refine x_iald (pc2 := 33) sh_50 (by exact z_in_bN h10 hK hK4) dX6_as_32 rfl ?_
      refine x_iload2 (pc2 := 34) dX6_as_33 rfl ?_
      refine x_icmp_lt (pc2 := 37) (pc3 := 41) dX6_as_34 rfl rfl (fun h34 => ?_) (fun h34 => ?_)
      · skip
        refine x_aload0 (pc2 := 42) dX6_as_41 rfl ?_
        refine x_iconst (v := 2) (pc2 := 43) dX6_as_42 rfl (by decide) ?_
        refine x_fV1 (pc2 := 46) eX6_fails kX6_104 sh_43 rfl (Nat.le_of_ble_eq_true rfl) dX6_as_43 rfl (s_fails _ _ _) ?_
        refine x_iret dX6_as_46 rfl ?_
        rw [hK] at *; exact ⟨by simp only [z_b0, z_bn0] at *; simp [*], by simp only [z_b0, z_bn0] at *; simp [*]⟩
      · skip
        refine x_iconst (v := 1) (pc2 := 38) dX6_as_37 rfl (by decide) ?_
        refine x_goto (pc2 := 46) dX6_as_38 rfl ?_
        refine x_iret dX6_as_46 rfl ?_
        rw [hK] at *; exact ⟨by simp only [z_b0, z_bn0] at *; simp [*], by simp only [z_b0, z_bn0] at *; simp [*]⟩
    · skip
      refine x_bipush (v := -2) (pc2 := 26) dX6_as_24 rfl (by decide) ?_
      refine x_iret dX6_as_26 rfl ?_
      rw [hK] at *; exact ⟨by simp only [z_b0, z_bn0] at *; simp [*], by simp only [z_b0, z_bn0] at *; simp [*]⟩
  · skip
    refine x_iconst (v := -1) (pc2 := 14) dX6_as_13 rfl (by decide) ?_
    refine x_iret dX6_as_14 rfl ?_
    rw [hK] at *; exact ⟨by simp only [z_b0, z_bn0] at *; simp [*], by simp only [z_b0, z_bn0] at *; simp [*]⟩

theorem z_in_lt {c : Int32} {n m : Nat} (hc : c = nI n) (h : c < nI m) (hn : n < 2 ^ 31) (hm : m < 2 ^ 31 := by decide) : vp_in c m := by
  subst hc
  refine z_in ?_ hm
  rw [Int32.lt_iff_toInt_lt, nI_toInt hn, nI_toInt hm] at h
  omega
def z_rd (σ : zS) (a0 a1 a2 : Nat) (c t s m : Int32) : zS := z_st (z_st (z_st σ a0 c.toNatClampNeg t) a1 c.toNatClampNeg s) a2 c.toNatClampNeg m
theorem s_add1 (d : Nat) (σ : zS) (t s m : Int32) {n : Nat} (hc : σ.1 22 0 = nI n) (hn : n ≤ 8) : z_Fn mX1_add d [.ref 22, .int t, .int s, .int m] σ (.int (if σ.1 22 0 < 8 then σ.1 22 0 else -4)) (if σ.1 22 0 < 8 then z_st (z_rd σ 23 24 25 (σ.1 22 0) t s m) 22 0 (σ.1 22 0 + 1) else σ) := by
  refine x_enter (by decide) (Nat.le_of_ble_eq_true rfl) ?_
  show z_At _ _ _ [.ref 22, .int t, .int s, .int m] _ _ _
  refine x_aload0 (pc2 := 1) dX1_add_0 rfl ?_
  refine x_getI (pc2 := 4) fX1_21 sh_22 rfl dX1_add_1 rfl ?_
  refine x_bipush (v := 8) (pc2 := 6) dX1_add_4 rfl (by decide) ?_
  refine x_icmp_lt (pc2 := 9) (pc3 := 12) dX1_add_6 rfl rfl (fun h6 => ?_) (fun h6 => ?_)
  · skip
    refine x_aload0 (pc2 := 13) dX1_add_12 rfl ?_
    refine x_getR (pc2 := 16) fX1_9 sh_22 rfl dX1_add_13 rfl ?_
    refine x_aload0 (pc2 := 17) dX1_add_16 rfl ?_
    refine x_getI (pc2 := 20) fX1_21 sh_22 rfl dX1_add_17 rfl ?_
    refine x_iload1 (pc2 := 21) dX1_add_20 rfl ?_
    refine x_iast (pc2 := 22) sh_23 (by exact z_in_lt (m := 8) hc h6 (by omega)) dX1_add_21 rfl ?_
    refine x_aload0 (pc2 := 23) dX1_add_22 rfl ?_
    refine x_getR (pc2 := 26) fX1_15 sh_22 rfl dX1_add_23 rfl ?_
    refine x_aload0 (pc2 := 27) dX1_add_26 rfl ?_
    refine x_getI (pc2 := 30) fX1_21 sh_22 rfl dX1_add_27 rfl ?_
    refine x_iload2 (pc2 := 31) dX1_add_30 rfl ?_
    refine x_iast (pc2 := 32) sh_24 (by exact z_in_lt (m := 8) hc h6 (by omega)) dX1_add_31 rfl ?_
    refine x_aload0 (pc2 := 33) dX1_add_32 rfl ?_
    refine x_getR (pc2 := 36) fX1_18 sh_22 rfl dX1_add_33 rfl ?_
    refine x_aload0 (pc2 := 37) dX1_add_36 rfl ?_
    refine x_getI (pc2 := 40) fX1_21 sh_22 rfl dX1_add_37 rfl ?_
    refine x_iload3 (pc2 := 41) dX1_add_40 rfl ?_
    refine x_iast (pc2 := 42) sh_25 (by exact z_in_lt (m := 8) hc h6 (by omega)) dX1_add_41 rfl ?_
    refine x_aload0 (pc2 := 43) dX1_add_42 rfl ?_
    refine x_dup (pc2 := 44) dX1_add_43 rfl rfl ?_
    refine x_getI (pc2 := 47) fX1_21 sh_22 rfl dX1_add_44 rfl ?_
    refine x_dup_x1 (pc2 := 48) dX1_add_47 rfl rfl rfl ?_
    refine x_iconst (v := 1) (pc2 := 49) dX1_add_48 rfl (by decide) ?_
    refine x_iadd (pc2 := 50) dX1_add_49 rfl ?_
    refine x_putI (pc2 := 53) pX1_21 sh_22 rfl dX1_add_50 rfl ?_
    refine x_iret dX1_add_53 rfl ?_
    exact ⟨by first | (rw [if_pos h6]; rfl) | (rw [if_neg h6]), by first | (rw [if_pos h6]; rfl) | (rw [if_neg h6])⟩
  · skip
    refine x_bipush (v := -4) (pc2 := 11) dX1_add_9 rfl (by decide) ?_
    refine x_iret dX1_add_11 rfl ?_
    exact ⟨by first | (rw [if_pos h6]; rfl) | (rw [if_neg h6]), by first | (rw [if_pos h6]; rfl) | (rw [if_neg h6])⟩
theorem s_readingC (d : Nat) (σ : zS) (t s m : Int32) {n : Nat} (hc : σ.1 22 0 = nI n) (hn : n ≤ 8) : z_Fn mX5_reading (d + 2) [.ref 0, .int t, .int s, .int m] σ (.int (if z_rng t (σ.1 1 6) = false ∨ z_spot s (σ.1 1 2) = false then -1 else if m < 0 ∨ ¬ m ≤ 99 then -2 else if σ.1 22 0 < 8 then σ.1 22 0 else -4)) (if z_rng t (σ.1 1 6) = false ∨ z_spot s (σ.1 1 2) = false then σ else if m < 0 ∨ ¬ m ≤ 99 then σ else if σ.1 22 0 < 8 then z_st (z_rd σ 23 24 25 (σ.1 22 0) t s m) 22 0 (σ.1 22 0 + 1) else σ) := by
  refine x_enter (by decide) (Nat.le_of_ble_eq_true rfl) ?_
  show z_At _ _ _ [.ref 0, .int t, .int s, .int m] _ _ _
  refine x_aload0 (pc2 := 1) dX5_reading_0 rfl ?_
  refine x_getR (pc2 := 4) fX5_12 sh_0 rfl dX5_reading_1 rfl ?_
  refine x_iload1 (pc2 := 5) dX5_reading_4 rfl ?_
  refine x_fV1 (pc2 := 8) eX0_hasThing kX5_105 sh_1 rfl (Nat.le_of_ble_eq_true rfl) dX5_reading_5 rfl (s_hasThing _ _ z_P1 _) ?_
  refine x_if_eq (pc2 := 11) (pc3 := 22) dX5_reading_8 rfl rfl (fun h8 => ?_) (fun h8 => ?_)
  · skip
    refine x_iconst (v := -1) (pc2 := 23) dX5_reading_22 rfl (by decide) ?_
    refine x_iret dX5_reading_23 rfl ?_
    clear hc hn; exact ⟨by simp only [z_b0, z_bn0] at *; simp [*], by simp only [z_b0, z_bn0] at *; simp [*]⟩
  · skip
    refine x_aload0 (pc2 := 12) dX5_reading_11 rfl ?_
    refine x_getR (pc2 := 15) fX5_12 sh_0 rfl dX5_reading_12 rfl ?_
    refine x_iload2 (pc2 := 16) dX5_reading_15 rfl ?_
    refine x_fV1 (pc2 := 19) eX0_hasSpot kX5_147 sh_1 rfl (Nat.le_of_ble_eq_true rfl) dX5_reading_16 rfl (s_hasSpot _ _ z_P1 _) ?_
    refine x_if_ne (pc2 := 22) (pc3 := 24) dX5_reading_19 rfl rfl (fun h19 => ?_) (fun h19 => ?_)
    · skip
      refine x_iload3 (pc2 := 25) dX5_reading_24 rfl ?_
      refine x_if_lt (pc2 := 28) (pc3 := 34) dX5_reading_25 rfl rfl (fun h25 => ?_) (fun h25 => ?_)
      · skip
        refine x_bipush (v := -2) (pc2 := 36) dX5_reading_34 rfl (by decide) ?_
        refine x_iret dX5_reading_36 rfl ?_
        clear hc hn; exact ⟨by simp only [z_b0, z_bn0] at *; simp [*], by simp only [z_b0, z_bn0] at *; simp [*]⟩
      · skip
        refine x_iload3 (pc2 := 29) dX5_reading_28 rfl ?_
        refine x_bipush (v := 99) (pc2 := 31) dX5_reading_29 rfl (by decide) ?_
        refine x_icmp_le (pc2 := 34) (pc3 := 37) dX5_reading_31 rfl rfl (fun h31 => ?_) (fun h31 => ?_)
        · skip
          refine x_aload0 (pc2 := 38) dX5_reading_37 rfl ?_
          refine x_getR (pc2 := 41) fX5_30 sh_0 rfl dX5_reading_38 rfl ?_
          refine x_iload1 (pc2 := 42) dX5_reading_41 rfl ?_
          refine x_iload2 (pc2 := 43) dX5_reading_42 rfl ?_
          refine x_iload3 (pc2 := 44) dX5_reading_43 rfl ?_
          refine x_fV3 (pc2 := 47) eX1_add kX5_205 sh_22 rfl (Nat.le_of_ble_eq_true rfl) dX5_reading_44 rfl (s_add1 _ _ _ _ _ hc hn) ?_
          refine x_iret dX5_reading_47 rfl ?_
          clear hc hn; exact ⟨by simp only [z_b0, z_bn0] at *; simp [*], by simp only [z_b0, z_bn0] at *; simp [*]⟩
        · skip
          refine x_bipush (v := -2) (pc2 := 36) dX5_reading_34 rfl (by decide) ?_
          refine x_iret dX5_reading_36 rfl ?_
          clear hc hn; exact ⟨by simp only [z_b0, z_bn0] at *; simp [*], by simp only [z_b0, z_bn0] at *; simp [*]⟩
    · skip
      refine x_iconst (v := -1) (pc2 := 23) dX5_reading_22 rfl (by decide) ?_
      refine x_iret dX5_reading_23 rfl ?_
      clear hc hn; exact ⟨by simp only [z_b0, z_bn0] at *; simp [*], by simp only [z_b0, z_bn0] at *; simp [*]⟩
theorem z_lt8 {c : Int32} {n : Nat} (hc : c = nI n) (hn : n ≤ 8) (h : ¬ c = 8) : c < nI 8 := by
  subst hc
  have : n ≠ 8 := fun e => h (by subst e; rfl)
  exact nI_lt (by omega) (by decide)
theorem s_readingM (d : Nat) (σ : zS) (t s m : Int32) {n : Nat} (hc : σ.1 43 34 = nI n) (hn : n ≤ 8) : z_Fn mX6_reading (d + 2) [.ref 43, .int t, .int s, .int m] σ (.int (if z_rng t (σ.1 43 7) = false ∨ z_spot s (σ.1 43 6) = false then -1 else if z_wi m 0 99 = false then -2 else if σ.1 43 34 = 8 then -4 else σ.1 43 34 + 1 - 1)) (if z_rng t (σ.1 43 7) = false ∨ z_spot s (σ.1 43 6) = false then σ else if z_wi m 0 99 = false then σ else if σ.1 43 34 = 8 then σ else z_st (z_rd σ 60 61 62 (σ.1 43 34) t s m) 43 34 (σ.1 43 34 + 1)) := by
  refine x_enter (by decide) (Nat.le_of_ble_eq_true rfl) ?_
  show z_At _ _ _ [.ref 43, .int t, .int s, .int m] _ _ _
  have hlt : ¬ σ.1 43 34 = 8 → σ.1 43 34 < nI 8 := fun h => z_lt8 hc hn h
  refine x_aload0 (pc2 := 1) dX6_reading_0 rfl ?_
  refine x_iload1 (pc2 := 2) dX6_reading_1 rfl ?_
  refine x_fV1 (pc2 := 5) eX6_isThing kX6_143 sh_43 rfl (Nat.le_of_ble_eq_true rfl) dX6_reading_2 rfl (s_isThing _ _ _) ?_
  refine x_if_eq (pc2 := 8) (pc3 := 16) dX6_reading_5 rfl rfl (fun h5 => ?_) (fun h5 => ?_)
  · skip
    refine x_iconst (v := -1) (pc2 := 17) dX6_reading_16 rfl (by decide) ?_
    refine x_iret dX6_reading_17 rfl ?_
    clear hc hn hlt; exact ⟨by simp only [z_b0, z_bn0] at *; first | (simp [*]; done) | (rw [if_neg (by simp [*]), if_neg (by simp [*]), if_neg (by simp [*])]; rfl), by simp only [z_b0, z_bn0] at *; first | (simp [*]; done) | (rw [if_neg (by simp [*]), if_neg (by simp [*]), if_neg (by simp [*])]; rfl)⟩
  · skip
    refine x_aload0 (pc2 := 9) dX6_reading_8 rfl ?_
    refine x_iload2 (pc2 := 10) dX6_reading_9 rfl ?_
    refine x_fV1 (pc2 := 13) eX6_isSpot kX6_160 sh_43 rfl (Nat.le_of_ble_eq_true rfl) dX6_reading_10 rfl (s_isSpot _ _ _) ?_
    refine x_if_ne (pc2 := 16) (pc3 := 18) dX6_reading_13 rfl rfl (fun h13 => ?_) (fun h13 => ?_)
    · skip
      refine x_iload3 (pc2 := 19) dX6_reading_18 rfl ?_
      refine x_iconst (v := 0) (pc2 := 20) dX6_reading_19 rfl (by decide) ?_
      refine x_bipush (v := 99) (pc2 := 22) dX6_reading_20 rfl (by decide) ?_
      refine x_fS3 (pc2 := 25) eX6_within kX6_80 (Nat.le_of_ble_eq_true rfl) dX6_reading_22 rfl (s_within _ _ _ _ _) ?_
      refine x_if_ne (pc2 := 28) (pc3 := 31) dX6_reading_25 rfl rfl (fun h25 => ?_) (fun h25 => ?_)
      · skip
        refine x_aload0 (pc2 := 32) dX6_reading_31 rfl ?_
        refine x_getI (pc2 := 35) fX6_123 sh_43 rfl dX6_reading_32 rfl ?_
        refine x_bipush (v := 8) (pc2 := 37) dX6_reading_35 rfl (by decide) ?_
        refine x_icmp_ne (pc2 := 40) (pc3 := 43) dX6_reading_37 rfl rfl (fun h37 => ?_) (fun h37 => ?_)
        · skip
          refine x_aload0 (pc2 := 44) dX6_reading_43 rfl ?_
          refine x_getR (pc2 := 47) fX6_66 sh_43 rfl dX6_reading_44 rfl ?_
          refine x_aload0 (pc2 := 48) dX6_reading_47 rfl ?_
          refine x_getI (pc2 := 51) fX6_123 sh_43 rfl dX6_reading_48 rfl ?_
          refine x_iload1 (pc2 := 52) dX6_reading_51 rfl ?_
          refine x_iast (pc2 := 53) sh_60 (by exact z_in_lt (m := 8) hc (hlt h37) (by omega)) dX6_reading_52 rfl ?_
          refine x_aload0 (pc2 := 54) dX6_reading_53 rfl ?_
          refine x_getR (pc2 := 57) fX6_69 sh_43 rfl dX6_reading_54 rfl ?_
          refine x_aload0 (pc2 := 58) dX6_reading_57 rfl ?_
          refine x_getI (pc2 := 61) fX6_123 sh_43 rfl dX6_reading_58 rfl ?_
          refine x_iload2 (pc2 := 62) dX6_reading_61 rfl ?_
          refine x_iast (pc2 := 63) sh_61 (by exact z_in_lt (m := 8) hc (hlt h37) (by omega)) dX6_reading_62 rfl ?_
          refine x_aload0 (pc2 := 64) dX6_reading_63 rfl ?_
          refine x_getR (pc2 := 67) fX6_72 sh_43 rfl dX6_reading_64 rfl ?_
          refine x_aload0 (pc2 := 68) dX6_reading_67 rfl ?_
          refine x_getI (pc2 := 71) fX6_123 sh_43 rfl dX6_reading_68 rfl ?_
          refine x_iload3 (pc2 := 72) dX6_reading_71 rfl ?_
          refine x_iast (pc2 := 73) sh_62 (by exact z_in_lt (m := 8) hc (hlt h37) (by omega)) dX6_reading_72 rfl ?_
          refine x_aload0 (pc2 := 74) dX6_reading_73 rfl ?_
          refine x_dup (pc2 := 75) dX6_reading_74 rfl rfl ?_
          refine x_getI (pc2 := 78) fX6_123 sh_43 rfl dX6_reading_75 rfl ?_
          refine x_iconst (v := 1) (pc2 := 79) dX6_reading_78 rfl (by decide) ?_
          refine x_iadd (pc2 := 80) dX6_reading_79 rfl ?_
          refine x_putI (pc2 := 83) pX6_123 sh_43 rfl dX6_reading_80 rfl ?_
          refine x_aload0 (pc2 := 84) dX6_reading_83 rfl ?_
          refine x_getI (pc2 := 87) fX6_123 sh_43 rfl dX6_reading_84 rfl ?_
          refine x_iconst (v := 1) (pc2 := 88) dX6_reading_87 rfl (by decide) ?_
          refine x_isub (pc2 := 89) dX6_reading_88 rfl ?_
          refine x_iret dX6_reading_89 rfl ?_
          clear hc hn hlt; exact ⟨by simp only [z_b0, z_bn0] at *; first | (simp [*]; done) | (rw [if_neg (by simp [*]), if_neg (by simp [*]), if_neg (by simp [*])]; rfl), by simp only [z_b0, z_bn0] at *; first | (simp [*]; done) | (rw [if_neg (by simp [*]), if_neg (by simp [*]), if_neg (by simp [*])]; rfl)⟩
        · skip
          refine x_bipush (v := -4) (pc2 := 42) dX6_reading_40 rfl (by decide) ?_
          refine x_iret dX6_reading_42 rfl ?_
          clear hc hn hlt; exact ⟨by simp only [z_b0, z_bn0] at *; first | (simp [*]; done) | (rw [if_neg (by simp [*]), if_neg (by simp [*]), if_neg (by simp [*])]; rfl), by simp only [z_b0, z_bn0] at *; first | (simp [*]; done) | (rw [if_neg (by simp [*]), if_neg (by simp [*]), if_neg (by simp [*])]; rfl)⟩
      · skip
        refine x_bipush (v := -2) (pc2 := 30) dX6_reading_28 rfl (by decide) ?_
        refine x_iret dX6_reading_30 rfl ?_
        clear hc hn hlt; exact ⟨by simp only [z_b0, z_bn0] at *; first | (simp [*]; done) | (rw [if_neg (by simp [*]), if_neg (by simp [*]), if_neg (by simp [*])]; rfl), by simp only [z_b0, z_bn0] at *; first | (simp [*]; done) | (rw [if_neg (by simp [*]), if_neg (by simp [*]), if_neg (by simp [*])]; rfl)⟩
    · skip
      refine x_iconst (v := -1) (pc2 := 17) dX6_reading_16 rfl (by decide) ?_
      refine x_iret dX6_reading_17 rfl ?_
      clear hc hn hlt; exact ⟨by simp only [z_b0, z_bn0] at *; first | (simp [*]; done) | (rw [if_neg (by simp [*]), if_neg (by simp [*]), if_neg (by simp [*])]; rfl), by simp only [z_b0, z_bn0] at *; first | (simp [*]; done) | (rw [if_neg (by simp [*]), if_neg (by simp [*]), if_neg (by simp [*])]; rfl)⟩
theorem s_backC (d : Nat) (σ : zS) (k : Int32) : z_Fn mX5_back d [.ref 0, .int k] σ (.int (if k < 0 ∨ ¬ k ≤ σ.1 22 0 then -2 else σ.1 22 0 - k)) (if k < 0 ∨ ¬ k ≤ σ.1 22 0 then σ else z_st σ 22 0 (σ.1 22 0 - k)) := by
  refine x_enter (by decide) (Nat.le_of_ble_eq_true rfl) ?_
  show z_At _ _ _ [.ref 0, .int k] _ _ _
  refine x_iload1 (pc2 := 1) dX5_back_0 rfl ?_
  refine x_if_lt (pc2 := 4) (pc3 := 15) dX5_back_1 rfl rfl (fun h1 => ?_) (fun h1 => ?_)
  · skip
    refine x_bipush (v := -2) (pc2 := 17) dX5_back_15 rfl (by decide) ?_
    refine x_iret dX5_back_17 rfl ?_
    exact ⟨by first | (simp [*]; done) | (rw [if_neg (by simp [*])]; rfl), by simp [*]⟩
  · skip
    refine x_iload1 (pc2 := 5) dX5_back_4 rfl ?_
    refine x_aload0 (pc2 := 6) dX5_back_5 rfl ?_
    refine x_getR (pc2 := 9) fX5_30 sh_0 rfl dX5_back_6 rfl ?_
    refine x_getI (pc2 := 12) fX5_83 sh_22 rfl dX5_back_9 rfl ?_
    refine x_icmp_le (pc2 := 15) (pc3 := 18) dX5_back_12 rfl rfl (fun h12 => ?_) (fun h12 => ?_)
    · skip
      refine x_aload0 (pc2 := 19) dX5_back_18 rfl ?_
      refine x_getR (pc2 := 22) fX5_30 sh_0 rfl dX5_back_19 rfl ?_
      refine x_dup (pc2 := 23) dX5_back_22 rfl rfl ?_
      refine x_getI (pc2 := 26) fX5_83 sh_22 rfl dX5_back_23 rfl ?_
      refine x_iload1 (pc2 := 27) dX5_back_26 rfl ?_
      refine x_isub (pc2 := 28) dX5_back_27 rfl ?_
      refine x_putI (pc2 := 31) pX5_83 sh_22 rfl dX5_back_28 rfl ?_
      refine x_aload0 (pc2 := 32) dX5_back_31 rfl ?_
      refine x_getR (pc2 := 35) fX5_30 sh_0 rfl dX5_back_32 rfl ?_
      refine x_getI (pc2 := 38) fX5_83 sh_22 rfl dX5_back_35 rfl ?_
      refine x_iret dX5_back_38 rfl ?_
      exact ⟨by first | (simp [*]; done) | (rw [if_neg (by simp [*])]; rfl), by simp [*]⟩
    · skip
      refine x_bipush (v := -2) (pc2 := 17) dX5_back_15 rfl (by decide) ?_
      refine x_iret dX5_back_17 rfl ?_
      exact ⟨by first | (simp [*]; done) | (rw [if_neg (by simp [*])]; rfl), by simp [*]⟩
theorem s_backM (d : Nat) (σ : zS) (k : Int32) : z_Fn mX6_back (d + 1) [.ref 43, .int k] σ (.int (if z_wi k 0 (σ.1 43 34) = false then -2 else σ.1 43 34 - k)) (if z_wi k 0 (σ.1 43 34) = false then σ else z_st σ 43 34 (σ.1 43 34 - k)) := by
  refine x_enter (by decide) (Nat.le_of_ble_eq_true rfl) ?_
  show z_At _ _ _ [.ref 43, .int k] _ _ _
  refine x_iload1 (pc2 := 1) dX6_back_0 rfl ?_
  refine x_iconst (v := 0) (pc2 := 2) dX6_back_1 rfl (by decide) ?_
  refine x_aload0 (pc2 := 3) dX6_back_2 rfl ?_
  refine x_getI (pc2 := 6) fX6_123 sh_43 rfl dX6_back_3 rfl ?_
  refine x_fS3 (pc2 := 9) eX6_within kX6_80 (Nat.le_of_ble_eq_true rfl) dX6_back_6 rfl (s_within _ _ _ _ _) ?_
  refine x_if_ne (pc2 := 12) (pc3 := 15) dX6_back_9 rfl rfl (fun h9 => ?_) (fun h9 => ?_)
  · skip
    refine x_aload0 (pc2 := 16) dX6_back_15 rfl ?_
    refine x_dup (pc2 := 17) dX6_back_16 rfl rfl ?_
    refine x_getI (pc2 := 20) fX6_123 sh_43 rfl dX6_back_17 rfl ?_
    refine x_iload1 (pc2 := 21) dX6_back_20 rfl ?_
    refine x_isub (pc2 := 22) dX6_back_21 rfl ?_
    refine x_putI (pc2 := 25) pX6_123 sh_43 rfl dX6_back_22 rfl ?_
    refine x_aload0 (pc2 := 26) dX6_back_25 rfl ?_
    refine x_getI (pc2 := 29) fX6_123 sh_43 rfl dX6_back_26 rfl ?_
    refine x_iret dX6_back_29 rfl ?_
    simp only [z_b0, z_bn0] at *; exact ⟨by first | (simp [*]; done) | (rw [if_neg (by simp [*])]; rfl), by simp [*]⟩
  · skip
    refine x_bipush (v := -2) (pc2 := 14) dX6_back_12 rfl (by decide) ?_
    refine x_iret dX6_back_14 rfl ?_
    simp only [z_b0, z_bn0] at *; exact ⟨by first | (simp [*]; done) | (rw [if_neg (by simp [*])]; rfl), by simp [*]⟩
