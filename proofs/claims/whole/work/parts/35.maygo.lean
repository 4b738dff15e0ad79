/-! PortageTripsModel.mayGo, well of both -/
def z_andn (a b : Int32) : Int32 := a &&& (b ^^^ (-1))
theorem z_an (a b : Int32) : a &&& (b ^^^ (-1)) = z_andn a b := rfl
def z_mgo (N bears : Int32) (kinds pounds : Nat → Int32) (K : Nat) (miss all to set : Int32) : Bool :=
  z_spot to N && ((decide (to = (all &&& 3) + 1) || decide (to = (all &&& 3) - 1)) && (decide (z_andn set (z_ta all (all &&& 3) miss K) = 0) && (decide (z_ld pounds set K ≤ bears) && decide (z_wm kinds (z_andn (z_ta all (all &&& 3) miss K) set) K K = z_andn (z_ta all (all &&& 3) miss K) set))))
theorem s_mayGo (d : Nat) (σ : zS) (all to set : Int32) {K : Nat} (hK : σ.1 43 7 = nI K) (hK4 : K ≤ 4) : z_Fn mX6_mayGo (d + 2) [.ref 43, .int all, .int to, .int set] σ (.int (z_b (z_mgo (σ.1 43 6) (σ.1 43 5) (σ.1 50) (σ.1 51) K (σ.1 43 14) all to set))) σ := by
  refine x_enter (by decide) (Nat.le_of_ble_eq_true rfl) ?_
  show z_At _ _ _ [.ref 43, .int all, .int to, .int set, .null, .null, .null, .null] _ _ _
  unfold z_mgo
  refine x_iload1 (pc2 := 1) dX6_mayGo_0 rfl ?_
  refine x_iconst (v := 3) (pc2 := 2) dX6_mayGo_1 rfl (by decide) ?_
  refine x_iand (pc2 := 3) dX6_mayGo_2 rfl ?_
  refine x_istore4 (pc2 := 5) dX6_mayGo_3 rfl rfl ?_
  refine x_aload0 (pc2 := 6) dX6_mayGo_5 rfl ?_
  refine x_iload1 (pc2 := 7) dX6_mayGo_6 rfl ?_
  refine x_iload4 (pc2 := 9) dX6_mayGo_7 rfl ?_
  refine x_fV2 (pc2 := 12) eX6_thingsAt kX6_156 sh_43 rfl (Nat.le_of_ble_eq_true rfl) dX6_mayGo_9 rfl (s_thingsAt _ _ _ _ hK hK4) ?_
  refine x_istore5 (pc2 := 14) dX6_mayGo_12 rfl rfl ?_
  generalize z_ta all (all &&& 3) (σ.1 43 14) K = th
  generalize all &&& 3 = here
  suffices h : ∀ bs : Int32, bs = z_b (decide (to = here + 1) || decide (to = here - 1)) → z_At mX6_mayGo (d + 2) 37 [.ref 43, .int all, .int to, .int set, .int here, .int th, .int bs, .null] [] σ (fun rv σ' => rv = some (.int (z_b (z_spot to (σ.1 43 6) && ((decide (to = here + 1) || decide (to = here - 1)) && (decide (z_andn set th = 0) && (decide (z_ld (σ.1 51) set K ≤ σ.1 43 5) && decide (z_wm (σ.1 50) (z_andn th set) K K = z_andn th set))))))) ∧ σ' = σ) by
    refine x_iload2 (pc2 := 15) dX6_mayGo_14 rfl ?_
    refine x_iload4 (pc2 := 17) dX6_mayGo_15 rfl ?_
    refine x_iconst (v := 1) (pc2 := 18) dX6_mayGo_17 rfl (by decide) ?_
    refine x_iadd (pc2 := 19) dX6_mayGo_18 rfl ?_
    refine x_icmp_eq (pc2 := 22) (pc3 := 30) dX6_mayGo_19 rfl rfl (fun h19 => ?_) (fun h19 => ?_)
    · skip
      refine x_iconst (v := 1) (pc2 := 31) dX6_mayGo_30 rfl (by decide) ?_
      refine x_goto (pc2 := 35) dX6_mayGo_31 rfl ?_
      refine x_istore6 (pc2 := 37) dX6_mayGo_35 rfl rfl ?_
      exact h 1 (by simp [h19, z_b])
    · skip
      refine x_iload2 (pc2 := 23) dX6_mayGo_22 rfl ?_
      refine x_iload4 (pc2 := 25) dX6_mayGo_23 rfl ?_
      refine x_iconst (v := 1) (pc2 := 26) dX6_mayGo_25 rfl (by decide) ?_
      refine x_isub (pc2 := 27) dX6_mayGo_26 rfl ?_
      refine x_icmp_ne (pc2 := 30) (pc3 := 34) dX6_mayGo_27 rfl rfl (fun h27 => ?_) (fun h27 => ?_)
      · skip
        refine x_iconst (v := 0) (pc2 := 35) dX6_mayGo_34 rfl (by decide) ?_
        refine x_istore6 (pc2 := 37) dX6_mayGo_35 rfl rfl ?_
        exact h 0 (by simp [h19, h27, z_b])
      · skip
        refine x_iconst (v := 1) (pc2 := 31) dX6_mayGo_30 rfl (by decide) ?_
        refine x_goto (pc2 := 35) dX6_mayGo_31 rfl ?_
        refine x_istore6 (pc2 := 37) dX6_mayGo_35 rfl rfl ?_
        exact h 1 (by simp [h27, z_b])
  intro bs hbs
  generalize (decide (to = here + 1) || decide (to = here - 1)) = bes at *
  subst hbs
  refine x_aload0 (pc2 := 38) dX6_mayGo_37 rfl ?_
  refine x_iload2 (pc2 := 39) dX6_mayGo_38 rfl ?_
  refine x_fV1 (pc2 := 42) eX6_isSpot kX6_160 sh_43 rfl (Nat.le_of_ble_eq_true rfl) dX6_mayGo_39 rfl (s_isSpot _ _ _) ?_
  refine x_if_eq (pc2 := 45) (pc3 := 71) dX6_mayGo_42 rfl rfl (fun h42 => ?_) (fun h42 => ?_)
  · skip
    refine x_iconst (v := 0) (pc2 := 72) dX6_mayGo_71 rfl (by decide) ?_
    refine x_zret dX6_mayGo_72 rfl (by first | assumption | exact z_b01 _ | exact Or.inl rfl | exact Or.inr rfl) ?_
    clear hK hK4; refine ⟨?_, rfl⟩; simp only [z_an, z_b0, z_bn0] at *; simp [*, z_b]
  · skip
    refine x_iload6 (pc2 := 47) dX6_mayGo_45 rfl ?_
    refine x_if_eq (pc2 := 50) (pc3 := 71) dX6_mayGo_47 rfl rfl (fun h47 => ?_) (fun h47 => ?_)
    · skip
      refine x_iconst (v := 0) (pc2 := 72) dX6_mayGo_71 rfl (by decide) ?_
      refine x_zret dX6_mayGo_72 rfl (by first | assumption | exact z_b01 _ | exact Or.inl rfl | exact Or.inr rfl) ?_
      clear hK hK4; refine ⟨?_, rfl⟩; simp only [z_an, z_b0, z_bn0] at *; simp [*, z_b]
    · skip
      refine x_iload3 (pc2 := 51) dX6_mayGo_50 rfl ?_
      refine x_iload5 (pc2 := 53) dX6_mayGo_51 rfl ?_
      refine x_iconst (v := -1) (pc2 := 54) dX6_mayGo_53 rfl (by decide) ?_
      refine x_ixor (pc2 := 55) dX6_mayGo_54 rfl ?_
      refine x_iand (pc2 := 56) dX6_mayGo_55 rfl ?_
      refine x_if_ne (pc2 := 59) (pc3 := 71) dX6_mayGo_56 rfl rfl (fun h56 => ?_) (fun h56 => ?_)
      · skip
        refine x_iconst (v := 0) (pc2 := 72) dX6_mayGo_71 rfl (by decide) ?_
        refine x_zret dX6_mayGo_72 rfl (by first | assumption | exact z_b01 _ | exact Or.inl rfl | exact Or.inr rfl) ?_
        clear hK hK4; refine ⟨?_, rfl⟩; simp only [z_an, z_b0, z_bn0] at *; simp [*, z_b]
      · skip
        refine x_aload0 (pc2 := 60) dX6_mayGo_59 rfl ?_
        refine x_iload3 (pc2 := 61) dX6_mayGo_60 rfl ?_
        refine x_fV1 (pc2 := 64) eX6_poundsOf kX6_163 sh_43 rfl (Nat.le_of_ble_eq_true rfl) dX6_mayGo_61 rfl (s_poundsOf _ _ _ hK hK4) ?_
        refine x_aload0 (pc2 := 65) dX6_mayGo_64 rfl ?_
        refine x_getI (pc2 := 68) fX6_114 sh_43 rfl dX6_mayGo_65 rfl ?_
        refine x_icmp_le (pc2 := 71) (pc3 := 73) dX6_mayGo_68 rfl rfl (fun h68 => ?_) (fun h68 => ?_)
        · skip
          refine x_iload5 (pc2 := 75) dX6_mayGo_73 rfl ?_
          refine x_iload3 (pc2 := 76) dX6_mayGo_75 rfl ?_
          refine x_iconst (v := -1) (pc2 := 77) dX6_mayGo_76 rfl (by decide) ?_
          refine x_ixor (pc2 := 78) dX6_mayGo_77 rfl ?_
          refine x_iand (pc2 := 79) dX6_mayGo_78 rfl ?_
          refine x_istore7 (pc2 := 81) dX6_mayGo_79 rfl rfl ?_
          refine x_aload0 (pc2 := 82) dX6_mayGo_81 rfl ?_
          refine x_iload7 (pc2 := 84) dX6_mayGo_82 rfl ?_
          refine x_fV1 (pc2 := 87) eX6_wellOf kX6_153 sh_43 rfl (Nat.le_of_ble_eq_true rfl) dX6_mayGo_84 rfl (s_wellOf _ _ _ hK hK4) ?_
          refine x_iload7 (pc2 := 89) dX6_mayGo_87 rfl ?_
          refine x_icmp_ne (pc2 := 92) (pc3 := 96) dX6_mayGo_89 rfl rfl (fun h89 => ?_) (fun h89 => ?_)
          · skip
            refine x_iconst (v := 0) (pc2 := 97) dX6_mayGo_96 rfl (by decide) ?_
            refine x_zret dX6_mayGo_97 rfl (by first | assumption | exact z_b01 _ | exact Or.inl rfl | exact Or.inr rfl) ?_
            clear hK hK4; refine ⟨?_, rfl⟩; simp only [z_an, z_b0, z_bn0] at *; simp [*, z_b]
          · skip
            refine x_iconst (v := 1) (pc2 := 93) dX6_mayGo_92 rfl (by decide) ?_
            refine x_goto (pc2 := 97) dX6_mayGo_93 rfl ?_
            refine x_zret dX6_mayGo_97 rfl (by first | assumption | exact z_b01 _ | exact Or.inl rfl | exact Or.inr rfl) ?_
            clear hK hK4; refine ⟨?_, rfl⟩; simp only [z_an, z_b0, z_bn0] at *; simp [*, z_b]
        · skip
          refine x_iconst (v := 0) (pc2 := 72) dX6_mayGo_71 rfl (by decide) ?_
          refine x_zret dX6_mayGo_72 rfl (by first | assumption | exact z_b01 _ | exact Or.inl rfl | exact Or.inr rfl) ?_
          clear hK hK4; refine ⟨?_, rfl⟩; simp only [z_an, z_b0, z_bn0] at *; simp [*, z_b]
theorem z_isP1 : z_isP 1 := Or.inl rfl
theorem s_wellC (d : Nat) (σ : zS) (set : Int32) {K : Nat} (hK : σ.1 1 6 = nI K) (hK4 : K ≤ 4) : z_Fn mX5_well (d + 2) [.ref 0, .int set] σ (.int (if ¬ z_ushr set (σ.1 1 6) = 0 then -2 else if z_pos (σ.1 1 2) = false then -3 else z_wo (σ.1 5) set (set &&& z_food (σ.1 5) K) K)) σ := by
  refine x_enter (by decide) (Nat.le_of_ble_eq_true rfl) ?_
  show z_At _ _ _ [.ref 0, .int set] _ _ _
  refine x_aload0 (pc2 := 1) dX5_well_0 rfl ?_
  refine x_getR (pc2 := 4) fX5_12 sh_0 rfl dX5_well_1 rfl ?_
  refine x_iload1 (pc2 := 5) dX5_well_4 rfl ?_
  refine x_fV1 (pc2 := 8) eX0_hasAllOf kX5_124 sh_1 rfl (Nat.le_of_ble_eq_true rfl) dX5_well_5 rfl (s_hasAllOf _ _ z_P1 _) ?_
  refine x_if_ne (pc2 := 11) (pc3 := 14) dX5_well_8 rfl rfl (fun h8 => ?_) (fun h8 => ?_)
  · skip
    refine x_aload0 (pc2 := 15) dX5_well_14 rfl ?_
    refine x_getR (pc2 := 18) fX5_12 sh_0 rfl dX5_well_15 rfl ?_
    refine x_fV0 (pc2 := 21) eX0_isThere kX5_114 sh_1 rfl (Nat.le_of_ble_eq_true rfl) dX5_well_18 rfl (s_isThere _ _ z_P1) ?_
    refine x_if_ne (pc2 := 24) (pc3 := 27) dX5_well_21 rfl rfl (fun h21 => ?_) (fun h21 => ?_)
    · skip
      refine x_aload0 (pc2 := 28) dX5_well_27 rfl ?_
      refine x_getR (pc2 := 31) fX5_12 sh_0 rfl dX5_well_28 rfl ?_
      refine x_iload1 (pc2 := 32) dX5_well_31 rfl ?_
      refine x_fV1 (pc2 := 35) eX0_wellOnes kX5_127 sh_1 rfl (Nat.le_of_ble_eq_true rfl) dX5_well_32 rfl (s_wellOnes _ _ z_P1 _ hK hK4) ?_
      refine x_iret dX5_well_35 rfl ?_
      clear hK hK4; refine ⟨?_, rfl⟩; simp only [z_b0, z_bn0] at *; simp_all
    · skip
      refine x_bipush (v := -3) (pc2 := 26) dX5_well_24 rfl (by decide) ?_
      refine x_iret dX5_well_26 rfl ?_
      clear hK hK4; refine ⟨?_, rfl⟩; simp only [z_b0, z_bn0] at *; simp_all
  · skip
    refine x_bipush (v := -2) (pc2 := 13) dX5_well_11 rfl (by decide) ?_
    refine x_iret dX5_well_13 rfl ?_
    clear hK hK4; refine ⟨?_, rfl⟩; simp only [z_b0, z_bn0] at *; simp_all
def z_all (K : Int32) : Int32 := ((1 : Int32) <<< (K &&& 31)) - 1
theorem s_wellM (d : Nat) (σ : zS) (set : Int32) {K : Nat} (hK : σ.1 43 7 = nI K) (hK4 : K ≤ 4) : z_Fn mX6_well (d + 2) [.ref 43, .int set] σ (.int (if z_wi set 0 (z_all (σ.1 43 7)) = false then -2 else if σ.1 43 6 = 0 then -3 else z_wm (σ.1 50) set K K)) σ := by
  refine x_enter (by decide) (Nat.le_of_ble_eq_true rfl) ?_
  show z_At _ _ _ [.ref 43, .int set] _ _ _
  unfold z_all
  refine x_iload1 (pc2 := 1) dX6_well_0 rfl ?_
  refine x_iconst (v := 0) (pc2 := 2) dX6_well_1 rfl (by decide) ?_
  refine x_aload0 (pc2 := 3) dX6_well_2 rfl ?_
  refine x_fV0 (pc2 := 6) eX6_allThings kX6_149 sh_43 rfl (Nat.le_of_ble_eq_true rfl) dX6_well_3 rfl (s_allThings _ _) ?_
  refine x_fS3 (pc2 := 9) eX6_within kX6_80 (Nat.le_of_ble_eq_true rfl) dX6_well_6 rfl (s_within _ _ _ _ _) ?_
  refine x_if_ne (pc2 := 12) (pc3 := 15) dX6_well_9 rfl rfl (fun h9 => ?_) (fun h9 => ?_)
  · skip
    refine x_aload0 (pc2 := 16) dX6_well_15 rfl ?_
    refine x_getI (pc2 := 19) fX6_84 sh_43 rfl dX6_well_16 rfl ?_
    refine x_if_ne (pc2 := 22) (pc3 := 27) dX6_well_19 rfl rfl (fun h19 => ?_) (fun h19 => ?_)
    · skip
      refine x_aload0 (pc2 := 28) dX6_well_27 rfl ?_
      refine x_iload1 (pc2 := 29) dX6_well_28 rfl ?_
      refine x_fV1 (pc2 := 32) eX6_wellOf kX6_153 sh_43 rfl (Nat.le_of_ble_eq_true rfl) dX6_well_29 rfl (s_wellOf _ _ _ hK hK4) ?_
      refine x_iret dX6_well_32 rfl ?_
      clear hK hK4; refine ⟨?_, rfl⟩; simp only [z_b0, z_bn0] at *; simp [*]
    · skip
      refine x_bipush (v := -3) (pc2 := 24) dX6_well_22 rfl (by decide) ?_
      refine x_goto (pc2 := 32) dX6_well_24 rfl ?_
      refine x_iret dX6_well_32 rfl ?_
      clear hK hK4; refine ⟨?_, rfl⟩; simp only [z_b0, z_bn0] at *; simp [*]
  · skip
    refine x_bipush (v := -2) (pc2 := 14) dX6_well_12 rfl (by decide) ?_
    refine x_iret dX6_well_14 rfl ?_
    clear hK hK4; refine ⟨?_, rfl⟩; simp only [z_b0, z_bn0] at *; simp [*]
