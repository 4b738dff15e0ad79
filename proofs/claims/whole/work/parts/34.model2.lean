/-! PortageTripsModel: loops that only read -/
def z_hf (kinds : Nat → Int32) (set : Int32) : Nat → Bool
  | 0 => false
  | n + 1 => z_hf kinds set n || (z_bit set (nI n) && decide (kinds n = 1))
def z_mw (kind others : Int32) (hf : Bool) : Bool := decide (kind = 0) || (!decide (others = 0) && (decide (kind = 1) || !hf))
theorem s_isWellM (d : Nat) (σ : zS) {t : Nat} (set : Int32) {K : Nat} (hK : σ.1 43 7 = nI K) (hK4 : K ≤ 4) (ht : t < 4) : z_Fn mX6_isWell d [.ref 43, .int (nI t), .int set] σ (.int (z_b (z_mw (σ.1 50 t) (set &&& (((1 : Int32) <<< (nI t &&& 31)) ^^^ (-1))) (z_hf (σ.1 50) set K)))) σ := by
  refine x_enter (by decide) (Nat.le_of_ble_eq_true rfl) ?_
  show z_At _ _ _ [.ref 43, .int (nI t), .int set, .null, .null] _ _ _
  obtain ⟨O, hO⟩ : ∃ O, O = (set &&& (((1 : Int32) <<< (nI t &&& 31)) ^^^ (-1))) := ⟨_, rfl⟩
  rw [← hO]
  refine x_aload0 (pc2 := 1) dX6_isWell_0 rfl ?_
  refine x_getR (pc2 := 4) fX6_33 sh_43 rfl dX6_isWell_1 rfl ?_
  refine x_iload1 (pc2 := 5) dX6_isWell_4 rfl ?_
  refine x_iald (pc2 := 6) sh_50 (by exact z_in ht) dX6_isWell_5 rfl ?_
  rw [nI_clamp (by omega)]
  refine x_if_ne (pc2 := 9) (pc3 := 11) dX6_isWell_6 rfl rfl (fun h6 => ?_) (fun h6 => ?_)
  rotate_left
  · skip
    refine x_iconst (v := 1) (pc2 := 10) dX6_isWell_9 rfl (by decide) ?_
    refine x_zret dX6_isWell_10 rfl (by first | assumption | exact z_b01 _ | exact Or.inl rfl | exact Or.inr rfl) ?_
    exact ⟨by simp [z_mw, h6, z_b], rfl⟩
  refine x_iconst (v := 0) (pc2 := 12) dX6_isWell_11 rfl (by decide) ?_
  refine x_istore3 (pc2 := 13) dX6_isWell_12 rfl rfl ?_
  refine x_iconst (v := 0) (pc2 := 14) dX6_isWell_13 rfl (by decide) ?_
  refine x_istore4 (pc2 := 16) dX6_isWell_14 rfl rfl ?_
  suffices h : ∀ n x, x + n = K → z_At mX6_isWell d 16 [.ref 43, .int (nI t), .int set, .int (z_b (z_hf (σ.1 50) set x)), .int (nI x)] [] σ (fun rv σ' => rv = some (.int (z_b (z_mw (σ.1 50 t) O (z_hf (σ.1 50) set K)))) ∧ σ' = σ) from h K 0 (by omega)
  intro n
  induction n with
  | zero =>
    intro x hx
    obtain rfl : x = K := by omega
    refine x_iload4 (pc2 := 18) dX6_isWell_16 rfl ?_
    refine x_aload0 (pc2 := 19) dX6_isWell_18 rfl ?_
    refine x_getI (pc2 := 22) fX6_87 sh_43 rfl dX6_isWell_19 rfl ?_
    refine x_icmp_ge (pc2 := 25) (pc3 := 62) dX6_isWell_22 rfl rfl (fun h22 => ?_) (fun h22 => ?_)
    · skip
      refine x_iload2 (pc2 := 63) dX6_isWell_62 rfl ?_
      refine x_iconst (v := 1) (pc2 := 64) dX6_isWell_63 rfl (by decide) ?_
      refine x_iload1 (pc2 := 65) dX6_isWell_64 rfl ?_
      refine x_ishl (pc2 := 66) dX6_isWell_65 rfl ?_
      refine x_iconst (v := -1) (pc2 := 67) dX6_isWell_66 rfl (by decide) ?_
      refine x_ixor (pc2 := 68) dX6_isWell_67 rfl ?_
      refine x_iand (pc2 := 69) dX6_isWell_68 rfl ?_
      refine x_if_eq (pc2 := 72) (pc3 := 90) dX6_isWell_69 rfl rfl (fun h69 => ?_) (fun h69 => ?_)
      · rw [← hO] at h69
        refine x_iconst (v := 0) (pc2 := 91) dX6_isWell_90 rfl (by decide) ?_
        refine x_zret dX6_isWell_91 rfl (by first | assumption | exact z_b01 _ | exact Or.inl rfl | exact Or.inr rfl) ?_
        exact ⟨by simp [z_mw, h6, h69, z_b], rfl⟩
      · rw [← hO] at h69
        refine x_aload0 (pc2 := 73) dX6_isWell_72 rfl ?_
        refine x_getR (pc2 := 76) fX6_33 sh_43 rfl dX6_isWell_73 rfl ?_
        refine x_iload1 (pc2 := 77) dX6_isWell_76 rfl ?_
        refine x_iald (pc2 := 78) sh_50 (by exact z_in ht) dX6_isWell_77 rfl ?_
        refine x_iconst (v := 1) (pc2 := 79) dX6_isWell_78 rfl (by decide) ?_
        rw [nI_clamp (by omega)]
        refine x_icmp_eq (pc2 := 82) (pc3 := 86) dX6_isWell_79 rfl rfl (fun h79 => ?_) (fun h79 => ?_)
        · skip
          refine x_iconst (v := 1) (pc2 := 87) dX6_isWell_86 rfl (by decide) ?_
          refine x_goto (pc2 := 91) dX6_isWell_87 rfl ?_
          refine x_zret dX6_isWell_91 rfl (by first | assumption | exact z_b01 _ | exact Or.inl rfl | exact Or.inr rfl) ?_
          exact ⟨by simp [z_mw, h6, h69, h79, z_b], rfl⟩
        · skip
          refine x_iload3 (pc2 := 83) dX6_isWell_82 rfl ?_
          refine x_if_ne (pc2 := 86) (pc3 := 90) dX6_isWell_83 rfl rfl (fun h83 => ?_) (fun h83 => ?_)
          · rw [z_bn0] at h83
            refine x_iconst (v := 0) (pc2 := 91) dX6_isWell_90 rfl (by decide) ?_
            refine x_zret dX6_isWell_91 rfl (by first | assumption | exact z_b01 _ | exact Or.inl rfl | exact Or.inr rfl) ?_
            exact ⟨by simp [z_mw, h6, h69, h79, h83, z_b], rfl⟩
          · rw [z_b0] at h83
            refine x_iconst (v := 1) (pc2 := 87) dX6_isWell_86 rfl (by decide) ?_
            refine x_goto (pc2 := 91) dX6_isWell_87 rfl ?_
            refine x_zret dX6_isWell_91 rfl (by first | assumption | exact z_b01 _ | exact Or.inl rfl | exact Or.inr rfl) ?_
            exact ⟨by simp [z_mw, h6, h69, h79, h83, z_b], rfl⟩
    · exact absurd (by rw [hK]; exact Int32.le_refl _) h22
  | succ n ih =>
    intro x hx
    refine x_iload4 (pc2 := 18) dX6_isWell_16 rfl ?_
    refine x_aload0 (pc2 := 19) dX6_isWell_18 rfl ?_
    refine x_getI (pc2 := 22) fX6_87 sh_43 rfl dX6_isWell_19 rfl ?_
    refine x_icmp_ge (pc2 := 25) (pc3 := 62) dX6_isWell_22 rfl rfl (fun h22 => ?_) (fun h22 => ?_)
    · rw [hK] at h22
      exact absurd h22 (nI_ge (by omega) (by omega))
    · skip
      refine x_iload3 (pc2 := 26) dX6_isWell_25 rfl ?_
      refine x_if_ne (pc2 := 29) (pc3 := 50) dX6_isWell_26 rfl rfl (fun h26 => ?_) (fun h26 => ?_)
      · rw [z_bn0] at h26
        refine x_iconst (v := 1) (pc2 := 51) dX6_isWell_50 rfl (by decide) ?_
        refine x_goto (pc2 := 55) dX6_isWell_51 rfl ?_
        refine x_istore3 (pc2 := 56) dX6_isWell_55 rfl rfl ?_
        refine x_iinc4 (pc2 := 59) dX6_isWell_56 rfl (z_inc1 _) rfl ?_
        refine x_goto (pc2 := 16) dX6_isWell_59 rfl ?_
        rw [← nI_succ]
        have := ih (x + 1) (by omega)
        rw [z_hf, h26, Bool.true_or] at this
        exact this
      · rw [z_b0] at h26
        refine x_iload2 (pc2 := 30) dX6_isWell_29 rfl ?_
        refine x_iload4 (pc2 := 32) dX6_isWell_30 rfl ?_
        refine x_ishr (pc2 := 33) dX6_isWell_32 rfl ?_
        refine x_iconst (v := 1) (pc2 := 34) dX6_isWell_33 rfl (by decide) ?_
        refine x_iand (pc2 := 35) dX6_isWell_34 rfl ?_
        refine x_iconst (v := 1) (pc2 := 36) dX6_isWell_35 rfl (by decide) ?_
        refine x_icmp_ne (pc2 := 39) (pc3 := 54) dX6_isWell_36 rfl rfl (fun h36 => ?_) (fun h36 => ?_)
        · skip
          refine x_iconst (v := 0) (pc2 := 55) dX6_isWell_54 rfl (by decide) ?_
          refine x_istore3 (pc2 := 56) dX6_isWell_55 rfl rfl ?_
          refine x_iinc4 (pc2 := 59) dX6_isWell_56 rfl (z_inc1 _) rfl ?_
          refine x_goto (pc2 := 16) dX6_isWell_59 rfl ?_
          rw [← nI_succ]
          have := ih (x + 1) (by omega)
          rw [z_hf, h26, Bool.false_or, show z_bit set (nI x) = false from decide_eq_false h36, Bool.false_and] at this
          exact this
        · skip
          refine x_aload0 (pc2 := 40) dX6_isWell_39 rfl ?_
          refine x_getR (pc2 := 43) fX6_33 sh_43 rfl dX6_isWell_40 rfl ?_
          refine x_iload4 (pc2 := 45) dX6_isWell_43 rfl ?_
          refine x_iald (pc2 := 46) sh_50 (by exact z_in (by omega)) dX6_isWell_45 rfl ?_
          refine x_iconst (v := 1) (pc2 := 47) dX6_isWell_46 rfl (by decide) ?_
          rw [nI_clamp (by omega)]
          refine x_icmp_ne (pc2 := 50) (pc3 := 54) dX6_isWell_47 rfl rfl (fun h47 => ?_) (fun h47 => ?_)
          · skip
            refine x_iconst (v := 0) (pc2 := 55) dX6_isWell_54 rfl (by decide) ?_
            refine x_istore3 (pc2 := 56) dX6_isWell_55 rfl rfl ?_
            refine x_iinc4 (pc2 := 59) dX6_isWell_56 rfl (z_inc1 _) rfl ?_
            refine x_goto (pc2 := 16) dX6_isWell_59 rfl ?_
            rw [← nI_succ]
            have := ih (x + 1) (by omega)
            rw [z_hf, h26, Bool.false_or, decide_eq_false h47, Bool.and_false] at this
            exact this
          · skip
            refine x_iconst (v := 1) (pc2 := 51) dX6_isWell_50 rfl (by decide) ?_
            refine x_goto (pc2 := 55) dX6_isWell_51 rfl ?_
            refine x_istore3 (pc2 := 56) dX6_isWell_55 rfl rfl ?_
            refine x_iinc4 (pc2 := 59) dX6_isWell_56 rfl (z_inc1 _) rfl ?_
            refine x_goto (pc2 := 16) dX6_isWell_59 rfl ?_
            rw [← nI_succ]
            have := ih (x + 1) (by omega)
            rw [z_hf, h26, Bool.false_or, show z_bit set (nI x) = true from decide_eq_true h36, decide_eq_true h47, Bool.and_self] at this
            exact this
def z_wm (kinds : Nat → Int32) (set : Int32) (K : Nat) : Nat → Int32
  | 0 => 0
  | n + 1 => if z_bit set (nI n) && z_mw (kinds n) (set &&& (((1 : Int32) <<< (nI n &&& 31)) ^^^ (-1))) (z_hf kinds set K) then z_wm kinds set K n ||| ((1 : Int32) <<< (nI n &&& 31)) else z_wm kinds set K n
theorem z_or0 (x : Int32) : x ||| 0 = x := by
  apply Int32.toBitVec_inj.mp
  simp
theorem z_add0 (x : Int32) : x + 0 = x := by
  apply Int32.toBitVec_inj.mp
  simp
theorem s_wellOf (d : Nat) (σ : zS) (set : Int32) {K : Nat} (hK : σ.1 43 7 = nI K) (hK4 : K ≤ 4) : z_Fn mX6_wellOf (d + 1) [.ref 43, .int set] σ (.int (z_wm (σ.1 50) set K K)) σ := by
  refine x_enter (by decide) (Nat.le_of_ble_eq_true rfl) ?_
  show z_At _ _ _ [.ref 43, .int set, .null, .null] _ _ _
  refine x_iconst (v := 0) (pc2 := 1) dX6_wellOf_0 rfl (by decide) ?_
  refine x_istore2 (pc2 := 2) dX6_wellOf_1 rfl rfl ?_
  refine x_iconst (v := 0) (pc2 := 3) dX6_wellOf_2 rfl (by decide) ?_
  refine x_istore3 (pc2 := 4) dX6_wellOf_3 rfl rfl ?_
  suffices h : ∀ n t, t + n = K → z_At mX6_wellOf (d + 1) 4 [.ref 43, .int set, .int (z_wm (σ.1 50) set K t), .int (nI t)] [] σ (fun rv σ' => rv = some (.int (z_wm (σ.1 50) set K K)) ∧ σ' = σ) from h K 0 (by omega)
  intro n
  induction n with
  | zero =>
    intro t ht
    obtain rfl : t = K := by omega
    refine x_iload3 (pc2 := 5) dX6_wellOf_4 rfl ?_
    refine x_aload0 (pc2 := 6) dX6_wellOf_5 rfl ?_
    refine x_getI (pc2 := 9) fX6_87 sh_43 rfl dX6_wellOf_6 rfl ?_
    refine x_icmp_ge (pc2 := 12) (pc3 := 46) dX6_wellOf_9 rfl rfl (fun h9 => ?_) (fun h9 => ?_)
    · skip
      refine x_iload2 (pc2 := 47) dX6_wellOf_46 rfl ?_
      refine x_iret dX6_wellOf_47 rfl ?_
      exact ⟨rfl, rfl⟩
    · exact absurd (by rw [hK]; exact Int32.le_refl _) h9
  | succ n ih =>
    intro t ht
    refine x_iload3 (pc2 := 5) dX6_wellOf_4 rfl ?_
    refine x_aload0 (pc2 := 6) dX6_wellOf_5 rfl ?_
    refine x_getI (pc2 := 9) fX6_87 sh_43 rfl dX6_wellOf_6 rfl ?_
    refine x_icmp_ge (pc2 := 12) (pc3 := 46) dX6_wellOf_9 rfl rfl (fun h9 => ?_) (fun h9 => ?_)
    · rw [hK] at h9
      exact absurd h9 (nI_ge (by omega) (by omega))
    · skip
      refine x_iload2 (pc2 := 13) dX6_wellOf_12 rfl ?_
      refine x_iload1 (pc2 := 14) dX6_wellOf_13 rfl ?_
      refine x_iload3 (pc2 := 15) dX6_wellOf_14 rfl ?_
      refine x_ishr (pc2 := 16) dX6_wellOf_15 rfl ?_
      refine x_iconst (v := 1) (pc2 := 17) dX6_wellOf_16 rfl (by decide) ?_
      refine x_iand (pc2 := 18) dX6_wellOf_17 rfl ?_
      refine x_iconst (v := 1) (pc2 := 19) dX6_wellOf_18 rfl (by decide) ?_
      refine x_icmp_ne (pc2 := 22) (pc3 := 37) dX6_wellOf_19 rfl rfl (fun h19 => ?_) (fun h19 => ?_)
      · skip
        refine x_iconst (v := 0) (pc2 := 38) dX6_wellOf_37 rfl (by decide) ?_
        refine x_ior (pc2 := 39) dX6_wellOf_38 rfl ?_
        refine x_istore2 (pc2 := 40) dX6_wellOf_39 rfl rfl ?_
        refine x_iinc3 (pc2 := 43) dX6_wellOf_40 rfl (z_inc1 _) rfl ?_
        refine x_goto (pc2 := 4) dX6_wellOf_43 rfl ?_
        rw [← nI_succ, z_or0]
        have := ih (t + 1) (by omega)
        rw [z_wm, show z_bit set (nI t) = false from decide_eq_false h19, Bool.false_and, if_neg (by decide)] at this
        exact this
      · have hb : z_bit set (nI t) = true := decide_eq_true h19
        refine x_aload0 (pc2 := 23) dX6_wellOf_22 rfl ?_
        refine x_iload3 (pc2 := 24) dX6_wellOf_23 rfl ?_
        refine x_iload1 (pc2 := 25) dX6_wellOf_24 rfl ?_
        refine x_fV2 (pc2 := 28) eX6_isWell kX6_146 sh_43 rfl (Nat.le_of_ble_eq_true rfl) dX6_wellOf_25 rfl (s_isWellM _ _ _ hK hK4 (by omega)) ?_
        refine x_if_eq (pc2 := 31) (pc3 := 37) dX6_wellOf_28 rfl rfl (fun h28 => ?_) (fun h28 => ?_)
        · rw [z_b0] at h28
          refine x_iconst (v := 0) (pc2 := 38) dX6_wellOf_37 rfl (by decide) ?_
          refine x_ior (pc2 := 39) dX6_wellOf_38 rfl ?_
          refine x_istore2 (pc2 := 40) dX6_wellOf_39 rfl rfl ?_
          refine x_iinc3 (pc2 := 43) dX6_wellOf_40 rfl (z_inc1 _) rfl ?_
          refine x_goto (pc2 := 4) dX6_wellOf_43 rfl ?_
          rw [← nI_succ, z_or0]
          have := ih (t + 1) (by omega)
          rw [z_wm, h28, Bool.and_false, if_neg (by decide)] at this
          exact this
        · rw [z_bn0] at h28
          refine x_iconst (v := 1) (pc2 := 32) dX6_wellOf_31 rfl (by decide) ?_
          refine x_iload3 (pc2 := 33) dX6_wellOf_32 rfl ?_
          refine x_ishl (pc2 := 34) dX6_wellOf_33 rfl ?_
          refine x_goto (pc2 := 38) dX6_wellOf_34 rfl ?_
          refine x_ior (pc2 := 39) dX6_wellOf_38 rfl ?_
          refine x_istore2 (pc2 := 40) dX6_wellOf_39 rfl rfl ?_
          refine x_iinc3 (pc2 := 43) dX6_wellOf_40 rfl (z_inc1 _) rfl ?_
          refine x_goto (pc2 := 4) dX6_wellOf_43 rfl ?_
          rw [← nI_succ]
          have := ih (t + 1) (by omega)
          rw [z_wm, h28, hb, Bool.and_self, if_pos rfl] at this
          exact this
theorem s_poundsOf (d : Nat) (σ : zS) (set : Int32) {K : Nat} (hK : σ.1 43 7 = nI K) (hK4 : K ≤ 4) : z_Fn mX6_poundsOf d [.ref 43, .int set] σ (.int (z_ld (σ.1 51) set K)) σ := by
  refine x_enter (by decide) (Nat.le_of_ble_eq_true rfl) ?_
  show z_At _ _ _ [.ref 43, .int set, .null, .null] _ _ _
  refine x_iconst (v := 0) (pc2 := 1) dX6_poundsOf_0 rfl (by decide) ?_
  refine x_istore2 (pc2 := 2) dX6_poundsOf_1 rfl rfl ?_
  refine x_iconst (v := 0) (pc2 := 3) dX6_poundsOf_2 rfl (by decide) ?_
  refine x_istore3 (pc2 := 4) dX6_poundsOf_3 rfl rfl ?_
  suffices h : ∀ n t, t + n = K → z_At mX6_poundsOf d 4 [.ref 43, .int set, .int (z_ld (σ.1 51) set t), .int (nI t)] [] σ (fun rv σ' => rv = some (.int (z_ld (σ.1 51) set K)) ∧ σ' = σ) from h K 0 (by omega)
  intro n
  induction n with
  | zero =>
    intro t ht
    obtain rfl : t = K := by omega
    refine x_iload3 (pc2 := 5) dX6_poundsOf_4 rfl ?_
    refine x_aload0 (pc2 := 6) dX6_poundsOf_5 rfl ?_
    refine x_getI (pc2 := 9) fX6_87 sh_43 rfl dX6_poundsOf_6 rfl ?_
    refine x_icmp_ge (pc2 := 12) (pc3 := 40) dX6_poundsOf_9 rfl rfl (fun h9 => ?_) (fun h9 => ?_)
    · skip
      refine x_iload2 (pc2 := 41) dX6_poundsOf_40 rfl ?_
      refine x_iret dX6_poundsOf_41 rfl ?_
      exact ⟨rfl, rfl⟩
    · exact absurd (by rw [hK]; exact Int32.le_refl _) h9
  | succ n ih =>
    intro t ht
    refine x_iload3 (pc2 := 5) dX6_poundsOf_4 rfl ?_
    refine x_aload0 (pc2 := 6) dX6_poundsOf_5 rfl ?_
    refine x_getI (pc2 := 9) fX6_87 sh_43 rfl dX6_poundsOf_6 rfl ?_
    refine x_icmp_ge (pc2 := 12) (pc3 := 40) dX6_poundsOf_9 rfl rfl (fun h9 => ?_) (fun h9 => ?_)
    · rw [hK] at h9
      exact absurd h9 (nI_ge (by omega) (by omega))
    · skip
      refine x_iload2 (pc2 := 13) dX6_poundsOf_12 rfl ?_
      refine x_iload1 (pc2 := 14) dX6_poundsOf_13 rfl ?_
      refine x_iload3 (pc2 := 15) dX6_poundsOf_14 rfl ?_
      refine x_ishr (pc2 := 16) dX6_poundsOf_15 rfl ?_
      refine x_iconst (v := 1) (pc2 := 17) dX6_poundsOf_16 rfl (by decide) ?_
      refine x_iand (pc2 := 18) dX6_poundsOf_17 rfl ?_
      refine x_iconst (v := 1) (pc2 := 19) dX6_poundsOf_18 rfl (by decide) ?_
      refine x_icmp_ne (pc2 := 22) (pc3 := 31) dX6_poundsOf_19 rfl rfl (fun h19 => ?_) (fun h19 => ?_)
      · skip
        refine x_iconst (v := 0) (pc2 := 32) dX6_poundsOf_31 rfl (by decide) ?_
        refine x_iadd (pc2 := 33) dX6_poundsOf_32 rfl ?_
        refine x_istore2 (pc2 := 34) dX6_poundsOf_33 rfl rfl ?_
        refine x_iinc3 (pc2 := 37) dX6_poundsOf_34 rfl (z_inc1 _) rfl ?_
        refine x_goto (pc2 := 4) dX6_poundsOf_37 rfl ?_
        rw [← nI_succ, z_add0]
        have := ih (t + 1) (by omega)
        rw [z_ld, show z_bit set (nI t) = false from decide_eq_false h19, if_neg (by decide)] at this
        exact this
      · skip
        refine x_aload0 (pc2 := 23) dX6_poundsOf_22 rfl ?_
        refine x_getR (pc2 := 26) fX6_36 sh_43 rfl dX6_poundsOf_23 rfl ?_
        refine x_iload3 (pc2 := 27) dX6_poundsOf_26 rfl ?_
        refine x_iald (pc2 := 28) sh_51 (by exact z_in (by omega)) dX6_poundsOf_27 rfl ?_
        refine x_goto (pc2 := 32) dX6_poundsOf_28 rfl ?_
        refine x_iadd (pc2 := 33) dX6_poundsOf_32 rfl ?_
        refine x_istore2 (pc2 := 34) dX6_poundsOf_33 rfl rfl ?_
        refine x_iinc3 (pc2 := 37) dX6_poundsOf_34 rfl (z_inc1 _) rfl ?_
        refine x_goto (pc2 := 4) dX6_poundsOf_37 rfl ?_
        rw [← nI_succ, nI_clamp (by omega)]
        have := ih (t + 1) (by omega)
        rw [z_ld, show z_bit set (nI t) = true from decide_eq_true h19, if_pos rfl] at this
        exact this
def z_ta (all spot miss : Int32) : Nat → Int32
  | 0 => 0
  | n + 1 => if nI n = miss ∨ ¬ (all >>> (2 * nI n + 2 &&& 31)) &&& 3 = spot then z_ta all spot miss n else z_ta all spot miss n ||| ((1 : Int32) <<< (nI n &&& 31))
theorem s_thingsAt (d : Nat) (σ : zS) (all spot : Int32) {K : Nat} (hK : σ.1 43 7 = nI K) (hK4 : K ≤ 4) : z_Fn mX6_thingsAt d [.ref 43, .int all, .int spot] σ (.int (z_ta all spot (σ.1 43 14) K)) σ := by
  refine x_enter (by decide) (Nat.le_of_ble_eq_true rfl) ?_
  show z_At _ _ _ [.ref 43, .int all, .int spot, .null, .null] _ _ _
  refine x_iconst (v := 0) (pc2 := 1) dX6_thingsAt_0 rfl (by decide) ?_
  refine x_istore3 (pc2 := 2) dX6_thingsAt_1 rfl rfl ?_
  refine x_iconst (v := 0) (pc2 := 3) dX6_thingsAt_2 rfl (by decide) ?_
  refine x_istore4 (pc2 := 5) dX6_thingsAt_3 rfl rfl ?_
  suffices h : ∀ n t, t + n = K → z_At mX6_thingsAt d 5 [.ref 43, .int all, .int spot, .int (z_ta all spot (σ.1 43 14) t), .int (nI t)] [] σ (fun rv σ' => rv = some (.int (z_ta all spot (σ.1 43 14) K)) ∧ σ' = σ) from h K 0 (by omega)
  intro n
  induction n with
  | zero =>
    intro t ht
    obtain rfl : t = K := by omega
    refine x_iload4 (pc2 := 7) dX6_thingsAt_5 rfl ?_
    refine x_aload0 (pc2 := 8) dX6_thingsAt_7 rfl ?_
    refine x_getI (pc2 := 11) fX6_87 sh_43 rfl dX6_thingsAt_8 rfl ?_
    refine x_icmp_ge (pc2 := 14) (pc3 := 54) dX6_thingsAt_11 rfl rfl (fun h11 => ?_) (fun h11 => ?_)
    · skip
      refine x_iload3 (pc2 := 55) dX6_thingsAt_54 rfl ?_
      refine x_iret dX6_thingsAt_55 rfl ?_
      exact ⟨rfl, rfl⟩
    · exact absurd (by rw [hK]; exact Int32.le_refl _) h11
  | succ n ih =>
    intro t ht
    refine x_iload4 (pc2 := 7) dX6_thingsAt_5 rfl ?_
    refine x_aload0 (pc2 := 8) dX6_thingsAt_7 rfl ?_
    refine x_getI (pc2 := 11) fX6_87 sh_43 rfl dX6_thingsAt_8 rfl ?_
    refine x_icmp_ge (pc2 := 14) (pc3 := 54) dX6_thingsAt_11 rfl rfl (fun h11 => ?_) (fun h11 => ?_)
    · rw [hK] at h11
      exact absurd h11 (nI_ge (by omega) (by omega))
    · skip
      refine x_iload3 (pc2 := 15) dX6_thingsAt_14 rfl ?_
      refine x_iload4 (pc2 := 17) dX6_thingsAt_15 rfl ?_
      refine x_aload0 (pc2 := 18) dX6_thingsAt_17 rfl ?_
      refine x_getI (pc2 := 21) fX6_39 sh_43 rfl dX6_thingsAt_18 rfl ?_
      refine x_icmp_eq (pc2 := 24) (pc3 := 45) dX6_thingsAt_21 rfl rfl (fun h21 => ?_) (fun h21 => ?_)
      · skip
        refine x_iconst (v := 0) (pc2 := 46) dX6_thingsAt_45 rfl (by decide) ?_
        refine x_ior (pc2 := 47) dX6_thingsAt_46 rfl ?_
        refine x_istore3 (pc2 := 48) dX6_thingsAt_47 rfl rfl ?_
        refine x_iinc4 (pc2 := 51) dX6_thingsAt_48 rfl (z_inc1 _) rfl ?_
        refine x_goto (pc2 := 5) dX6_thingsAt_51 rfl ?_
        rw [← nI_succ, z_or0]
        have := ih (t + 1) (by omega)
        rw [z_ta, if_pos (Or.inl h21)] at this
        exact this
      · skip
        refine x_iload1 (pc2 := 25) dX6_thingsAt_24 rfl ?_
        refine x_iconst (v := 2) (pc2 := 26) dX6_thingsAt_25 rfl (by decide) ?_
        refine x_iload4 (pc2 := 28) dX6_thingsAt_26 rfl ?_
        refine x_imul (pc2 := 29) dX6_thingsAt_28 rfl ?_
        refine x_iconst (v := 2) (pc2 := 30) dX6_thingsAt_29 rfl (by decide) ?_
        refine x_iadd (pc2 := 31) dX6_thingsAt_30 rfl ?_
        refine x_ishr (pc2 := 32) dX6_thingsAt_31 rfl ?_
        refine x_iconst (v := 3) (pc2 := 33) dX6_thingsAt_32 rfl (by decide) ?_
        refine x_iand (pc2 := 34) dX6_thingsAt_33 rfl ?_
        refine x_iload2 (pc2 := 35) dX6_thingsAt_34 rfl ?_
        refine x_icmp_ne (pc2 := 38) (pc3 := 45) dX6_thingsAt_35 rfl rfl (fun h35 => ?_) (fun h35 => ?_)
        · skip
          refine x_iconst (v := 0) (pc2 := 46) dX6_thingsAt_45 rfl (by decide) ?_
          refine x_ior (pc2 := 47) dX6_thingsAt_46 rfl ?_
          refine x_istore3 (pc2 := 48) dX6_thingsAt_47 rfl rfl ?_
          refine x_iinc4 (pc2 := 51) dX6_thingsAt_48 rfl (z_inc1 _) rfl ?_
          refine x_goto (pc2 := 5) dX6_thingsAt_51 rfl ?_
          rw [← nI_succ, z_or0]
          have := ih (t + 1) (by omega)
          rw [z_ta, if_pos (Or.inr h35)] at this
          exact this
        · skip
          refine x_iconst (v := 1) (pc2 := 39) dX6_thingsAt_38 rfl (by decide) ?_
          refine x_iload4 (pc2 := 41) dX6_thingsAt_39 rfl ?_
          refine x_ishl (pc2 := 42) dX6_thingsAt_41 rfl ?_
          refine x_goto (pc2 := 46) dX6_thingsAt_42 rfl ?_
          refine x_ior (pc2 := 47) dX6_thingsAt_46 rfl ?_
          refine x_istore3 (pc2 := 48) dX6_thingsAt_47 rfl rfl ?_
          refine x_iinc4 (pc2 := 51) dX6_thingsAt_48 rfl (z_inc1 _) rfl ?_
          refine x_goto (pc2 := 5) dX6_thingsAt_51 rfl ?_
          rw [← nI_succ]
          have := ih (t + 1) (by omega)
          rw [z_ta, if_neg (fun q => q.elim h21 (fun q => q h35))] at this
          exact this
def z_gn (all to set : Int32) : Nat → Int32
  | 0 => (all &&& -4) ||| to
  | n + 1 => if z_bit set (nI n) then (z_gn all to set n &&& (((3 : Int32) <<< (2 * nI n + 2 &&& 31)) ^^^ (-1))) ||| (to <<< (2 * nI n + 2 &&& 31)) else z_gn all to set n
theorem s_gone (d : Nat) (σ : zS) (all to set : Int32) : z_Fn mX6_gone d [.int all, .int to, .int set] σ (.int (z_gn all to set 4)) σ := by
  refine x_enter (by decide) (Nat.le_of_ble_eq_true rfl) ?_
  show z_At _ _ _ [.int all, .int to, .int set, .null, .null] _ _ _
  refine x_iload0 (pc2 := 1) dX6_gone_0 rfl ?_
  refine x_bipush (v := -4) (pc2 := 3) dX6_gone_1 rfl (by decide) ?_
  refine x_iand (pc2 := 4) dX6_gone_3 rfl ?_
  refine x_iload1 (pc2 := 5) dX6_gone_4 rfl ?_
  refine x_ior (pc2 := 6) dX6_gone_5 rfl ?_
  refine x_istore3 (pc2 := 7) dX6_gone_6 rfl rfl ?_
  refine x_iconst (v := 0) (pc2 := 8) dX6_gone_7 rfl (by decide) ?_
  refine x_istore4 (pc2 := 10) dX6_gone_8 rfl rfl ?_
  suffices h : ∀ n t, t + n = 4 → z_At mX6_gone d 10 [.int all, .int to, .int set, .int (z_gn all to set t), .int (nI t)] [] σ (fun rv σ' => rv = some (.int (z_gn all to set 4)) ∧ σ' = σ) from h 4 0 (by omega)
  intro n
  induction n with
  | zero =>
    intro t ht
    obtain rfl : t = 4 := by omega
    refine x_iload4 (pc2 := 12) dX6_gone_10 rfl ?_
    refine x_iconst (v := 4) (pc2 := 13) dX6_gone_12 rfl (by decide) ?_
    refine x_icmp_ge (pc2 := 16) (pc3 := 54) dX6_gone_13 rfl rfl (fun h13 => ?_) (fun h13 => ?_)
    · skip
      refine x_iload3 (pc2 := 55) dX6_gone_54 rfl ?_
      refine x_iret dX6_gone_55 rfl ?_
      exact ⟨rfl, rfl⟩
    · exact absurd (by decide) h13
  | succ n ih =>
    intro t ht
    refine x_iload4 (pc2 := 12) dX6_gone_10 rfl ?_
    refine x_iconst (v := 4) (pc2 := 13) dX6_gone_12 rfl (by decide) ?_
    refine x_icmp_ge (pc2 := 16) (pc3 := 54) dX6_gone_13 rfl rfl (fun h13 => ?_) (fun h13 => ?_)
    · exact absurd h13 (nI_ge (a := t) (b := 4) (by omega) (by omega))
    · skip
      refine x_iload2 (pc2 := 17) dX6_gone_16 rfl ?_
      refine x_iload4 (pc2 := 19) dX6_gone_17 rfl ?_
      refine x_ishr (pc2 := 20) dX6_gone_19 rfl ?_
      refine x_iconst (v := 1) (pc2 := 21) dX6_gone_20 rfl (by decide) ?_
      refine x_iand (pc2 := 22) dX6_gone_21 rfl ?_
      refine x_iconst (v := 1) (pc2 := 23) dX6_gone_22 rfl (by decide) ?_
      refine x_icmp_ne (pc2 := 26) (pc3 := 48) dX6_gone_23 rfl rfl (fun h23 => ?_) (fun h23 => ?_)
      · skip
        refine x_iinc4 (pc2 := 51) dX6_gone_48 rfl (z_inc1 _) rfl ?_
        refine x_goto (pc2 := 10) dX6_gone_51 rfl ?_
        rw [← nI_succ]
        have := ih (t + 1) (by omega)
        rw [z_gn, show z_bit set (nI t) = false from decide_eq_false h23, if_neg (by decide)] at this
        exact this
      · skip
        refine x_iload3 (pc2 := 27) dX6_gone_26 rfl ?_
        refine x_iconst (v := 3) (pc2 := 28) dX6_gone_27 rfl (by decide) ?_
        refine x_iconst (v := 2) (pc2 := 29) dX6_gone_28 rfl (by decide) ?_
        refine x_iload4 (pc2 := 31) dX6_gone_29 rfl ?_
        refine x_imul (pc2 := 32) dX6_gone_31 rfl ?_
        refine x_iconst (v := 2) (pc2 := 33) dX6_gone_32 rfl (by decide) ?_
        refine x_iadd (pc2 := 34) dX6_gone_33 rfl ?_
        refine x_ishl (pc2 := 35) dX6_gone_34 rfl ?_
        refine x_iconst (v := -1) (pc2 := 36) dX6_gone_35 rfl (by decide) ?_
        refine x_ixor (pc2 := 37) dX6_gone_36 rfl ?_
        refine x_iand (pc2 := 38) dX6_gone_37 rfl ?_
        refine x_iload1 (pc2 := 39) dX6_gone_38 rfl ?_
        refine x_iconst (v := 2) (pc2 := 40) dX6_gone_39 rfl (by decide) ?_
        refine x_iload4 (pc2 := 42) dX6_gone_40 rfl ?_
        refine x_imul (pc2 := 43) dX6_gone_42 rfl ?_
        refine x_iconst (v := 2) (pc2 := 44) dX6_gone_43 rfl (by decide) ?_
        refine x_iadd (pc2 := 45) dX6_gone_44 rfl ?_
        refine x_ishl (pc2 := 46) dX6_gone_45 rfl ?_
        refine x_ior (pc2 := 47) dX6_gone_46 rfl ?_
        refine x_istore3 (pc2 := 48) dX6_gone_47 rfl rfl ?_
        refine x_iinc4 (pc2 := 51) dX6_gone_48 rfl (z_inc1 _) rfl ?_
        refine x_goto (pc2 := 10) dX6_gone_51 rfl ?_
        rw [← nI_succ]
        have := ih (t + 1) (by omega)
        rw [z_gn, show z_bit set (nI t) = true from decide_eq_true h23, if_pos rfl] at this
        exact this
def z_en (N miss : Int32) : Nat → Int32
  | 0 => N
  | n + 1 => if nI n = miss then z_en N miss n else z_en N miss n ||| (N <<< (2 * nI n + 2 &&& 31))
theorem s_end (d : Nat) (σ : zS) {K : Nat} (hK : σ.1 43 7 = nI K) (hK4 : K ≤ 4) : z_Fn mX6_end d [.ref 43] σ (.int (z_en (σ.1 43 6) (σ.1 43 14) K)) σ := by
  refine x_enter (by decide) (Nat.le_of_ble_eq_true rfl) ?_
  show z_At _ _ _ [.ref 43, .null, .null] _ _ _
  refine x_aload0 (pc2 := 1) dX6_end_0 rfl ?_
  refine x_getI (pc2 := 4) fX6_84 sh_43 rfl dX6_end_1 rfl ?_
  refine x_istore1 (pc2 := 5) dX6_end_4 rfl rfl ?_
  refine x_iconst (v := 0) (pc2 := 6) dX6_end_5 rfl (by decide) ?_
  refine x_istore2 (pc2 := 7) dX6_end_6 rfl rfl ?_
  suffices h : ∀ n t, t + n = K → z_At mX6_end d 7 [.ref 43, .int (z_en (σ.1 43 6) (σ.1 43 14) t), .int (nI t)] [] σ (fun rv σ' => rv = some (.int (z_en (σ.1 43 6) (σ.1 43 14) K)) ∧ σ' = σ) from h K 0 (by omega)
  intro n
  induction n with
  | zero =>
    intro t ht
    obtain rfl : t = K := by omega
    refine x_iload2 (pc2 := 8) dX6_end_7 rfl ?_
    refine x_aload0 (pc2 := 9) dX6_end_8 rfl ?_
    refine x_getI (pc2 := 12) fX6_87 sh_43 rfl dX6_end_9 rfl ?_
    refine x_icmp_ge (pc2 := 15) (pc3 := 46) dX6_end_12 rfl rfl (fun h12 => ?_) (fun h12 => ?_)
    · skip
      refine x_iload1 (pc2 := 47) dX6_end_46 rfl ?_
      refine x_iret dX6_end_47 rfl ?_
      exact ⟨rfl, rfl⟩
    · exact absurd (by rw [hK]; exact Int32.le_refl _) h12
  | succ n ih =>
    intro t ht
    refine x_iload2 (pc2 := 8) dX6_end_7 rfl ?_
    refine x_aload0 (pc2 := 9) dX6_end_8 rfl ?_
    refine x_getI (pc2 := 12) fX6_87 sh_43 rfl dX6_end_9 rfl ?_
    refine x_icmp_ge (pc2 := 15) (pc3 := 46) dX6_end_12 rfl rfl (fun h12 => ?_) (fun h12 => ?_)
    · rw [hK] at h12
      exact absurd h12 (nI_ge (by omega) (by omega))
    · skip
      refine x_iload1 (pc2 := 16) dX6_end_15 rfl ?_
      refine x_iload2 (pc2 := 17) dX6_end_16 rfl ?_
      refine x_aload0 (pc2 := 18) dX6_end_17 rfl ?_
      refine x_getI (pc2 := 21) fX6_39 sh_43 rfl dX6_end_18 rfl ?_
      refine x_icmp_ne (pc2 := 24) (pc3 := 28) dX6_end_21 rfl rfl (fun h21 => ?_) (fun h21 => ?_)
      · skip
        refine x_aload0 (pc2 := 29) dX6_end_28 rfl ?_
        refine x_getI (pc2 := 32) fX6_84 sh_43 rfl dX6_end_29 rfl ?_
        refine x_iconst (v := 2) (pc2 := 33) dX6_end_32 rfl (by decide) ?_
        refine x_iload2 (pc2 := 34) dX6_end_33 rfl ?_
        refine x_imul (pc2 := 35) dX6_end_34 rfl ?_
        refine x_iconst (v := 2) (pc2 := 36) dX6_end_35 rfl (by decide) ?_
        refine x_iadd (pc2 := 37) dX6_end_36 rfl ?_
        refine x_ishl (pc2 := 38) dX6_end_37 rfl ?_
        refine x_ior (pc2 := 39) dX6_end_38 rfl ?_
        refine x_istore1 (pc2 := 40) dX6_end_39 rfl rfl ?_
        refine x_iinc2 (pc2 := 43) dX6_end_40 rfl (z_inc1 _) rfl ?_
        refine x_goto (pc2 := 7) dX6_end_43 rfl ?_
        rw [← nI_succ]
        have := ih (t + 1) (by omega)
        rw [z_en, if_neg h21] at this
        exact this
      · skip
        refine x_iconst (v := 0) (pc2 := 25) dX6_end_24 rfl (by decide) ?_
        refine x_goto (pc2 := 38) dX6_end_25 rfl ?_
        refine x_ior (pc2 := 39) dX6_end_38 rfl ?_
        refine x_istore1 (pc2 := 40) dX6_end_39 rfl rfl ?_
        refine x_iinc2 (pc2 := 43) dX6_end_40 rfl (z_inc1 _) rfl ?_
        refine x_goto (pc2 := 7) dX6_end_43 rfl ?_
        rw [← nI_succ, z_or0]
        have := ih (t + 1) (by omega)
        rw [z_en, if_pos h21] at this
        exact this
theorem s_takes (d : Nat) (σ : zS) (a b set m : Int32) {K : Nat} (hK : σ.1 43 7 = nI K) (hK4 : K ≤ 4) (hin : vp_in (if b ≤ a then b else a) 3) : z_Fn mX6_takes (d + 1) [.ref 43, .int a, .int b, .int set, .int m] σ (.int (if set = 0 then σ.1 47 (if b ≤ a then b else a).toNatClampNeg else σ.1 47 (if b ≤ a then b else a).toNatClampNeg + z_mud (σ.1 49 (if b ≤ a then b else a).toNatClampNeg) (σ.1 48 (if b ≤ a then b else a).toNatClampNeg) (z_b (z_rains (σ.1 43 8) m)) + z_ld (σ.1 51) set K / 3)) σ := by
  refine x_enter (by decide) (Nat.le_of_ble_eq_true rfl) ?_
  show z_At _ _ _ [.ref 43, .int a, .int b, .int set, .int m, .null] _ _ _
  generalize hst : (if b ≤ a then b else a) = stg at hin
  refine x_aload0 (pc2 := 1) dX6_takes_0 rfl ?_
  refine x_iload1 (pc2 := 2) dX6_takes_1 rfl ?_
  refine x_iload2 (pc2 := 3) dX6_takes_2 rfl ?_
  refine x_fV2 (pc2 := 6) eX6_stageOf kX6_166 sh_43 rfl (Nat.le_of_ble_eq_true rfl) dX6_takes_3 rfl (s_stageOf _ _ _ _) ?_
  refine x_istore5 (pc2 := 8) dX6_takes_6 rfl rfl ?_
  rw [hst]
  refine x_iload3 (pc2 := 9) dX6_takes_8 rfl ?_
  refine x_if_ne (pc2 := 12) (pc3 := 22) dX6_takes_9 rfl rfl (fun h9 => ?_) (fun h9 => ?_)
  · skip
    refine x_aload0 (pc2 := 23) dX6_takes_22 rfl ?_
    refine x_getR (pc2 := 26) fX6_23 sh_43 rfl dX6_takes_23 rfl ?_
    refine x_iload5 (pc2 := 28) dX6_takes_26 rfl ?_
    refine x_iald (pc2 := 29) sh_47 (by exact hin) dX6_takes_28 rfl ?_
    refine x_aload0 (pc2 := 30) dX6_takes_29 rfl ?_
    refine x_iload5 (pc2 := 32) dX6_takes_30 rfl ?_
    refine x_iload4 (pc2 := 34) dX6_takes_32 rfl ?_
    refine x_fV2 (pc2 := 37) eX6_mudOf kX6_169 sh_43 rfl (Nat.le_of_ble_eq_true rfl) dX6_takes_34 rfl (s_mudOf _ _ _ _ hin) ?_
    refine x_iadd (pc2 := 38) dX6_takes_37 rfl ?_
    refine x_aload0 (pc2 := 39) dX6_takes_38 rfl ?_
    refine x_iload3 (pc2 := 40) dX6_takes_39 rfl ?_
    refine x_fV1 (pc2 := 43) eX6_poundsOf kX6_163 sh_43 rfl (Nat.le_of_ble_eq_true rfl) dX6_takes_40 rfl (s_poundsOf _ _ _ hK hK4) ?_
    refine x_iconst (v := 3) (pc2 := 44) dX6_takes_43 rfl (by decide) ?_
    refine x_idiv (pc2 := 45) dX6_takes_44 rfl (by decide) ?_
    refine x_iadd (pc2 := 46) dX6_takes_45 rfl ?_
    refine x_iret dX6_takes_46 rfl ?_
    exact ⟨by first | rw [if_pos h9] | rw [if_neg h9], rfl⟩
  · skip
    refine x_aload0 (pc2 := 13) dX6_takes_12 rfl ?_
    refine x_getR (pc2 := 16) fX6_23 sh_43 rfl dX6_takes_13 rfl ?_
    refine x_iload5 (pc2 := 18) dX6_takes_16 rfl ?_
    refine x_iald (pc2 := 19) sh_47 (by exact hin) dX6_takes_18 rfl ?_
    refine x_goto (pc2 := 46) dX6_takes_19 rfl ?_
    refine x_iret dX6_takes_46 rfl ?_
    exact ⟨by first | rw [if_pos h9] | rw [if_neg h9], rfl⟩
