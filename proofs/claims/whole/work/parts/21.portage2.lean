/-! PortageTrips$Portage: loops that only read -/
theorem z_in {t n : Nat} (h : t < n) (hn : n < 2 ^ 31 := by decide) : vp_in (nI t) n := nI_in h hn
def z_ld (P : Nat → Int32) (set : Int32) : Nat → Int32
  | 0 => 0
  | n + 1 => if z_bit set (nI n) then z_ld P set n + P n else z_ld P set n
theorem s_load (d : Nat) (σ : zS) {r : Nat} (hr : z_isP r) (set : Int32) {K : Nat} (hK : σ.1 r 6 = nI K) (hK4 : K ≤ 4) : z_Fn mX0_load (d + 1) [.ref r, .int set] σ (.int (z_ld (σ.1 (r + 5)) set K)) σ := by
  refine x_enter (by decide) (Nat.le_of_ble_eq_true rfl) ?_
  show z_At _ _ _ [.ref r, .int set, .null, .null] _ _ _
  refine x_iconst (v := 0) (pc2 := 1) dX0_load_0 rfl (by decide) ?_
  refine x_istore2 (pc2 := 2) dX0_load_1 rfl rfl ?_
  refine x_iconst (v := 0) (pc2 := 3) dX0_load_2 rfl (by decide) ?_
  refine x_istore3 (pc2 := 4) dX0_load_3 rfl rfl ?_
  suffices h : ∀ n t, t + n = K → z_At mX0_load (d + 1) 4 [.ref r, .int set, .int (z_ld (σ.1 (r + 5)) set t), .int (nI t)] [] σ (fun rv σ' => rv = some (.int (z_ld (σ.1 (r + 5)) set K)) ∧ σ' = σ) from h K 0 (by omega)
  intro n
  induction n with
  | zero =>
    intro t ht
    refine x_iload3 (pc2 := 5) dX0_load_4 rfl ?_
    refine x_aload0 (pc2 := 6) dX0_load_5 rfl ?_
    refine x_getI (pc2 := 9) fX0_39 (sh_P hr) rfl dX0_load_6 rfl ?_
    refine x_icmp_ge (pc2 := 12) (pc3 := 35) dX0_load_9 rfl rfl (fun h9 => ?_) (fun h9 => ?_)
    · skip
      refine x_iload2 (pc2 := 36) dX0_load_35 rfl ?_
      refine x_iret dX0_load_36 rfl ?_
      obtain rfl : t = K := by omega
      exact ⟨rfl, rfl⟩
    · exact absurd (by rw [hK, show t = K by omega]; exact Int32.le_refl _) h9
  | succ n ih =>
    intro t ht
    refine x_iload3 (pc2 := 5) dX0_load_4 rfl ?_
    refine x_aload0 (pc2 := 6) dX0_load_5 rfl ?_
    refine x_getI (pc2 := 9) fX0_39 (sh_P hr) rfl dX0_load_6 rfl ?_
    refine x_icmp_ge (pc2 := 12) (pc3 := 35) dX0_load_9 rfl rfl (fun h9 => ?_) (fun h9 => ?_)
    · rw [hK] at h9
      exact absurd h9 (nI_ge (by omega) (by omega))
    · skip
      refine x_iload1 (pc2 := 13) dX0_load_12 rfl ?_
      refine x_iload3 (pc2 := 14) dX0_load_13 rfl ?_
      refine x_fS2 (pc2 := 17) eX0_isIn kX0_74 (Nat.le_of_ble_eq_true rfl) dX0_load_14 rfl (s_isIn _ _ _ _) ?_
      refine x_if_eq (pc2 := 20) (pc3 := 29) dX0_load_17 rfl rfl (fun h17 => ?_) (fun h17 => ?_)
      · rw [z_b0] at h17
        refine x_iinc3 (pc2 := 32) dX0_load_29 rfl (z_inc1 _) rfl ?_
        refine x_goto (pc2 := 4) dX0_load_32 rfl ?_
        rw [← nI_succ]
        have := ih (t + 1) (by omega)
        rw [z_ld, h17] at this
        exact this
      · rw [z_bn0] at h17
        refine x_iload2 (pc2 := 21) dX0_load_20 rfl ?_
        refine x_aload0 (pc2 := 22) dX0_load_21 rfl ?_
        refine x_getR (pc2 := 25) fX0_29 (sh_P hr) rfl dX0_load_22 rfl ?_
        refine x_iload3 (pc2 := 26) dX0_load_25 rfl ?_
        refine x_iald (pc2 := 27) (sh_P5 hr) (by exact z_in (by omega)) dX0_load_26 rfl ?_
        refine x_iadd (pc2 := 28) dX0_load_27 rfl ?_
        refine x_istore2 (pc2 := 29) dX0_load_28 rfl rfl ?_
        refine x_iinc3 (pc2 := 32) dX0_load_29 rfl (z_inc1 _) rfl ?_
        refine x_goto (pc2 := 4) dX0_load_32 rfl ?_
        rw [← nI_succ, nI_clamp (by omega)]
        have := ih (t + 1) (by omega)
        rw [z_ld, h17] at this
        exact this
def z_food (kinds : Nat → Int32) : Nat → Int32
  | 0 => 0
  | n + 1 => if kinds n = 1 then z_food kinds n ||| ((1 : Int32) <<< (nI n &&& 31)) else z_food kinds n
theorem s_foodOnes (d : Nat) (σ : zS) {r : Nat} (hr : z_isP r) {K : Nat} (hK : σ.1 r 6 = nI K) (hK4 : K ≤ 4) : z_Fn mX0_foodOnes d [.ref r] σ (.int (z_food (σ.1 (r + 4)) K)) σ := by
  refine x_enter (by decide) (Nat.le_of_ble_eq_true rfl) ?_
  show z_At _ _ _ [.ref r, .null, .null] _ _ _
  refine x_iconst (v := 0) (pc2 := 1) dX0_foodOnes_0 rfl (by decide) ?_
  refine x_istore1 (pc2 := 2) dX0_foodOnes_1 rfl rfl ?_
  refine x_iconst (v := 0) (pc2 := 3) dX0_foodOnes_2 rfl (by decide) ?_
  refine x_istore2 (pc2 := 4) dX0_foodOnes_3 rfl rfl ?_
  suffices h : ∀ n t, t + n = K → z_At mX0_foodOnes d 4 [.ref r, .int (z_food (σ.1 (r + 4)) t), .int (nI t)] [] σ (fun rv σ' => rv = some (.int (z_food (σ.1 (r + 4)) K)) ∧ σ' = σ) from h K 0 (by omega)
  intro n
  induction n with
  | zero =>
    intro t ht
    refine x_iload2 (pc2 := 5) dX0_foodOnes_4 rfl ?_
    refine x_aload0 (pc2 := 6) dX0_foodOnes_5 rfl ?_
    refine x_getI (pc2 := 9) fX0_39 (sh_P hr) rfl dX0_foodOnes_6 rfl ?_
    refine x_icmp_ge (pc2 := 12) (pc3 := 34) dX0_foodOnes_9 rfl rfl (fun h9 => ?_) (fun h9 => ?_)
    · skip
      refine x_iload1 (pc2 := 35) dX0_foodOnes_34 rfl ?_
      refine x_iret dX0_foodOnes_35 rfl ?_
      obtain rfl : t = K := by omega
      exact ⟨rfl, rfl⟩
    · exact absurd (by rw [hK, show t = K by omega]; exact Int32.le_refl _) h9
  | succ n ih =>
    intro t ht
    refine x_iload2 (pc2 := 5) dX0_foodOnes_4 rfl ?_
    refine x_aload0 (pc2 := 6) dX0_foodOnes_5 rfl ?_
    refine x_getI (pc2 := 9) fX0_39 (sh_P hr) rfl dX0_foodOnes_6 rfl ?_
    refine x_icmp_ge (pc2 := 12) (pc3 := 34) dX0_foodOnes_9 rfl rfl (fun h9 => ?_) (fun h9 => ?_)
    · rw [hK] at h9
      exact absurd h9 (nI_ge (by omega) (by omega))
    · skip
      refine x_aload0 (pc2 := 13) dX0_foodOnes_12 rfl ?_
      refine x_getR (pc2 := 16) fX0_26 (sh_P hr) rfl dX0_foodOnes_13 rfl ?_
      refine x_iload2 (pc2 := 17) dX0_foodOnes_16 rfl ?_
      refine x_iald (pc2 := 18) (sh_P4 hr) (by exact z_in (by omega)) dX0_foodOnes_17 rfl ?_
      refine x_iconst (v := 1) (pc2 := 19) dX0_foodOnes_18 rfl (by decide) ?_
      refine x_icmp_ne (pc2 := 22) (pc3 := 28) dX0_foodOnes_19 rfl rfl (fun h19 => ?_) (fun h19 => ?_)
      · rw [nI_clamp (by omega)] at h19
        refine x_iinc2 (pc2 := 31) dX0_foodOnes_28 rfl (z_inc1 _) rfl ?_
        refine x_goto (pc2 := 4) dX0_foodOnes_31 rfl ?_
        rw [← nI_succ]
        have := ih (t + 1) (by omega)
        rw [z_food, if_neg h19] at this
        exact this
      · rw [nI_clamp (by omega)] at h19
        refine x_iload1 (pc2 := 23) dX0_foodOnes_22 rfl ?_
        refine x_iconst (v := 1) (pc2 := 24) dX0_foodOnes_23 rfl (by decide) ?_
        refine x_iload2 (pc2 := 25) dX0_foodOnes_24 rfl ?_
        refine x_ishl (pc2 := 26) dX0_foodOnes_25 rfl ?_
        refine x_ior (pc2 := 27) dX0_foodOnes_26 rfl ?_
        refine x_istore1 (pc2 := 28) dX0_foodOnes_27 rfl rfl ?_
        refine x_iinc2 (pc2 := 31) dX0_foodOnes_28 rfl (z_inc1 _) rfl ?_
        refine x_goto (pc2 := 4) dX0_foodOnes_31 rfl ?_
        rw [← nI_succ]
        have := ih (t + 1) (by omega)
        rw [z_food, if_pos h19] at this
        exact this
/-- those of a set that are well without him: food, and one thing after the other -/
def z_wo (kinds : Nat → Int32) (set food : Int32) : Nat → Int32
  | 0 => 0
  | n + 1 => if z_bit set (nI n) && z_well (kinds n) (set &&& (((1 : Int32) <<< (nI n &&& 31)) ^^^ (-1))) food then z_wo kinds set food n ||| ((1 : Int32) <<< (nI n &&& 31)) else z_wo kinds set food n
theorem s_wellOnes (d : Nat) (σ : zS) {r : Nat} (hr : z_isP r) (set : Int32) {K : Nat} (hK : σ.1 r 6 = nI K) (hK4 : K ≤ 4) : z_Fn mX0_wellOnes (d + 1) [.ref r, .int set] σ (.int (z_wo (σ.1 (r + 4)) set (set &&& z_food (σ.1 (r + 4)) K) K)) σ := by
  refine x_enter (by decide) (Nat.le_of_ble_eq_true rfl) ?_
  show z_At _ _ _ [.ref r, .int set, .null, .null, .null, .null] _ _ _
  refine x_iload1 (pc2 := 1) dX0_wellOnes_0 rfl ?_
  refine x_aload0 (pc2 := 2) dX0_wellOnes_1 rfl ?_
  refine x_fV0 (pc2 := 5) eX0_foodOnes kX0_70 (sh_P hr) rfl (Nat.le_of_ble_eq_true rfl) dX0_wellOnes_2 rfl (s_foodOnes _ _ hr hK hK4) ?_
  refine x_iand (pc2 := 6) dX0_wellOnes_5 rfl ?_
  refine x_istore2 (pc2 := 7) dX0_wellOnes_6 rfl rfl ?_
  refine x_iconst (v := 0) (pc2 := 8) dX0_wellOnes_7 rfl (by decide) ?_
  refine x_istore3 (pc2 := 9) dX0_wellOnes_8 rfl rfl ?_
  refine x_iconst (v := 0) (pc2 := 10) dX0_wellOnes_9 rfl (by decide) ?_
  refine x_istore4 (pc2 := 12) dX0_wellOnes_10 rfl rfl ?_
  generalize hfd : set &&& z_food (σ.1 (r + 4)) K = food
  suffices h : ∀ n t, t + n = K → ∀ o : Value, z_At mX0_wellOnes (d + 1) 12 [.ref r, .int set, .int food, .int (z_wo (σ.1 (r + 4)) set food t), .int (nI t), o] [] σ (fun rv σ' => rv = some (.int (z_wo (σ.1 (r + 4)) set food K)) ∧ σ' = σ) from h K 0 (by omega) _
  intro n
  induction n with
  | zero =>
    intro t ht o
    refine x_iload4 (pc2 := 14) dX0_wellOnes_12 rfl ?_
    refine x_aload0 (pc2 := 15) dX0_wellOnes_14 rfl ?_
    refine x_getI (pc2 := 18) fX0_39 (sh_P hr) rfl dX0_wellOnes_15 rfl ?_
    refine x_icmp_ge (pc2 := 21) (pc3 := 69) dX0_wellOnes_18 rfl rfl (fun h18 => ?_) (fun h18 => ?_)
    · skip
      refine x_iload3 (pc2 := 70) dX0_wellOnes_69 rfl ?_
      refine x_iret dX0_wellOnes_70 rfl ?_
      obtain rfl : t = K := by omega
      exact ⟨rfl, rfl⟩
    · exact absurd (by rw [hK, show t = K by omega]; exact Int32.le_refl _) h18
  | succ n ih =>
    intro t ht o
    refine x_iload4 (pc2 := 14) dX0_wellOnes_12 rfl ?_
    refine x_aload0 (pc2 := 15) dX0_wellOnes_14 rfl ?_
    refine x_getI (pc2 := 18) fX0_39 (sh_P hr) rfl dX0_wellOnes_15 rfl ?_
    refine x_icmp_ge (pc2 := 21) (pc3 := 69) dX0_wellOnes_18 rfl rfl (fun h18 => ?_) (fun h18 => ?_)
    · rw [hK] at h18
      exact absurd h18 (nI_ge (by omega) (by omega))
    · skip
      refine x_iload1 (pc2 := 22) dX0_wellOnes_21 rfl ?_
      refine x_iconst (v := 1) (pc2 := 23) dX0_wellOnes_22 rfl (by decide) ?_
      refine x_iload4 (pc2 := 25) dX0_wellOnes_23 rfl ?_
      refine x_ishl (pc2 := 26) dX0_wellOnes_25 rfl ?_
      refine x_iconst (v := -1) (pc2 := 27) dX0_wellOnes_26 rfl (by decide) ?_
      refine x_ixor (pc2 := 28) dX0_wellOnes_27 rfl ?_
      refine x_iand (pc2 := 29) dX0_wellOnes_28 rfl ?_
      refine x_istore5 (pc2 := 31) dX0_wellOnes_29 rfl rfl ?_
      refine x_iload1 (pc2 := 32) dX0_wellOnes_31 rfl ?_
      refine x_iload4 (pc2 := 34) dX0_wellOnes_32 rfl ?_
      refine x_fS2 (pc2 := 37) eX0_isIn kX0_74 (Nat.le_of_ble_eq_true rfl) dX0_wellOnes_34 rfl (s_isIn _ _ _ _) ?_
      refine x_if_eq (pc2 := 40) (pc3 := 63) dX0_wellOnes_37 rfl rfl (fun h37 => ?_) (fun h37 => ?_)
      · rw [z_b0] at h37
        refine x_iinc4 (pc2 := 66) dX0_wellOnes_63 rfl (z_inc1 _) rfl ?_
        refine x_goto (pc2 := 12) dX0_wellOnes_66 rfl ?_
        rw [← nI_succ]
        have := ih (t + 1) (by omega)
        rw [z_wo, h37, Bool.false_and, if_neg (by decide)] at this
        exact this _
      · rw [z_bn0] at h37
        refine x_aload0 (pc2 := 41) dX0_wellOnes_40 rfl ?_
        refine x_getR (pc2 := 44) fX0_26 (sh_P hr) rfl dX0_wellOnes_41 rfl ?_
        refine x_iload4 (pc2 := 46) dX0_wellOnes_44 rfl ?_
        refine x_iald (pc2 := 47) (sh_P4 hr) (by exact z_in (by omega)) dX0_wellOnes_46 rfl ?_
        refine x_iload5 (pc2 := 49) dX0_wellOnes_47 rfl ?_
        refine x_iload2 (pc2 := 50) dX0_wellOnes_49 rfl ?_
        refine x_fS3 (pc2 := 53) eX0_isWell kX0_78 (Nat.le_of_ble_eq_true rfl) dX0_wellOnes_50 rfl (s_isWell _ _ _ _ _) ?_
        refine x_if_eq (pc2 := 56) (pc3 := 63) dX0_wellOnes_53 rfl rfl (fun h53 => ?_) (fun h53 => ?_)
        · rw [z_b0, nI_clamp (by omega)] at h53
          refine x_iinc4 (pc2 := 66) dX0_wellOnes_63 rfl (z_inc1 _) rfl ?_
          refine x_goto (pc2 := 12) dX0_wellOnes_66 rfl ?_
          rw [← nI_succ]
          have := ih (t + 1) (by omega)
          rw [z_wo, h53, Bool.and_false, if_neg (by decide)] at this
          exact this _
        · rw [z_bn0, nI_clamp (by omega)] at h53
          refine x_iload3 (pc2 := 57) dX0_wellOnes_56 rfl ?_
          refine x_iconst (v := 1) (pc2 := 58) dX0_wellOnes_57 rfl (by decide) ?_
          refine x_iload4 (pc2 := 60) dX0_wellOnes_58 rfl ?_
          refine x_ishl (pc2 := 61) dX0_wellOnes_60 rfl ?_
          refine x_ior (pc2 := 62) dX0_wellOnes_61 rfl ?_
          refine x_istore3 (pc2 := 63) dX0_wellOnes_62 rfl rfl ?_
          refine x_iinc4 (pc2 := 66) dX0_wellOnes_63 rfl (z_inc1 _) rfl ?_
          refine x_goto (pc2 := 12) dX0_wellOnes_66 rfl ?_
          rw [← nI_succ]
          have := ih (t + 1) (by omega)
          rw [z_wo, h53, h37, Bool.and_self, if_pos rfl] at this
          exact this _
