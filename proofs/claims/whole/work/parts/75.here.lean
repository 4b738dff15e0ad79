/-! the class's search: thingsHere, spotBehind -/
theorem s_spotBehind (d : Nat) (σ : zS) {s mv : Nat} (hs : s < 1024) (hm : mv < 32) : z_Fn mX2_spotBehind d [.int (nI s), .int (nI mv)] σ (.int (if mv < 16 then nI (s % 4) + -1 else nI (s % 4 + 1))) σ := by
  refine x_enter (by decide) (Nat.le_of_ble_eq_true rfl) ?_
  show z_At _ _ _ [.int (nI s), .int (nI mv)] _ _ _
  refine x_iload0 (pc2 := 1) dX2_spotBehind_0 rfl ?_
  refine x_iconst (v := 3) (pc2 := 2) dX2_spotBehind_1 rfl (by decide) ?_
  refine x_iand (pc2 := 3) dX2_spotBehind_2 rfl ?_
  rw [gb_spot s hs]
  refine x_iload1 (pc2 := 4) dX2_spotBehind_3 rfl ?_
  refine x_bipush (v := 16) (pc2 := 6) dX2_spotBehind_4 rfl (by decide) ?_
  refine x_icmp_ge (pc2 := 9) (pc3 := 13) dX2_spotBehind_6 rfl rfl (fun h6 => ?_) (fun h6 => ?_)
  · have h6 := (nI_le_iff (a := 16) (by omega) (by omega)).mp h6
    refine x_iconst (v := 1) (pc2 := 14) dX2_spotBehind_13 rfl (by decide) ?_
    refine x_iadd (pc2 := 15) dX2_spotBehind_14 rfl ?_
    rw [← nI_succ]
    refine x_iret dX2_spotBehind_15 rfl ?_
    rw [if_neg (by omega)]
    exact ⟨rfl, rfl⟩
  · have h6 : ¬ 16 ≤ mv := fun q => h6 ((nI_le_iff (a := 16) (by omega) (by omega)).mpr q)
    refine x_iconst (v := -1) (pc2 := 10) dX2_spotBehind_9 rfl (by decide) ?_
    refine x_goto (pc2 := 14) dX2_spotBehind_10 rfl ?_
    refine x_iadd (pc2 := 15) dX2_spotBehind_14 rfl ?_
    refine x_iret dX2_spotBehind_15 rfl ?_
    rw [if_pos (by omega)]
    exact ⟨rfl, rfl⟩
theorem s_thingsHere (d : Nat) (σ : zS) {s K : Nat} (hs : s < 1024) (hK : σ.1 31 0 = nI K) (hK4 : K ≤ 4) : z_Fn mX2_thingsHere d [.ref 31, .int (nI s)] σ (.int (nI (gH 9 s (s % 4) K))) σ := by
  refine x_enter (by decide) (Nat.le_of_ble_eq_true rfl) ?_
  show z_At _ _ _ [.ref 31, .int (nI s), .null, .null, .null] _ _ _
  refine x_iload1 (pc2 := 1) dX2_thingsHere_0 rfl ?_
  refine x_iconst (v := 3) (pc2 := 2) dX2_thingsHere_1 rfl (by decide) ?_
  refine x_iand (pc2 := 3) dX2_thingsHere_2 rfl ?_
  rw [gb_spot s hs]
  refine x_istore2 (pc2 := 4) dX2_thingsHere_3 rfl rfl ?_
  refine x_iconst (v := 0) (pc2 := 5) dX2_thingsHere_4 rfl (by decide) ?_
  refine x_istore3 (pc2 := 6) dX2_thingsHere_5 rfl rfl ?_
  refine x_iconst (v := 0) (pc2 := 7) dX2_thingsHere_6 rfl (by decide) ?_
  refine x_istore4 (pc2 := 9) dX2_thingsHere_7 rfl rfl ?_
  suffices h : ∀ m k, k + m = K → z_At mX2_thingsHere d 9 [.ref 31, .int (nI s), .int (nI (s % 4)), .int (nI (gH 9 s (s % 4) k)), .int (nI k)] [] σ (fun rv τ => rv = some (.int (nI (gH 9 s (s % 4) K))) ∧ τ = σ) from h K 0 (Nat.zero_add _)
  intro m
  induction m with
  | zero =>
    intro k hk
    have hk : k = K := by omega
    subst hk
    refine x_iload4 (pc2 := 11) dX2_thingsHere_9 rfl ?_
    refine x_aload0 (pc2 := 12) dX2_thingsHere_11 rfl ?_
    refine x_getI (pc2 := 15) fX2_68 sh_31 rfl dX2_thingsHere_12 rfl ?_
    rw [hK]
    refine x_icmp_ge (pc2 := 18) (pc3 := 45) dX2_thingsHere_15 rfl rfl (fun h15 => ?_) (fun h15 => ?_)
    rotate_left
    · exact absurd ((nI_le_iff (by omega) (by omega)).mpr (Nat.le_refl _)) h15
    refine x_iload3 (pc2 := 46) dX2_thingsHere_45 rfl ?_
    refine x_iret dX2_thingsHere_46 rfl ?_
    exact ⟨rfl, rfl⟩
  | succ m ih =>
    intro k hk
    refine x_iload4 (pc2 := 11) dX2_thingsHere_9 rfl ?_
    refine x_aload0 (pc2 := 12) dX2_thingsHere_11 rfl ?_
    refine x_getI (pc2 := 15) fX2_68 sh_31 rfl dX2_thingsHere_12 rfl ?_
    rw [hK]
    refine x_icmp_ge (pc2 := 18) (pc3 := 45) dX2_thingsHere_15 rfl rfl (fun h15 => ?_) (fun h15 => ?_)
    · exact absurd ((nI_le_iff (by omega) (by omega)).mp h15) (by omega)
    refine x_iload1 (pc2 := 19) dX2_thingsHere_18 rfl ?_
    refine x_iconst (v := 2) (pc2 := 20) dX2_thingsHere_19 rfl (by decide) ?_
    refine x_iload4 (pc2 := 22) dX2_thingsHere_20 rfl ?_
    refine x_imul (pc2 := 23) dX2_thingsHere_22 rfl ?_
    refine x_iconst (v := 2) (pc2 := 24) dX2_thingsHere_23 rfl (by decide) ?_
    refine x_iadd (pc2 := 25) dX2_thingsHere_24 rfl ?_
    refine x_ishr (pc2 := 26) dX2_thingsHere_25 rfl ?_
    refine x_iconst (v := 3) (pc2 := 27) dX2_thingsHere_26 rfl (by decide) ?_
    refine x_iand (pc2 := 28) dX2_thingsHere_27 rfl ?_
    rw [gb_dig s hs k (by omega)]
    have hgl := gH_lt 9 s (s % 4) k
    refine x_iload2 (pc2 := 29) dX2_thingsHere_28 rfl ?_
    refine x_icmp_ne (pc2 := 32) (pc3 := 39) dX2_thingsHere_29 rfl rfl (fun h29 => ?_) (fun h29 => ?_)
    · have h29 : gd s k ≠ s % 4 := fun q => h29 (by rw [q])
      refine x_iinc4 (pc2 := 42) dX2_thingsHere_39 rfl (z_inc1 _) rfl ?_
      refine x_goto (pc2 := 9) dX2_thingsHere_42 rfl ?_
      rw [← nI_succ]
      have := ih (k + 1) (by omega)
      rw [gH, if_pos (Or.inr h29)] at this
      exact this
    · have h29 : gd s k = s % 4 := nI_inj (by have : gd s k < 4 := Nat.mod_lt _ (by decide); omega) (by omega) h29
      refine x_iload3 (pc2 := 33) dX2_thingsHere_32 rfl ?_
      refine x_iconst (v := 1) (pc2 := 34) dX2_thingsHere_33 rfl (by decide) ?_
      refine x_iload4 (pc2 := 36) dX2_thingsHere_34 rfl ?_
      refine x_ishl (pc2 := 37) dX2_thingsHere_36 rfl ?_
      refine x_ior (pc2 := 38) dX2_thingsHere_37 rfl ?_
      rw [gb_or (by omega) hgl]
      refine x_istore3 (pc2 := 39) dX2_thingsHere_38 rfl rfl ?_
      refine x_iinc4 (pc2 := 42) dX2_thingsHere_39 rfl (z_inc1 _) rfl ?_
      refine x_goto (pc2 := 9) dX2_thingsHere_42 rfl ?_
      rw [← nI_succ]
      have := ih (k + 1) (by omega)
      rw [gH, if_neg (by omega)] at this
      exact this
