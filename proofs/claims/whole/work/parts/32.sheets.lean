/-! sheets: the public methods of both -/
theorem z_st_id {σ : zS} {r j : Nat} {v : Int32} (h : σ.1 r j = v) : z_st σ r j v = σ := by
  unfold z_st z_up upd
  refine Prod.ext ?_ rfl
  funext q
  by_cases hq : q = r
  · subst hq
    simp only [if_true]
    funext k
    by_cases hk : k = j
    · subst hk; simp [h]
    · simp [hk]
  · simp [hq]
theorem z_st_st (σ : zS) (r j : Nat) (v w : Int32) : z_st (z_st σ r j v) r j w = z_st σ r j w := by
  unfold z_st z_up upd
  refine Prod.ext ?_ rfl
  funext q
  by_cases hq : q = r
  · subst hq
    simp only [if_true]
    funext k
    by_cases hk : k = j
    · subst hk; simp
    · simp [hk]
  · simp [hq]
theorem z_st_at (σ : zS) (r j : Nat) (v : Int32) : (z_st σ r j v).1 r j = v := by simp [z_st, z_up, upd]
theorem z_st_row (σ : zS) {r q : Nat} (j : Nat) (v : Int32) (h : q ≠ r) : (z_st σ r j v).1 q = σ.1 q := by simp [z_st, z_up, h]
theorem z_st_fld (σ : zS) (r : Nat) {j k : Nat} (v : Int32) (h : k ≠ j) : (z_st σ r j v).1 r k = σ.1 r k := by simp [z_st, z_up, upd, h]
theorem z_in_sh {k : Int32} (h : ¬ z_b (z_wi k 0 3) = 0) : vp_in k 4 := by
  rw [z_wi_rng3] at h
  exact z_in_b h (by decide)
def z_f0 (σ : zS) : zS := z_st σ 0 13 0
def z_g0 (σ : zS) : zS := z_st σ 43 0 0
theorem s_sheetC (d : Nat) (σ σ0 : zS) (hσ : σ0 = z_f0 σ) (k l n : Int32) : z_Fn mX5_sheet (d + 2) [.ref 0, .int k, .int l, .int n] σ (.int (if z_wi k 0 3 = false then -1 else if z_wi l 0 2 = false ∨ ¬ n ≤ 60 then -2 else if ¬ 0 ≤ n then -10 - 4 else 1)) (if z_wi k 0 3 = false then σ0 else if z_wi l 0 2 = false ∨ ¬ n ≤ 60 then σ0 else if ¬ 0 ≤ n then z_st σ0 0 13 4 else z_fill (z_st (z_st σ0 (14 + k.toNatClampNeg) 0 l) (14 + k.toNatClampNeg) 1 n) (14 + k.toNatClampNeg + 4) 60 0) := by
  refine x_enter (by decide) (Nat.le_of_ble_eq_true rfl) ?_
  show z_At _ _ _ [.ref 0, .int k, .int l, .int n] _ _ _
  refine x_aload0 (pc2 := 1) dX5_sheet_0 rfl ?_
  refine x_iconst (v := 0) (pc2 := 2) dX5_sheet_1 rfl (by decide) ?_
  refine x_putI (pc2 := 5) pX5_53 sh_0 rfl dX5_sheet_2 rfl ?_
  rw [show z_st σ 0 13 0 = σ0 from hσ.symm]
  clear hσ
  refine x_iload1 (pc2 := 6) dX5_sheet_5 rfl ?_
  refine x_fS1 (pc2 := 9) eX5_isSheet kX5_57 (Nat.le_of_ble_eq_true rfl) dX5_sheet_6 rfl (s_isSheetC _ _ _) ?_
  refine x_if_ne (pc2 := 12) (pc3 := 14) dX5_sheet_9 rfl rfl (fun h9 => ?_) (fun h9 => ?_)
  · skip
    refine x_iload2 (pc2 := 15) dX5_sheet_14 rfl ?_
    refine x_fS1 (pc2 := 18) eX5_isLane kX5_61 (Nat.le_of_ble_eq_true rfl) dX5_sheet_15 rfl (s_isLane _ _ _) ?_
    refine x_if_eq (pc2 := 21) (pc3 := 27) dX5_sheet_18 rfl rfl (fun h18 => ?_) (fun h18 => ?_)
    · skip
      refine x_bipush (v := -2) (pc2 := 29) dX5_sheet_27 rfl (by decide) ?_
      refine x_iret dX5_sheet_29 rfl ?_
      exact ⟨by first | (simp_all [z_b]; done) | (simp only [z_b0, z_bn0] at *; simp [*]; done), by first | (simp_all [z_b]; done) | (simp only [z_b0, z_bn0] at *; simp [*]; done)⟩
    · skip
      refine x_iload3 (pc2 := 22) dX5_sheet_21 rfl ?_
      refine x_bipush (v := 60) (pc2 := 24) dX5_sheet_22 rfl (by decide) ?_
      refine x_icmp_le (pc2 := 27) (pc3 := 30) dX5_sheet_24 rfl rfl (fun h24 => ?_) (fun h24 => ?_)
      · skip
        refine x_iload3 (pc2 := 31) dX5_sheet_30 rfl ?_
        refine x_if_ge (pc2 := 34) (pc3 := 40) dX5_sheet_31 rfl rfl (fun h31 => ?_) (fun h31 => ?_)
        · skip
          refine x_aload0 (pc2 := 41) dX5_sheet_40 rfl ?_
          refine x_getR (pc2 := 44) fX5_23 sh_0 rfl dX5_sheet_41 rfl ?_
          refine x_iload1 (pc2 := 45) dX5_sheet_44 rfl ?_
          refine x_aald (pc2 := 46) sh_13 (by exact z_in_sh ‹¬ z_b (z_wi k 0 3) = 0›) dX5_sheet_45 rfl ?_
          refine x_iload2 (pc2 := 47) dX5_sheet_46 rfl ?_
          refine x_iload3 (pc2 := 48) dX5_sheet_47 rfl ?_
          refine x_pV2 (pc2 := 51) eX3_renew kX5_215 (sh_S (z_isS_of (z_in_sh ‹¬ z_b (z_wi k 0 3) = 0›))) rfl (Nat.le_of_ble_eq_true rfl) dX5_sheet_48 rfl (s_renew _ _ (z_isS_of (z_in_sh ‹¬ z_b (z_wi k 0 3) = 0›)) _ _) ?_
          refine x_iconst (v := 1) (pc2 := 52) dX5_sheet_51 rfl (by decide) ?_
          refine x_iret dX5_sheet_52 rfl ?_
          exact ⟨by first | (simp_all [z_b]; done) | (simp only [z_b0, z_bn0] at *; simp [*]; done), by first | (simp_all [z_b]; done) | (simp only [z_b0, z_bn0] at *; simp [*]; done)⟩
        · skip
          refine x_aload0 (pc2 := 35) dX5_sheet_34 rfl ?_
          refine x_iconst (v := 4) (pc2 := 36) dX5_sheet_35 rfl (by decide) ?_
          refine x_fV1 (pc2 := 39) eX5_faulted kX5_68 sh_0 rfl (Nat.le_of_ble_eq_true rfl) dX5_sheet_36 rfl (s_faulted _ _ _) ?_
          refine x_iret dX5_sheet_39 rfl ?_
          exact ⟨by first | (simp_all [z_b]; done) | (simp only [z_b0, z_bn0] at *; simp [*]; done), by first | (simp_all [z_b]; done) | (simp only [z_b0, z_bn0] at *; simp [*]; done)⟩
      · skip
        refine x_bipush (v := -2) (pc2 := 29) dX5_sheet_27 rfl (by decide) ?_
        refine x_iret dX5_sheet_29 rfl ?_
        exact ⟨by first | (simp_all [z_b]; done) | (simp only [z_b0, z_bn0] at *; simp [*]; done), by first | (simp_all [z_b]; done) | (simp only [z_b0, z_bn0] at *; simp [*]; done)⟩
  · skip
    refine x_iconst (v := -1) (pc2 := 13) dX5_sheet_12 rfl (by decide) ?_
    refine x_iret dX5_sheet_13 rfl ?_
    exact ⟨by first | (simp_all [z_b]; done) | (simp only [z_b0, z_bn0] at *; simp [*]; done), by first | (simp_all [z_b]; done) | (simp only [z_b0, z_bn0] at *; simp [*]; done)⟩
theorem s_loseC (d : Nat) (σ : zS) (k : Int32) : z_Fn mX5_lose (d + 2) [.ref 0, .int k] σ (.int (if z_wi k 0 3 = false then -1 else if σ.1 (14 + k.toNatClampNeg) 0 = -9 then 0 else 1)) (if z_wi k 0 3 = false then σ else if σ.1 (14 + k.toNatClampNeg) 0 = -9 then σ else z_fill (z_st (z_st σ (14 + k.toNatClampNeg) 0 (-9)) (14 + k.toNatClampNeg) 1 0) (14 + k.toNatClampNeg + 4) 60 0) := by
  refine x_enter (by decide) (Nat.le_of_ble_eq_true rfl) ?_
  show z_At _ _ _ [.ref 0, .int k] _ _ _
  refine x_iload1 (pc2 := 1) dX5_lose_0 rfl ?_
  refine x_fS1 (pc2 := 4) eX5_isSheet kX5_57 (Nat.le_of_ble_eq_true rfl) dX5_lose_1 rfl (s_isSheetC _ _ _) ?_
  refine x_if_ne (pc2 := 7) (pc3 := 9) dX5_lose_4 rfl rfl (fun h4 => ?_) (fun h4 => ?_)
  · skip
    refine x_aload0 (pc2 := 10) dX5_lose_9 rfl ?_
    refine x_getR (pc2 := 13) fX5_23 sh_0 rfl dX5_lose_10 rfl ?_
    refine x_iload1 (pc2 := 14) dX5_lose_13 rfl ?_
    refine x_aald (pc2 := 15) sh_13 (by exact z_in_sh h4) dX5_lose_14 rfl ?_
    refine x_fV0 (pc2 := 18) eX3_isNothing kX5_218 (sh_S (z_isS_of (z_in_sh ‹¬ z_b (z_wi k 0 3) = 0›))) rfl (Nat.le_of_ble_eq_true rfl) dX5_lose_15 rfl (s_isNothing _ _ (z_isS_of (z_in_sh ‹¬ z_b (z_wi k 0 3) = 0›))) ?_
    refine x_if_eq (pc2 := 21) (pc3 := 23) dX5_lose_18 rfl rfl (fun h18 => ?_) (fun h18 => ?_)
    · skip
      refine x_aload0 (pc2 := 24) dX5_lose_23 rfl ?_
      refine x_getR (pc2 := 27) fX5_23 sh_0 rfl dX5_lose_24 rfl ?_
      refine x_iload1 (pc2 := 28) dX5_lose_27 rfl ?_
      refine x_aald (pc2 := 29) sh_13 (by exact z_in_sh h4) dX5_lose_28 rfl ?_
      refine x_bipush (v := -9) (pc2 := 31) dX5_lose_29 rfl (by decide) ?_
      refine x_iconst (v := 0) (pc2 := 32) dX5_lose_31 rfl (by decide) ?_
      refine x_pV2 (pc2 := 35) eX3_renew kX5_215 (sh_S (z_isS_of (z_in_sh ‹¬ z_b (z_wi k 0 3) = 0›))) rfl (Nat.le_of_ble_eq_true rfl) dX5_lose_32 rfl (s_renew _ _ (z_isS_of (z_in_sh ‹¬ z_b (z_wi k 0 3) = 0›)) _ _) ?_
      refine x_iconst (v := 1) (pc2 := 36) dX5_lose_35 rfl (by decide) ?_
      refine x_iret dX5_lose_36 rfl ?_
      exact ⟨by simp_all [z_b], by simp_all [z_b]⟩
    · skip
      refine x_iconst (v := 0) (pc2 := 22) dX5_lose_21 rfl (by decide) ?_
      refine x_iret dX5_lose_22 rfl ?_
      exact ⟨by simp_all [z_b], by simp_all [z_b]⟩
  · skip
    refine x_iconst (v := -1) (pc2 := 8) dX5_lose_7 rfl (by decide) ?_
    refine x_iret dX5_lose_8 rfl ?_
    exact ⟨by simp_all [z_b], by simp_all [z_b]⟩
theorem s_putC (d : Nat) (σ σ0 : zS) (hσ : σ0 = z_f0 σ) (k i v : Int32) (hz : vp_in k 4 → ∃ n : Nat, σ0.1 (14 + k.toNatClampNeg) 1 = nI n ∧ n ≤ 60) : z_Fn mX5_put (d + 2) [.ref 0, .int k, .int i, .int v] σ (.int (if z_wi k 0 3 = false then -1 else if σ0.1 (14 + k.toNatClampNeg) 0 = -9 then -10 - 1 else if z_rng i (σ0.1 (14 + k.toNatClampNeg) 1) = false then -10 - 3 else 1)) (if z_wi k 0 3 = false then σ0 else if σ0.1 (14 + k.toNatClampNeg) 0 = -9 then z_st σ0 0 13 1 else if z_rng i (σ0.1 (14 + k.toNatClampNeg) 1) = false then z_st σ0 0 13 3 else z_st σ0 (14 + k.toNatClampNeg + 4) i.toNatClampNeg (z_cut (σ0.1 (14 + k.toNatClampNeg) 0) v)) := by
  refine x_enter (by decide) (Nat.le_of_ble_eq_true rfl) ?_
  show z_At _ _ _ [.ref 0, .int k, .int i, .int v, .null] _ _ _
  refine x_aload0 (pc2 := 1) dX5_put_0 rfl ?_
  refine x_iconst (v := 0) (pc2 := 2) dX5_put_1 rfl (by decide) ?_
  refine x_putI (pc2 := 5) pX5_53 sh_0 rfl dX5_put_2 rfl ?_
  rw [show z_st σ 0 13 0 = σ0 from hσ.symm]
  clear hσ
  refine x_iload1 (pc2 := 6) dX5_put_5 rfl ?_
  refine x_fS1 (pc2 := 9) eX5_isSheet kX5_57 (Nat.le_of_ble_eq_true rfl) dX5_put_6 rfl (s_isSheetC _ _ _) ?_
  refine x_if_ne (pc2 := 12) (pc3 := 14) dX5_put_9 rfl rfl (fun h9 => ?_) (fun h9 => ?_)
  · skip
    refine x_aload0 (pc2 := 15) dX5_put_14 rfl ?_
    refine x_getR (pc2 := 18) fX5_23 sh_0 rfl dX5_put_15 rfl ?_
    refine x_iload1 (pc2 := 19) dX5_put_18 rfl ?_
    refine x_aald (pc2 := 20) sh_13 (by exact z_in_sh ‹¬ z_b (z_wi k 0 3) = 0›) dX5_put_19 rfl ?_
    refine x_astore4 (pc2 := 22) dX5_put_20 rfl rfl ?_
    refine x_aload4 (pc2 := 24) dX5_put_22 rfl ?_
    refine x_fV0 (pc2 := 27) eX3_isNothing kX5_218 (sh_S (z_isS_of (z_in_sh ‹¬ z_b (z_wi k 0 3) = 0›))) rfl (Nat.le_of_ble_eq_true rfl) dX5_put_24 rfl (s_isNothing _ _ (z_isS_of (z_in_sh ‹¬ z_b (z_wi k 0 3) = 0›))) ?_
    refine x_if_eq (pc2 := 30) (pc3 := 36) dX5_put_27 rfl rfl (fun h27 => ?_) (fun h27 => ?_)
    · skip
      refine x_aload4 (pc2 := 38) dX5_put_36 rfl ?_
      refine x_iload2 (pc2 := 39) dX5_put_38 rfl ?_
      refine x_fV1 (pc2 := 42) eX3_hasCell kX5_221 (sh_S (z_isS_of (z_in_sh ‹¬ z_b (z_wi k 0 3) = 0›))) rfl (Nat.le_of_ble_eq_true rfl) dX5_put_39 rfl (s_hasCell _ _ (z_isS_of (z_in_sh ‹¬ z_b (z_wi k 0 3) = 0›)) _) ?_
      refine x_if_ne (pc2 := 45) (pc3 := 51) dX5_put_42 rfl rfl (fun h42 => ?_) (fun h42 => ?_)
      · skip
        refine x_aload4 (pc2 := 53) dX5_put_51 rfl ?_
        refine x_iload2 (pc2 := 54) dX5_put_53 rfl ?_
        refine x_iload3 (pc2 := 55) dX5_put_54 rfl ?_
        refine x_pV2 (pc2 := 58) eX3_write kX5_224 (sh_S (z_isS_of (z_in_sh ‹¬ z_b (z_wi k 0 3) = 0›))) rfl (Nat.le_of_ble_eq_true rfl) dX5_put_55 rfl (s_write _ _ (z_isS_of (z_in_sh ‹¬ z_b (z_wi k 0 3) = 0›)) _ _ (z_in_bN ‹¬ z_b (z_rng i _) = 0› (hz (z_in_sh ‹¬ z_b (z_wi k 0 3) = 0›)).choose_spec.1 (hz (z_in_sh ‹¬ z_b (z_wi k 0 3) = 0›)).choose_spec.2)) ?_
        refine x_iconst (v := 1) (pc2 := 59) dX5_put_58 rfl (by decide) ?_
        refine x_iret dX5_put_59 rfl ?_
        clear hz; exact ⟨by simp_all [z_b], by simp_all [z_b]⟩
      · skip
        refine x_aload0 (pc2 := 46) dX5_put_45 rfl ?_
        refine x_iconst (v := 3) (pc2 := 47) dX5_put_46 rfl (by decide) ?_
        refine x_fV1 (pc2 := 50) eX5_faulted kX5_68 sh_0 rfl (Nat.le_of_ble_eq_true rfl) dX5_put_47 rfl (s_faulted _ _ _) ?_
        refine x_iret dX5_put_50 rfl ?_
        clear hz; exact ⟨by simp_all [z_b], by simp_all [z_b]⟩
    · skip
      refine x_aload0 (pc2 := 31) dX5_put_30 rfl ?_
      refine x_iconst (v := 1) (pc2 := 32) dX5_put_31 rfl (by decide) ?_
      refine x_fV1 (pc2 := 35) eX5_faulted kX5_68 sh_0 rfl (Nat.le_of_ble_eq_true rfl) dX5_put_32 rfl (s_faulted _ _ _) ?_
      refine x_iret dX5_put_35 rfl ?_
      clear hz; exact ⟨by simp_all [z_b], by simp_all [z_b]⟩
  · skip
    refine x_iconst (v := -1) (pc2 := 13) dX5_put_12 rfl (by decide) ?_
    refine x_iret dX5_put_13 rfl ?_
    clear hz; exact ⟨by simp_all [z_b], by simp_all [z_b]⟩
theorem s_cellC (d : Nat) (σ σ0 : zS) (hσ : σ0 = z_f0 σ) (k i l : Int32) (hz : vp_in k 4 → ∃ n : Nat, σ0.1 (14 + k.toNatClampNeg) 1 = nI n ∧ n ≤ 60) : z_Fn mX5_cell (d + 2) [.ref 0, .int k, .int i, .int l] σ (.long (if z_wi k 0 3 = false ∨ z_wi l 0 2 = false then -9223372036854775808 else if z_fa (σ0.1 (14 + k.toNatClampNeg) 0) l = 0 ∧ z_rng i (σ0.1 (14 + k.toNatClampNeg) 1) = true then (σ0.1 (14 + k.toNatClampNeg + 4) i.toNatClampNeg).toInt64 else -9223372036854775808)) (if z_wi k 0 3 = false ∨ z_wi l 0 2 = false then σ0 else if z_fa (σ0.1 (14 + k.toNatClampNeg) 0) l = 0 then (if z_rng i (σ0.1 (14 + k.toNatClampNeg) 1) = false then z_st σ0 0 13 3 else σ0) else z_st σ0 0 13 (z_fa (σ0.1 (14 + k.toNatClampNeg) 0) l)) := by
  refine x_enter (by decide) (Nat.le_of_ble_eq_true rfl) ?_
  show z_At _ _ _ [.ref 0, .int k, .int i, .int l, .null] _ _ _
  refine x_aload0 (pc2 := 1) dX5_cell_0 rfl ?_
  refine x_iconst (v := 0) (pc2 := 2) dX5_cell_1 rfl (by decide) ?_
  refine x_putI (pc2 := 5) pX5_53 sh_0 rfl dX5_cell_2 rfl ?_
  rw [show z_st σ 0 13 0 = σ0 from hσ.symm]
  have h0 : σ0.1 0 13 = 0 := by rw [hσ]; rfl
  clear hσ
  refine x_iload1 (pc2 := 6) dX5_cell_5 rfl ?_
  refine x_fS1 (pc2 := 9) eX5_isSheet kX5_57 (Nat.le_of_ble_eq_true rfl) dX5_cell_6 rfl (s_isSheetC _ _ _) ?_
  refine x_if_eq (pc2 := 12) (pc3 := 19) dX5_cell_9 rfl rfl (fun h9 => ?_) (fun h9 => ?_)
  · have e : z_wi k 0 3 = false := z_b0.mp h9
    refine x_ldc2 (pc2 := 22) (by decide +kernel : Cond.constantLong RX5 157 (-9223372036854775808) ∈ lw_tbl) dX5_cell_19 rfl ?_
    refine x_lret dX5_cell_22 rfl ?_
    exact ⟨by simp [e], by simp [e]⟩
  · have e := z_bn0.mp h9
    refine x_iload3 (pc2 := 13) dX5_cell_12 rfl ?_
    refine x_fS1 (pc2 := 16) eX5_isLane kX5_61 (Nat.le_of_ble_eq_true rfl) dX5_cell_13 rfl (s_isLane _ _ _) ?_
    refine x_if_ne (pc2 := 19) (pc3 := 23) dX5_cell_16 rfl rfl (fun h16 => ?_) (fun h16 => ?_)
    rotate_left
    · have e2 := z_b0.mp h16
      refine x_ldc2 (pc2 := 22) (by decide +kernel : Cond.constantLong RX5 157 (-9223372036854775808) ∈ lw_tbl) dX5_cell_19 rfl ?_
      refine x_lret dX5_cell_22 rfl ?_
      exact ⟨by simp [e, e2], by simp [e, e2]⟩
    · have e2 := z_bn0.mp h16
      have hi := z_isS_of (z_in_sh h9)
      have hne : 14 + k.toNatClampNeg ≠ 0 := by omega
      have hne4 : 14 + k.toNatClampNeg + 4 ≠ 0 := by omega
      refine x_aload0 (pc2 := 24) dX5_cell_23 rfl ?_
      refine x_getR (pc2 := 27) fX5_23 sh_0 rfl dX5_cell_24 rfl ?_
      refine x_iload1 (pc2 := 28) dX5_cell_27 rfl ?_
      refine x_aald (pc2 := 29) sh_13 (by first | exact z_in_sh ‹¬ z_b (z_wi k 0 3) = 0› | exact z_in_bN ‹¬ z_b (z_rng i _) = 0› (hz (z_in_sh ‹¬ z_b (z_wi k 0 3) = 0›)).choose_spec.1 (hz (z_in_sh ‹¬ z_b (z_wi k 0 3) = 0›)).choose_spec.2) dX5_cell_28 rfl ?_
      refine x_astore4 (pc2 := 31) dX5_cell_29 rfl rfl ?_
      refine x_aload0 (pc2 := 32) dX5_cell_31 rfl ?_
      refine x_aload4 (pc2 := 34) dX5_cell_32 rfl ?_
      refine x_iload3 (pc2 := 35) dX5_cell_34 rfl ?_
      refine x_fV1 (pc2 := 38) eX3_faultAs kX5_64 (sh_S (z_isS_of (z_in_sh ‹¬ z_b (z_wi k 0 3) = 0›))) rfl (Nat.le_of_ble_eq_true rfl) dX5_cell_35 rfl (s_faultAs _ _ (z_isS_of (z_in_sh ‹¬ z_b (z_wi k 0 3) = 0›)) _) ?_
      refine x_putI (pc2 := 41) pX5_53 sh_0 rfl dX5_cell_38 rfl ?_
      refine x_aload0 (pc2 := 42) dX5_cell_41 rfl ?_
      refine x_getI (pc2 := 45) fX5_53 sh_0 rfl dX5_cell_42 rfl ?_
      refine x_if_ne (pc2 := 48) (pc3 := 62) dX5_cell_45 rfl rfl (fun h45 => ?_) (fun h45 => ?_)
      · rw [z_st_at] at h45
        refine x_aload0 (pc2 := 63) dX5_cell_62 rfl ?_
        refine x_getI (pc2 := 66) fX5_53 sh_0 rfl dX5_cell_63 rfl ?_
        refine x_if_ne (pc2 := 69) (pc3 := 80) dX5_cell_66 rfl rfl (fun h66 => ?_) (fun h66 => ?_)
        · rw [z_st_at] at h66
          refine x_ldc2 (pc2 := 83) (by decide +kernel : Cond.constantLong RX5 157 (-9223372036854775808) ∈ lw_tbl) dX5_cell_80 rfl ?_
          refine x_lret dX5_cell_83 rfl ?_
          exact ⟨by simp [e, e2, h45], by simp [e, e2, h45]⟩
        · rw [z_st_at] at h66
          exact absurd h66 h45
      · rw [z_st_at] at h45
        rw [h45, z_st_id h0]
        refine x_aload4 (pc2 := 50) dX5_cell_48 rfl ?_
        refine x_iload2 (pc2 := 51) dX5_cell_50 rfl ?_
        refine x_fV1 (pc2 := 54) eX3_hasCell kX5_221 (sh_S (z_isS_of (z_in_sh ‹¬ z_b (z_wi k 0 3) = 0›))) rfl (Nat.le_of_ble_eq_true rfl) dX5_cell_51 rfl (s_hasCell _ _ (z_isS_of (z_in_sh ‹¬ z_b (z_wi k 0 3) = 0›)) _) ?_
        refine x_if_ne (pc2 := 57) (pc3 := 62) dX5_cell_54 rfl rfl (fun h54 => ?_) (fun h54 => ?_)
        · have e3 := z_bn0.mp h54
          refine x_aload0 (pc2 := 63) dX5_cell_62 rfl ?_
          refine x_getI (pc2 := 66) fX5_53 sh_0 rfl dX5_cell_63 rfl ?_
          refine x_if_ne (pc2 := 69) (pc3 := 80) dX5_cell_66 rfl rfl (fun h66 => ?_) (fun h66 => ?_)
          · exact absurd h0 h66
          · skip
            refine x_aload4 (pc2 := 71) dX5_cell_69 rfl ?_
            refine x_getR (pc2 := 74) fX5_167 (sh_S (z_isS_of (z_in_sh ‹¬ z_b (z_wi k 0 3) = 0›))) rfl dX5_cell_71 rfl ?_
            refine x_iload2 (pc2 := 75) dX5_cell_74 rfl ?_
            refine x_iald (pc2 := 76) (sh_S1 (z_isS_of (z_in_sh ‹¬ z_b (z_wi k 0 3) = 0›))) (by first | exact z_in_sh ‹¬ z_b (z_wi k 0 3) = 0› | exact z_in_bN ‹¬ z_b (z_rng i _) = 0› (hz (z_in_sh ‹¬ z_b (z_wi k 0 3) = 0›)).choose_spec.1 (hz (z_in_sh ‹¬ z_b (z_wi k 0 3) = 0›)).choose_spec.2) dX5_cell_75 rfl ?_
            refine x_i2l (pc2 := 77) dX5_cell_76 rfl ?_
            refine x_goto (pc2 := 83) dX5_cell_77 rfl ?_
            refine x_lret dX5_cell_83 rfl ?_
            exact ⟨by simp [e, e2, h45, e3], by simp [e, e2, h45, e3]⟩
        · have e3 := z_b0.mp h54
          refine x_aload0 (pc2 := 58) dX5_cell_57 rfl ?_
          refine x_iconst (v := 3) (pc2 := 59) dX5_cell_58 rfl (by decide) ?_
          refine x_putI (pc2 := 62) pX5_53 sh_0 rfl dX5_cell_59 rfl ?_
          refine x_aload0 (pc2 := 63) dX5_cell_62 rfl ?_
          refine x_getI (pc2 := 66) fX5_53 sh_0 rfl dX5_cell_63 rfl ?_
          refine x_if_ne (pc2 := 69) (pc3 := 80) dX5_cell_66 rfl rfl (fun h66 => ?_) (fun h66 => ?_)
          · rw [z_st_at] at h66
            refine x_ldc2 (pc2 := 83) (by decide +kernel : Cond.constantLong RX5 157 (-9223372036854775808) ∈ lw_tbl) dX5_cell_80 rfl ?_
            refine x_lret dX5_cell_83 rfl ?_
            exact ⟨by simp [e, e2, h45, e3], by simp [e, e2, h45, e3]⟩
          · rw [z_st_at] at h66
            exact absurd h66 (by decide)

/-! model -/
theorem z_mul60 {k : Int32} (h : vp_in k 4) : (60 : Int32) * k = nI (60 * k.toNatClampNeg) := by
  have h4 : k.toNatClampNeg < 4 := Nat.not_le.mp fun q => h (Or.inr q)
  have h0 : ¬ k < 0 := fun q => h (Or.inl q)
  have hk : k = nI k.toNatClampNeg := z_of_toInt (by
    rw [show (nI k.toNatClampNeg).toInt = _ from nI_toInt (by omega)]
    have : (0 : Int) ≤ k.toInt := by simpa [Int32.le_iff_toInt_le] using Int32.not_lt.mp h0
    unfold Int32.toNatClampNeg
    omega)
  generalize k.toNatClampNeg = n at h4 hk
  subst hk
  rcases (show n = 0 ∨ n = 1 ∨ n = 2 ∨ n = 3 by omega) with rfl | rfl | rfl | rfl <;> rfl
theorem z_nat {k : Int32} (h : ¬ k < 0) : k = nI k.toNatClampNeg := z_of_toInt (by
    have : (0 : Int) ≤ k.toInt := by simpa [Int32.le_iff_toInt_le] using Int32.not_lt.mp h
    have h2 : k.toNatClampNeg < 2 ^ 31 := by
      have := Int32.toInt_lt k
      unfold Int32.toNatClampNeg
      omega
    rw [show (nI k.toNatClampNeg).toInt = _ from nI_toInt h2]
    unfold Int32.toNatClampNeg
    omega)
theorem z_nIadd (a b : Nat) : nI a + nI b = nI (a + b) := (Int32.ofNat_add a b).symm
theorem z_cellAt {k i : Int32} (hk : vp_in k 4) (hi : ¬ i < 0) : 60 * k + i = nI (60 * k.toNatClampNeg + i.toNatClampNeg) := by
  rw [z_mul60 hk]
  conv => lhs; rw [z_nat hi]
  exact z_nIadd _ _
theorem z_cellIn {k i : Int32} (hk : vp_in k 4) (hi : vp_in i 60) : vp_in (60 * k + i) 240 := by
  have h4 : k.toNatClampNeg < 4 := Nat.not_le.mp fun q => hk (Or.inr q)
  have h6 : i.toNatClampNeg < 60 := Nat.not_le.mp fun q => hi (Or.inr q)
  rw [z_cellAt hk (fun q => hi (Or.inl q))]
  exact z_in (by omega)
theorem z_cellNat {k i : Int32} (hk : vp_in k 4) (hi : vp_in i 60) : (60 * k + i).toNatClampNeg = 60 * k.toNatClampNeg + i.toNatClampNeg := by
  have h4 : k.toNatClampNeg < 4 := Nat.not_le.mp fun q => hk (Or.inr q)
  have h6 : i.toNatClampNeg < 60 := Nat.not_le.mp fun q => hi (Or.inr q)
  rw [z_cellAt hk (fun q => hi (Or.inl q)), nI_clamp (by omega)]
theorem z_wi_rng {i x : Int32} {n : Nat} (hx : x = nI n) (hn : n < 2 ^ 31) : z_wi i 0 (x - 1) = z_rng i x := by
  subst hx
  unfold z_wi z_rng
  cases n with
  | zero =>
    have e : (nI 0 - 1 : Int32) = -1 := rfl
    rw [e]
    by_cases h : i < 0
    · simp [h]
    · have h1 : (0 : Int) ≤ i.toInt := by simpa [Int32.le_iff_toInt_le] using Int32.not_lt.mp h
      have h2 : (-1 : Int32) < i := by rw [Int32.lt_iff_toInt_lt]; show (-1 : Int) < _; omega
      have h3 : nI 0 ≤ i := by rw [Int32.le_iff_toInt_le]; exact h1
      simp [h2, h3]
  | succ n =>
    rw [nI_pred]
    rw [show decide (nI n < i) = decide (nI (n + 1) ≤ i) from decide_eq_decide.mpr (by rw [Int32.lt_iff_toInt_lt, Int32.le_iff_toInt_le, nI_toInt (by omega), nI_toInt (by omega)]; omega)]
theorem s_loseM (d : Nat) (σ : zS) (k : Int32) : z_Fn mX6_lose (d + 2) [.ref 43, .int k] σ (.int (if z_wi k 0 3 = false then -1 else if σ.1 44 k.toNatClampNeg = -9 then 0 else 1)) (if z_wi k 0 3 = false then σ else z_st σ 44 k.toNatClampNeg (-9)) := by
  refine x_enter (by decide) (Nat.le_of_ble_eq_true rfl) ?_
  show z_At _ _ _ [.ref 43, .int k, .null] _ _ _
  refine x_iload1 (pc2 := 1) dX6_lose_0 rfl ?_
  refine x_fS1 (pc2 := 4) eX6_isSheet kX6_93 (Nat.le_of_ble_eq_true rfl) dX6_lose_1 rfl (s_isSheetM _ _ _) ?_
  refine x_if_ne (pc2 := 7) (pc3 := 9) dX6_lose_4 rfl rfl (fun h4 => ?_) (fun h4 => ?_)
  · skip
    refine x_aload0 (pc2 := 10) dX6_lose_9 rfl ?_
    refine x_getR (pc2 := 13) fX6_9 sh_43 rfl dX6_lose_10 rfl ?_
    refine x_iload1 (pc2 := 14) dX6_lose_13 rfl ?_
    refine x_iald (pc2 := 15) sh_44 (by exact z_in_sh ‹¬ z_b (z_wi k 0 3) = 0›) dX6_lose_14 rfl ?_
    refine x_bipush (v := -9) (pc2 := 17) dX6_lose_15 rfl (by decide) ?_
    refine x_icmp_ne (pc2 := 20) (pc3 := 24) dX6_lose_17 rfl rfl (fun h17 => ?_) (fun h17 => ?_)
    · skip
      refine x_iconst (v := 1) (pc2 := 25) dX6_lose_24 rfl (by decide) ?_
      refine x_istore2 (pc2 := 26) dX6_lose_25 rfl rfl ?_
      refine x_aload0 (pc2 := 27) dX6_lose_26 rfl ?_
      refine x_getR (pc2 := 30) fX6_9 sh_43 rfl dX6_lose_27 rfl ?_
      refine x_iload1 (pc2 := 31) dX6_lose_30 rfl ?_
      refine x_bipush (v := -9) (pc2 := 33) dX6_lose_31 rfl (by decide) ?_
      refine x_iast (pc2 := 34) sh_44 (by exact z_in_sh ‹¬ z_b (z_wi k 0 3) = 0›) dX6_lose_33 rfl ?_
      refine x_iload2 (pc2 := 35) dX6_lose_34 rfl ?_
      refine x_iret dX6_lose_35 rfl ?_
      exact ⟨by simp_all [z_b], by simp_all [z_b]⟩
    · skip
      refine x_iconst (v := 0) (pc2 := 21) dX6_lose_20 rfl (by decide) ?_
      refine x_goto (pc2 := 25) dX6_lose_21 rfl ?_
      refine x_istore2 (pc2 := 26) dX6_lose_25 rfl rfl ?_
      refine x_aload0 (pc2 := 27) dX6_lose_26 rfl ?_
      refine x_getR (pc2 := 30) fX6_9 sh_43 rfl dX6_lose_27 rfl ?_
      refine x_iload1 (pc2 := 31) dX6_lose_30 rfl ?_
      refine x_bipush (v := -9) (pc2 := 33) dX6_lose_31 rfl (by decide) ?_
      refine x_iast (pc2 := 34) sh_44 (by exact z_in_sh ‹¬ z_b (z_wi k 0 3) = 0›) dX6_lose_33 rfl ?_
      refine x_iload2 (pc2 := 35) dX6_lose_34 rfl ?_
      refine x_iret dX6_lose_35 rfl ?_
      exact ⟨by simp_all [z_b], by simp_all [z_b]⟩
  · skip
    refine x_iconst (v := -1) (pc2 := 8) dX6_lose_7 rfl (by decide) ?_
    refine x_iret dX6_lose_8 rfl ?_
    exact ⟨by simp_all [z_b], by simp_all [z_b]⟩
theorem s_putM (d : Nat) (σ σ0 : zS) (hσ : σ0 = z_g0 σ) (k i v : Int32) (hz : vp_in k 4 → ¬ z_b (z_wi i 0 (σ0.1 45 k.toNatClampNeg - 1)) = 0 → vp_in i 60) : z_Fn mX6_put (d + 2) [.ref 43, .int k, .int i, .int v] σ (.int (if z_wi k 0 3 = false then -1 else if σ0.1 44 k.toNatClampNeg = -9 then -10 - 1 else if z_wi i 0 (σ0.1 45 k.toNatClampNeg - 1) = false then -10 - 3 else 1)) (if z_wi k 0 3 = false then σ0 else if σ0.1 44 k.toNatClampNeg = -9 then z_st σ0 43 0 1 else if z_wi i 0 (σ0.1 45 k.toNatClampNeg - 1) = false then z_st σ0 43 0 3 else z_st σ0 46 (60 * k + i).toNatClampNeg (z_cut (σ0.1 44 k.toNatClampNeg) v)) := by
  refine x_enter (by decide) (Nat.le_of_ble_eq_true rfl) ?_
  show z_At _ _ _ [.ref 43, .int k, .int i, .int v] _ _ _
  refine x_aload0 (pc2 := 1) dX6_put_0 rfl ?_
  refine x_iconst (v := 0) (pc2 := 2) dX6_put_1 rfl (by decide) ?_
  refine x_putI (pc2 := 5) pX6_75 sh_43 rfl dX6_put_2 rfl ?_
  rw [show z_st σ 43 0 0 = σ0 from hσ.symm]
  clear hσ
  unfold z_cut
  refine x_iload1 (pc2 := 6) dX6_put_5 rfl ?_
  refine x_fS1 (pc2 := 9) eX6_isSheet kX6_93 (Nat.le_of_ble_eq_true rfl) dX6_put_6 rfl (s_isSheetM _ _ _) ?_
  refine x_if_ne (pc2 := 12) (pc3 := 14) dX6_put_9 rfl rfl (fun h9 => ?_) (fun h9 => ?_)
  · skip
    refine x_aload0 (pc2 := 15) dX6_put_14 rfl ?_
    refine x_getR (pc2 := 18) fX6_9 sh_43 rfl dX6_put_15 rfl ?_
    refine x_iload1 (pc2 := 19) dX6_put_18 rfl ?_
    refine x_iald (pc2 := 20) sh_44 (by first | exact z_in_sh ‹¬ z_b (z_wi k 0 3) = 0› | exact z_cellIn (z_in_sh ‹¬ z_b (z_wi k 0 3) = 0›) (hz (z_in_sh ‹¬ z_b (z_wi k 0 3) = 0›) ‹¬ z_b (z_wi i 0 _) = 0›)) dX6_put_19 rfl ?_
    refine x_bipush (v := -9) (pc2 := 22) dX6_put_20 rfl (by decide) ?_
    refine x_icmp_ne (pc2 := 25) (pc3 := 31) dX6_put_22 rfl rfl (fun h22 => ?_) (fun h22 => ?_)
    · skip
      refine x_iload2 (pc2 := 32) dX6_put_31 rfl ?_
      refine x_iconst (v := 0) (pc2 := 33) dX6_put_32 rfl (by decide) ?_
      refine x_aload0 (pc2 := 34) dX6_put_33 rfl ?_
      refine x_getR (pc2 := 37) fX6_13 sh_43 rfl dX6_put_34 rfl ?_
      refine x_iload1 (pc2 := 38) dX6_put_37 rfl ?_
      refine x_iald (pc2 := 39) sh_45 (by first | exact z_in_sh ‹¬ z_b (z_wi k 0 3) = 0› | exact z_cellIn (z_in_sh ‹¬ z_b (z_wi k 0 3) = 0›) (hz (z_in_sh ‹¬ z_b (z_wi k 0 3) = 0›) ‹¬ z_b (z_wi i 0 _) = 0›)) dX6_put_38 rfl ?_
      refine x_iconst (v := 1) (pc2 := 40) dX6_put_39 rfl (by decide) ?_
      refine x_isub (pc2 := 41) dX6_put_40 rfl ?_
      refine x_fS3 (pc2 := 44) eX6_within kX6_80 (Nat.le_of_ble_eq_true rfl) dX6_put_41 rfl (s_within _ _ _ _ _) ?_
      refine x_if_ne (pc2 := 47) (pc3 := 53) dX6_put_44 rfl rfl (fun h44 => ?_) (fun h44 => ?_)
      · skip
        refine x_aload0 (pc2 := 54) dX6_put_53 rfl ?_
        refine x_getR (pc2 := 57) fX6_16 sh_43 rfl dX6_put_54 rfl ?_
        refine x_bipush (v := 60) (pc2 := 59) dX6_put_57 rfl (by decide) ?_
        refine x_iload1 (pc2 := 60) dX6_put_59 rfl ?_
        refine x_imul (pc2 := 61) dX6_put_60 rfl ?_
        refine x_iload2 (pc2 := 62) dX6_put_61 rfl ?_
        refine x_iadd (pc2 := 63) dX6_put_62 rfl ?_
        refine x_aload0 (pc2 := 64) dX6_put_63 rfl ?_
        refine x_getR (pc2 := 67) fX6_9 sh_43 rfl dX6_put_64 rfl ?_
        refine x_iload1 (pc2 := 68) dX6_put_67 rfl ?_
        refine x_iald (pc2 := 69) sh_44 (by first | exact z_in_sh ‹¬ z_b (z_wi k 0 3) = 0› | exact z_cellIn (z_in_sh ‹¬ z_b (z_wi k 0 3) = 0›) (hz (z_in_sh ‹¬ z_b (z_wi k 0 3) = 0›) ‹¬ z_b (z_wi i 0 _) = 0›)) dX6_put_68 rfl ?_
        refine x_if_ne (pc2 := 72) (pc3 := 77) dX6_put_69 rfl rfl (fun h69 => ?_) (fun h69 => ?_)
        · skip
          refine x_aload0 (pc2 := 78) dX6_put_77 rfl ?_
          refine x_getR (pc2 := 81) fX6_9 sh_43 rfl dX6_put_78 rfl ?_
          refine x_iload1 (pc2 := 82) dX6_put_81 rfl ?_
          refine x_iald (pc2 := 83) sh_44 (by first | exact z_in_sh ‹¬ z_b (z_wi k 0 3) = 0› | exact z_cellIn (z_in_sh ‹¬ z_b (z_wi k 0 3) = 0›) (hz (z_in_sh ‹¬ z_b (z_wi k 0 3) = 0›) ‹¬ z_b (z_wi i 0 _) = 0›)) dX6_put_82 rfl ?_
          refine x_iconst (v := 1) (pc2 := 84) dX6_put_83 rfl (by decide) ?_
          refine x_icmp_ne (pc2 := 87) (pc3 := 92) dX6_put_84 rfl rfl (fun h84 => ?_) (fun h84 => ?_)
          · skip
            refine x_iload3 (pc2 := 93) dX6_put_92 rfl ?_
            refine x_iast (pc2 := 94) sh_46 (by first | exact z_in_sh ‹¬ z_b (z_wi k 0 3) = 0› | exact z_cellIn (z_in_sh ‹¬ z_b (z_wi k 0 3) = 0›) (hz (z_in_sh ‹¬ z_b (z_wi k 0 3) = 0›) ‹¬ z_b (z_wi i 0 _) = 0›)) dX6_put_93 rfl ?_
            refine x_iconst (v := 1) (pc2 := 95) dX6_put_94 rfl (by decide) ?_
            refine x_iret dX6_put_95 rfl ?_
            clear hz; exact ⟨by simp_all [z_b], by simp_all [z_b]⟩
          · skip
            refine x_iload3 (pc2 := 88) dX6_put_87 rfl ?_
            refine x_i2s (pc2 := 89) dX6_put_88 rfl ?_
            refine x_goto (pc2 := 93) dX6_put_89 rfl ?_
            refine x_iast (pc2 := 94) sh_46 (by first | exact z_in_sh ‹¬ z_b (z_wi k 0 3) = 0› | exact z_cellIn (z_in_sh ‹¬ z_b (z_wi k 0 3) = 0›) (hz (z_in_sh ‹¬ z_b (z_wi k 0 3) = 0›) ‹¬ z_b (z_wi i 0 _) = 0›)) dX6_put_93 rfl ?_
            refine x_iconst (v := 1) (pc2 := 95) dX6_put_94 rfl (by decide) ?_
            refine x_iret dX6_put_95 rfl ?_
            clear hz; exact ⟨by simp_all [z_b], by simp_all [z_b]⟩
        · skip
          refine x_iload3 (pc2 := 73) dX6_put_72 rfl ?_
          refine x_i2b (pc2 := 74) dX6_put_73 rfl ?_
          refine x_goto (pc2 := 93) dX6_put_74 rfl ?_
          refine x_iast (pc2 := 94) sh_46 (by first | exact z_in_sh ‹¬ z_b (z_wi k 0 3) = 0› | exact z_cellIn (z_in_sh ‹¬ z_b (z_wi k 0 3) = 0›) (hz (z_in_sh ‹¬ z_b (z_wi k 0 3) = 0›) ‹¬ z_b (z_wi i 0 _) = 0›)) dX6_put_93 rfl ?_
          refine x_iconst (v := 1) (pc2 := 95) dX6_put_94 rfl (by decide) ?_
          refine x_iret dX6_put_95 rfl ?_
          clear hz; exact ⟨by simp_all [z_b], by simp_all [z_b]⟩
      · skip
        refine x_aload0 (pc2 := 48) dX6_put_47 rfl ?_
        refine x_iconst (v := 3) (pc2 := 49) dX6_put_48 rfl (by decide) ?_
        refine x_fV1 (pc2 := 52) eX6_fails kX6_104 sh_43 rfl (Nat.le_of_ble_eq_true rfl) dX6_put_49 rfl (s_fails _ _ _) ?_
        refine x_iret dX6_put_52 rfl ?_
        clear hz; exact ⟨by simp_all [z_b], by simp_all [z_b]⟩
    · skip
      refine x_aload0 (pc2 := 26) dX6_put_25 rfl ?_
      refine x_iconst (v := 1) (pc2 := 27) dX6_put_26 rfl (by decide) ?_
      refine x_fV1 (pc2 := 30) eX6_fails kX6_104 sh_43 rfl (Nat.le_of_ble_eq_true rfl) dX6_put_27 rfl (s_fails _ _ _) ?_
      refine x_iret dX6_put_30 rfl ?_
      clear hz; exact ⟨by simp_all [z_b], by simp_all [z_b]⟩
  · skip
    refine x_iconst (v := -1) (pc2 := 13) dX6_put_12 rfl (by decide) ?_
    refine x_iret dX6_put_13 rfl ?_
    clear hz; exact ⟨by simp_all [z_b], by simp_all [z_b]⟩
theorem s_cellM (d : Nat) (σ σ0 : zS) (hσ : σ0 = z_g0 σ) (k i l : Int32) (hz : vp_in k 4 → ¬ z_b (z_wi i 0 (σ0.1 45 k.toNatClampNeg - 1)) = 0 → vp_in i 60) : z_Fn mX6_cell (d + 2) [.ref 43, .int k, .int i, .int l] σ (.long (if z_wi k 0 3 = false ∨ z_wi l 0 2 = false then -9223372036854775808 else if z_fa (σ0.1 44 k.toNatClampNeg) l = 0 ∧ z_wi i 0 (σ0.1 45 k.toNatClampNeg - 1) = true then (σ0.1 46 (60 * k + i).toNatClampNeg).toInt64 else -9223372036854775808)) (if z_wi k 0 3 = false ∨ z_wi l 0 2 = false then σ0 else if z_fa (σ0.1 44 k.toNatClampNeg) l = 0 then (if z_wi i 0 (σ0.1 45 k.toNatClampNeg - 1) = false then z_st σ0 43 0 3 else σ0) else z_st σ0 43 0 (z_fa (σ0.1 44 k.toNatClampNeg) l)) := by
  refine x_enter (by decide) (Nat.le_of_ble_eq_true rfl) ?_
  show z_At _ _ _ [.ref 43, .int k, .int i, .int l] _ _ _
  refine x_aload0 (pc2 := 1) dX6_cell_0 rfl ?_
  refine x_iconst (v := 0) (pc2 := 2) dX6_cell_1 rfl (by decide) ?_
  refine x_putI (pc2 := 5) pX6_75 sh_43 rfl dX6_cell_2 rfl ?_
  rw [show z_st σ 43 0 0 = σ0 from hσ.symm]
  clear hσ
  unfold z_fa
  refine x_iload1 (pc2 := 6) dX6_cell_5 rfl ?_
  refine x_fS1 (pc2 := 9) eX6_isSheet kX6_93 (Nat.le_of_ble_eq_true rfl) dX6_cell_6 rfl (s_isSheetM _ _ _) ?_
  refine x_if_eq (pc2 := 12) (pc3 := 19) dX6_cell_9 rfl rfl (fun h9 => ?_) (fun h9 => ?_)
  · skip
    refine x_ldc2 (pc2 := 22) (by decide +kernel : Cond.constantLong RX6 78 (-9223372036854775808) ∈ lw_tbl) dX6_cell_19 rfl ?_
    refine x_lret dX6_cell_22 rfl ?_
    clear hz; exact ⟨by simp_all [z_b], by simp_all [z_b]⟩
  · skip
    refine x_iload3 (pc2 := 13) dX6_cell_12 rfl ?_
    refine x_fS1 (pc2 := 16) eX6_isSort kX6_97 (Nat.le_of_ble_eq_true rfl) dX6_cell_13 rfl (s_isSort _ _ _) ?_
    refine x_if_ne (pc2 := 19) (pc3 := 23) dX6_cell_16 rfl rfl (fun h16 => ?_) (fun h16 => ?_)
    · skip
      refine x_aload0 (pc2 := 24) dX6_cell_23 rfl ?_
      refine x_getR (pc2 := 27) fX6_9 sh_43 rfl dX6_cell_24 rfl ?_
      refine x_iload1 (pc2 := 28) dX6_cell_27 rfl ?_
      refine x_iald (pc2 := 29) sh_44 (by first | exact z_in_sh ‹¬ z_b (z_wi k 0 3) = 0› | exact z_cellIn (z_in_sh ‹¬ z_b (z_wi k 0 3) = 0›) (hz (z_in_sh ‹¬ z_b (z_wi k 0 3) = 0›) ‹¬ z_b (z_wi i 0 _) = 0›)) dX6_cell_28 rfl ?_
      refine x_bipush (v := -9) (pc2 := 31) dX6_cell_29 rfl (by decide) ?_
      refine x_icmp_eq (pc2 := 34) (pc3 := 50) dX6_cell_31 rfl rfl (fun h31 => ?_) (fun h31 => ?_)
      · skip
        refine x_aload0 (pc2 := 51) dX6_cell_50 rfl ?_
        refine x_getR (pc2 := 54) fX6_9 sh_43 rfl dX6_cell_51 rfl ?_
        refine x_iload1 (pc2 := 55) dX6_cell_54 rfl ?_
        refine x_iald (pc2 := 56) sh_44 (by first | exact z_in_sh ‹¬ z_b (z_wi k 0 3) = 0› | exact z_cellIn (z_in_sh ‹¬ z_b (z_wi k 0 3) = 0›) (hz (z_in_sh ‹¬ z_b (z_wi k 0 3) = 0›) ‹¬ z_b (z_wi i 0 _) = 0›)) dX6_cell_55 rfl ?_
        refine x_bipush (v := -9) (pc2 := 58) dX6_cell_56 rfl (by decide) ?_
        refine x_icmp_ne (pc2 := 61) (pc3 := 67) dX6_cell_58 rfl rfl (fun h58 => ?_) (fun h58 => ?_)
        · skip
          refine x_iload2 (pc2 := 68) dX6_cell_67 rfl ?_
          refine x_iconst (v := 0) (pc2 := 69) dX6_cell_68 rfl (by decide) ?_
          refine x_aload0 (pc2 := 70) dX6_cell_69 rfl ?_
          refine x_getR (pc2 := 73) fX6_13 sh_43 rfl dX6_cell_70 rfl ?_
          refine x_iload1 (pc2 := 74) dX6_cell_73 rfl ?_
          refine x_iald (pc2 := 75) sh_45 (by first | exact z_in_sh ‹¬ z_b (z_wi k 0 3) = 0› | exact z_cellIn (z_in_sh ‹¬ z_b (z_wi k 0 3) = 0›) (hz (z_in_sh ‹¬ z_b (z_wi k 0 3) = 0›) ‹¬ z_b (z_wi i 0 _) = 0›)) dX6_cell_74 rfl ?_
          refine x_iconst (v := 1) (pc2 := 76) dX6_cell_75 rfl (by decide) ?_
          refine x_isub (pc2 := 77) dX6_cell_76 rfl ?_
          refine x_fS3 (pc2 := 80) eX6_within kX6_80 (Nat.le_of_ble_eq_true rfl) dX6_cell_77 rfl (s_within _ _ _ _ _) ?_
          refine x_if_ne (pc2 := 83) (pc3 := 89) dX6_cell_80 rfl rfl (fun h80 => ?_) (fun h80 => ?_)
          · skip
            refine x_aload0 (pc2 := 90) dX6_cell_89 rfl ?_
            refine x_getR (pc2 := 93) fX6_16 sh_43 rfl dX6_cell_90 rfl ?_
            refine x_bipush (v := 60) (pc2 := 95) dX6_cell_93 rfl (by decide) ?_
            refine x_iload1 (pc2 := 96) dX6_cell_95 rfl ?_
            refine x_imul (pc2 := 97) dX6_cell_96 rfl ?_
            refine x_iload2 (pc2 := 98) dX6_cell_97 rfl ?_
            refine x_iadd (pc2 := 99) dX6_cell_98 rfl ?_
            refine x_iald (pc2 := 100) sh_46 (by first | exact z_in_sh ‹¬ z_b (z_wi k 0 3) = 0› | exact z_cellIn (z_in_sh ‹¬ z_b (z_wi k 0 3) = 0›) (hz (z_in_sh ‹¬ z_b (z_wi k 0 3) = 0›) ‹¬ z_b (z_wi i 0 _) = 0›)) dX6_cell_99 rfl ?_
            refine x_i2l (pc2 := 101) dX6_cell_100 rfl ?_
            refine x_lret dX6_cell_101 rfl ?_
            clear hz; exact ⟨by simp_all [z_b], by simp_all [z_b]⟩
          · skip
            refine x_aload0 (pc2 := 84) dX6_cell_83 rfl ?_
            refine x_iconst (v := 3) (pc2 := 85) dX6_cell_84 rfl (by decide) ?_
            refine x_fV1 (pc2 := 88) eX6_lost kX6_256 sh_43 rfl (Nat.le_of_ble_eq_true rfl) dX6_cell_85 rfl (s_lost _ _ _) ?_
            refine x_lret dX6_cell_88 rfl ?_
            clear hz; exact ⟨by simp_all [z_b], by simp_all [z_b]⟩
        · skip
          refine x_aload0 (pc2 := 62) dX6_cell_61 rfl ?_
          refine x_iconst (v := 1) (pc2 := 63) dX6_cell_62 rfl (by decide) ?_
          refine x_fV1 (pc2 := 66) eX6_lost kX6_256 sh_43 rfl (Nat.le_of_ble_eq_true rfl) dX6_cell_63 rfl (s_lost _ _ _) ?_
          refine x_lret dX6_cell_66 rfl ?_
          clear hz; exact ⟨by simp_all [z_b], by simp_all [z_b]⟩
      · skip
        refine x_aload0 (pc2 := 35) dX6_cell_34 rfl ?_
        refine x_getR (pc2 := 38) fX6_9 sh_43 rfl dX6_cell_35 rfl ?_
        refine x_iload1 (pc2 := 39) dX6_cell_38 rfl ?_
        refine x_iald (pc2 := 40) sh_44 (by first | exact z_in_sh ‹¬ z_b (z_wi k 0 3) = 0› | exact z_cellIn (z_in_sh ‹¬ z_b (z_wi k 0 3) = 0›) (hz (z_in_sh ‹¬ z_b (z_wi k 0 3) = 0›) ‹¬ z_b (z_wi i 0 _) = 0›)) dX6_cell_39 rfl ?_
        refine x_iload3 (pc2 := 41) dX6_cell_40 rfl ?_
        refine x_icmp_eq (pc2 := 44) (pc3 := 50) dX6_cell_41 rfl rfl (fun h41 => ?_) (fun h41 => ?_)
        · skip
          refine x_aload0 (pc2 := 51) dX6_cell_50 rfl ?_
          refine x_getR (pc2 := 54) fX6_9 sh_43 rfl dX6_cell_51 rfl ?_
          refine x_iload1 (pc2 := 55) dX6_cell_54 rfl ?_
          refine x_iald (pc2 := 56) sh_44 (by first | exact z_in_sh ‹¬ z_b (z_wi k 0 3) = 0› | exact z_cellIn (z_in_sh ‹¬ z_b (z_wi k 0 3) = 0›) (hz (z_in_sh ‹¬ z_b (z_wi k 0 3) = 0›) ‹¬ z_b (z_wi i 0 _) = 0›)) dX6_cell_55 rfl ?_
          refine x_bipush (v := -9) (pc2 := 58) dX6_cell_56 rfl (by decide) ?_
          refine x_icmp_ne (pc2 := 61) (pc3 := 67) dX6_cell_58 rfl rfl (fun h58 => ?_) (fun h58 => ?_)
          · skip
            refine x_iload2 (pc2 := 68) dX6_cell_67 rfl ?_
            refine x_iconst (v := 0) (pc2 := 69) dX6_cell_68 rfl (by decide) ?_
            refine x_aload0 (pc2 := 70) dX6_cell_69 rfl ?_
            refine x_getR (pc2 := 73) fX6_13 sh_43 rfl dX6_cell_70 rfl ?_
            refine x_iload1 (pc2 := 74) dX6_cell_73 rfl ?_
            refine x_iald (pc2 := 75) sh_45 (by first | exact z_in_sh ‹¬ z_b (z_wi k 0 3) = 0› | exact z_cellIn (z_in_sh ‹¬ z_b (z_wi k 0 3) = 0›) (hz (z_in_sh ‹¬ z_b (z_wi k 0 3) = 0›) ‹¬ z_b (z_wi i 0 _) = 0›)) dX6_cell_74 rfl ?_
            refine x_iconst (v := 1) (pc2 := 76) dX6_cell_75 rfl (by decide) ?_
            refine x_isub (pc2 := 77) dX6_cell_76 rfl ?_
            refine x_fS3 (pc2 := 80) eX6_within kX6_80 (Nat.le_of_ble_eq_true rfl) dX6_cell_77 rfl (s_within _ _ _ _ _) ?_
            refine x_if_ne (pc2 := 83) (pc3 := 89) dX6_cell_80 rfl rfl (fun h80 => ?_) (fun h80 => ?_)
            · skip
              refine x_aload0 (pc2 := 90) dX6_cell_89 rfl ?_
              refine x_getR (pc2 := 93) fX6_16 sh_43 rfl dX6_cell_90 rfl ?_
              refine x_bipush (v := 60) (pc2 := 95) dX6_cell_93 rfl (by decide) ?_
              refine x_iload1 (pc2 := 96) dX6_cell_95 rfl ?_
              refine x_imul (pc2 := 97) dX6_cell_96 rfl ?_
              refine x_iload2 (pc2 := 98) dX6_cell_97 rfl ?_
              refine x_iadd (pc2 := 99) dX6_cell_98 rfl ?_
              refine x_iald (pc2 := 100) sh_46 (by first | exact z_in_sh ‹¬ z_b (z_wi k 0 3) = 0› | exact z_cellIn (z_in_sh ‹¬ z_b (z_wi k 0 3) = 0›) (hz (z_in_sh ‹¬ z_b (z_wi k 0 3) = 0›) ‹¬ z_b (z_wi i 0 _) = 0›)) dX6_cell_99 rfl ?_
              refine x_i2l (pc2 := 101) dX6_cell_100 rfl ?_
              refine x_lret dX6_cell_101 rfl ?_
              clear hz; exact ⟨by simp_all [z_b], by simp_all [z_b]⟩
            · skip
              refine x_aload0 (pc2 := 84) dX6_cell_83 rfl ?_
              refine x_iconst (v := 3) (pc2 := 85) dX6_cell_84 rfl (by decide) ?_
              refine x_fV1 (pc2 := 88) eX6_lost kX6_256 sh_43 rfl (Nat.le_of_ble_eq_true rfl) dX6_cell_85 rfl (s_lost _ _ _) ?_
              refine x_lret dX6_cell_88 rfl ?_
              clear hz; exact ⟨by simp_all [z_b], by simp_all [z_b]⟩
          · skip
            refine x_aload0 (pc2 := 62) dX6_cell_61 rfl ?_
            refine x_iconst (v := 1) (pc2 := 63) dX6_cell_62 rfl (by decide) ?_
            refine x_fV1 (pc2 := 66) eX6_lost kX6_256 sh_43 rfl (Nat.le_of_ble_eq_true rfl) dX6_cell_63 rfl (s_lost _ _ _) ?_
            refine x_lret dX6_cell_66 rfl ?_
            clear hz; exact ⟨by simp_all [z_b], by simp_all [z_b]⟩
        · skip
          refine x_aload0 (pc2 := 45) dX6_cell_44 rfl ?_
          refine x_iconst (v := 2) (pc2 := 46) dX6_cell_45 rfl (by decide) ?_
          refine x_fV1 (pc2 := 49) eX6_lost kX6_256 sh_43 rfl (Nat.le_of_ble_eq_true rfl) dX6_cell_46 rfl (s_lost _ _ _) ?_
          refine x_lret dX6_cell_49 rfl ?_
          clear hz; exact ⟨by simp_all [z_b], by simp_all [z_b]⟩
    · skip
      refine x_ldc2 (pc2 := 22) (by decide +kernel : Cond.constantLong RX6 78 (-9223372036854775808) ∈ lw_tbl) dX6_cell_19 rfl ?_
      refine x_lret dX6_cell_22 rfl ?_
      clear hz; exact ⟨by simp_all [z_b], by simp_all [z_b]⟩
theorem z_sh_nat {k : Int32} (h : vp_in k 4) : ∃ n : Nat, n < 4 ∧ k = nI n ∧ k.toNatClampNeg = n :=
  ⟨k.toNatClampNeg, Nat.not_le.mp fun q => h (Or.inr q), z_nat fun q => h (Or.inl q), rfl⟩
def z_fillAt (σ : zS) (a b n : Nat) : zS := (z_up σ.1 a (fun j => if b ≤ j ∧ j < b + n then 0 else σ.1 a j), σ.2)
theorem z_fillAt_0 (σ : zS) (a b : Nat) : z_fillAt σ a b 0 = σ := by
  unfold z_fillAt z_up
  refine Prod.ext ?_ rfl
  funext q
  by_cases h : q = a
  · subst h
    simp only [if_true]
    funext j
    rw [if_neg (by omega)]
  · simp [h]
theorem z_fillAt_s (σ : zS) (a b n : Nat) : z_st (z_fillAt σ a b n) a (b + n) 0 = z_fillAt σ a b (n + 1) := by
  unfold z_fillAt z_st z_up upd
  refine Prod.ext ?_ rfl
  funext q
  by_cases h : q = a
  · subst h
    simp only [if_true]
    funext j
    by_cases hj : j = b + n
    · rw [if_pos hj, if_pos (by omega)]
    · rw [if_neg hj]
      by_cases h2 : b ≤ j ∧ j < b + n
      · rw [if_pos h2, if_pos (by omega)]
      · rw [if_neg h2, if_neg (by omega)]
  · simp [h]
theorem s_sheetM (d : Nat) (σ σ0 : zS) (hσ : σ0 = z_g0 σ) (k l n : Int32) : z_Fn mX6_sheet (d + 2) [.ref 43, .int k, .int l, .int n] σ (.int (if z_wi k 0 3 = false then -1 else if z_wi l 0 2 = false ∨ ¬ n ≤ 60 then -2 else if ¬ 0 ≤ n then -10 - 4 else 1)) (if z_wi k 0 3 = false then σ0 else if z_wi l 0 2 = false ∨ ¬ n ≤ 60 then σ0 else if ¬ 0 ≤ n then z_st σ0 43 0 4 else z_fillAt (z_st (z_st σ0 44 k.toNatClampNeg l) 45 k.toNatClampNeg n) 46 (60 * k.toNatClampNeg) 60) := by
  refine x_enter (by decide) (Nat.le_of_ble_eq_true rfl) ?_
  show z_At _ _ _ [.ref 43, .int k, .int l, .int n, .null] _ _ _
  refine x_aload0 (pc2 := 1) dX6_sheet_0 rfl ?_
  refine x_iconst (v := 0) (pc2 := 2) dX6_sheet_1 rfl (by decide) ?_
  refine x_putI (pc2 := 5) pX6_75 sh_43 rfl dX6_sheet_2 rfl ?_
  rw [show z_st σ 43 0 0 = σ0 from hσ.symm]
  clear hσ
  refine x_iload1 (pc2 := 6) dX6_sheet_5 rfl ?_
  refine x_fS1 (pc2 := 9) eX6_isSheet kX6_93 (Nat.le_of_ble_eq_true rfl) dX6_sheet_6 rfl (s_isSheetM _ _ _) ?_
  refine x_if_ne (pc2 := 12) (pc3 := 14) dX6_sheet_9 rfl rfl (fun h9 => ?_) (fun h9 => ?_)
  rotate_left
  · skip
    refine x_iconst (v := -1) (pc2 := 13) dX6_sheet_12 rfl (by decide) ?_
    refine x_iret dX6_sheet_13 rfl ?_
    exact ⟨by simp_all [z_b], by simp_all [z_b]⟩
  have h9' := h9
  rw [z_bn0] at h9
  refine x_iload2 (pc2 := 15) dX6_sheet_14 rfl ?_
  refine x_fS1 (pc2 := 18) eX6_isSort kX6_97 (Nat.le_of_ble_eq_true rfl) dX6_sheet_15 rfl (s_isSort _ _ _) ?_
  refine x_if_eq (pc2 := 21) (pc3 := 27) dX6_sheet_18 rfl rfl (fun h18 => ?_) (fun h18 => ?_)
  · rw [z_b0] at h18
    refine x_bipush (v := -2) (pc2 := 29) dX6_sheet_27 rfl (by decide) ?_
    refine x_iret dX6_sheet_29 rfl ?_
    exact ⟨by simp [*], by simp [*]⟩
  rw [z_bn0] at h18
  refine x_iload3 (pc2 := 22) dX6_sheet_21 rfl ?_
  refine x_bipush (v := 60) (pc2 := 24) dX6_sheet_22 rfl (by decide) ?_
  refine x_icmp_le (pc2 := 27) (pc3 := 30) dX6_sheet_24 rfl rfl (fun h24 => ?_) (fun h24 => ?_)
  rotate_left
  · skip
    refine x_bipush (v := -2) (pc2 := 29) dX6_sheet_27 rfl (by decide) ?_
    refine x_iret dX6_sheet_29 rfl ?_
    exact ⟨by simp [*], by simp [*]⟩
  refine x_iload3 (pc2 := 31) dX6_sheet_30 rfl ?_
  refine x_if_ge (pc2 := 34) (pc3 := 40) dX6_sheet_31 rfl rfl (fun h31 => ?_) (fun h31 => ?_)
  rotate_left
  · skip
    refine x_aload0 (pc2 := 35) dX6_sheet_34 rfl ?_
    refine x_iconst (v := 4) (pc2 := 36) dX6_sheet_35 rfl (by decide) ?_
    refine x_fV1 (pc2 := 39) eX6_fails kX6_104 sh_43 rfl (Nat.le_of_ble_eq_true rfl) dX6_sheet_36 rfl (s_fails _ _ _) ?_
    refine x_iret dX6_sheet_39 rfl ?_
    exact ⟨by simp [*], by simp [*]⟩
  have e1 : (if z_wi k 0 3 = false then (-1 : Int32) else if z_wi l 0 2 = false ∨ ¬ n ≤ 60 then -2 else if ¬ 0 ≤ n then -10 - 4 else 1) = 1 := by simp [*]
  have e2 : (if z_wi k 0 3 = false then σ0 else if z_wi l 0 2 = false ∨ ¬ n ≤ 60 then σ0 else if ¬ 0 ≤ n then z_st σ0 43 0 4 else z_fillAt (z_st (z_st σ0 44 k.toNatClampNeg l) 45 k.toNatClampNeg n) 46 (60 * k.toNatClampNeg) 60) = z_fillAt (z_st (z_st σ0 44 k.toNatClampNeg l) 45 k.toNatClampNeg n) 46 (60 * k.toNatClampNeg) 60 := by simp [*]
  rw [e1, e2]
  clear e1 e2 h9 h18 h24 h31
  obtain ⟨k', hk4, rfl, hk'⟩ := z_sh_nat (z_in_sh h9')
  refine x_aload0 (pc2 := 41) dX6_sheet_40 rfl ?_
  refine x_getR (pc2 := 44) fX6_9 sh_43 rfl dX6_sheet_41 rfl ?_
  refine x_iload1 (pc2 := 45) dX6_sheet_44 rfl ?_
  refine x_iload2 (pc2 := 46) dX6_sheet_45 rfl ?_
  refine x_iast (pc2 := 47) sh_44 (by exact z_in hk4) dX6_sheet_46 rfl ?_
  refine x_aload0 (pc2 := 48) dX6_sheet_47 rfl ?_
  refine x_getR (pc2 := 51) fX6_13 sh_43 rfl dX6_sheet_48 rfl ?_
  refine x_iload1 (pc2 := 52) dX6_sheet_51 rfl ?_
  refine x_iload3 (pc2 := 53) dX6_sheet_52 rfl ?_
  refine x_iast (pc2 := 54) sh_45 (by exact z_in hk4) dX6_sheet_53 rfl ?_
  refine x_iconst (v := 0) (pc2 := 55) dX6_sheet_54 rfl (by decide) ?_
  refine x_istore4 (pc2 := 57) dX6_sheet_55 rfl rfl ?_
  rw [hk']
  generalize z_st (z_st σ0 44 k' l) 45 k' n = τ
  suffices h : ∀ c t, t + c = 60 → z_At mX6_sheet (d + 2) 57 [.ref 43, .int (nI k'), .int l, .int n, .int (nI t)] [] (z_fillAt τ 46 (60 * k') t) (fun rv σ' => rv = some (.int 1) ∧ σ' = z_fillAt τ 46 (60 * k') 60) by
    have := h 60 0 (by omega)
    rw [z_fillAt_0] at this
    exact this
  intro c
  induction c with
  | zero =>
    intro t ht
    obtain rfl : t = 60 := by omega
    refine x_iload4 (pc2 := 59) dX6_sheet_57 rfl ?_
    refine x_bipush (v := 60) (pc2 := 61) dX6_sheet_59 rfl (by decide) ?_
    refine x_icmp_ge (pc2 := 64) (pc3 := 83) dX6_sheet_61 rfl rfl (fun h61 => ?_) (fun h61 => ?_)
    · skip
      refine x_iconst (v := 1) (pc2 := 84) dX6_sheet_83 rfl (by decide) ?_
      refine x_iret dX6_sheet_84 rfl ?_
      exact ⟨rfl, rfl⟩
    · exact absurd (by decide) h61
  | succ c ih =>
    intro t ht
    refine x_iload4 (pc2 := 59) dX6_sheet_57 rfl ?_
    refine x_bipush (v := 60) (pc2 := 61) dX6_sheet_59 rfl (by decide) ?_
    refine x_icmp_ge (pc2 := 64) (pc3 := 83) dX6_sheet_61 rfl rfl (fun h61 => ?_) (fun h61 => ?_)
    · exact absurd h61 (nI_ge (a := t) (b := 60) (by omega) (by omega))
    · have hin : vp_in (nI t) 60 := z_in (by omega)
      have hk : vp_in (nI k') 4 := z_in hk4
      refine x_aload0 (pc2 := 65) dX6_sheet_64 rfl ?_
      refine x_getR (pc2 := 68) fX6_16 sh_43 rfl dX6_sheet_65 rfl ?_
      refine x_bipush (v := 60) (pc2 := 70) dX6_sheet_68 rfl (by decide) ?_
      refine x_iload1 (pc2 := 71) dX6_sheet_70 rfl ?_
      refine x_imul (pc2 := 72) dX6_sheet_71 rfl ?_
      refine x_iload4 (pc2 := 74) dX6_sheet_72 rfl ?_
      refine x_iadd (pc2 := 75) dX6_sheet_74 rfl ?_
      refine x_iconst (v := 0) (pc2 := 76) dX6_sheet_75 rfl (by decide) ?_
      refine x_iast (pc2 := 77) sh_46 (by exact z_cellIn hk hin) dX6_sheet_76 rfl ?_
      refine x_iinc4 (pc2 := 80) dX6_sheet_77 rfl (z_inc1 _) rfl ?_
      refine x_goto (pc2 := 57) dX6_sheet_80 rfl ?_
      rw [← nI_succ, z_cellNat hk hin, nI_clamp (by omega), nI_clamp (by omega), z_fillAt_s]
      exact ih (t + 1) (by omega)
