/-! PortageTripsModel: small methods -/
theorem s_fails (d : Nat) (σ : zS) (k : Int32) : z_Fn mX6_fails d [.ref 43, .int k] σ (.int (-10 - k)) (z_st σ 43 0 k) := by
  refine x_enter (by decide) (Nat.le_of_ble_eq_true rfl) ?_
  show z_At _ _ _ [.ref 43, .int k] _ _ _
  refine x_aload0 (pc2 := 1) dX6_fails_0 rfl ?_
  refine x_iload1 (pc2 := 2) dX6_fails_1 rfl ?_
  refine x_putI (pc2 := 5) pX6_75 sh_43 rfl dX6_fails_2 rfl ?_
  refine x_bipush (v := -10) (pc2 := 7) dX6_fails_5 rfl (by decide) ?_
  refine x_iload1 (pc2 := 8) dX6_fails_7 rfl ?_
  refine x_isub (pc2 := 9) dX6_fails_8 rfl ?_
  refine x_iret dX6_fails_9 rfl ?_
  exact ⟨rfl, rfl⟩
theorem s_lost (d : Nat) (σ : zS) (k : Int32) : z_Fn mX6_lost d [.ref 43, .int k] σ (.long (-9223372036854775808)) (z_st σ 43 0 k) := by
  refine x_enter (by decide) (Nat.le_of_ble_eq_true rfl) ?_
  show z_At _ _ _ [.ref 43, .int k] _ _ _
  refine x_aload0 (pc2 := 1) dX6_lost_0 rfl ?_
  refine x_iload1 (pc2 := 2) dX6_lost_1 rfl ?_
  refine x_putI (pc2 := 5) pX6_75 sh_43 rfl dX6_lost_2 rfl ?_
  refine x_ldc2 (pc2 := 8) (by decide +kernel : Cond.constantLong RX6 78 (-9223372036854775808) ∈ lw_tbl) dX6_lost_5 rfl ?_
  refine x_lret dX6_lost_8 rfl ?_
  exact ⟨rfl, rfl⟩
theorem s_within (d : Nat) (σ : zS) (v a b : Int32) : z_Fn mX6_within d [.int v, .int a, .int b] σ (.int (z_b (z_wi v a b))) σ := by
  refine x_enter (by decide) (Nat.le_of_ble_eq_true rfl) ?_
  show z_At _ _ _ [.int v, .int a, .int b] _ _ _
  unfold z_wi
  refine x_iload0 (pc2 := 1) dX6_within_0 rfl ?_
  refine x_iload1 (pc2 := 2) dX6_within_1 rfl ?_
  refine x_icmp_lt (pc2 := 5) (pc3 := 14) dX6_within_2 rfl rfl (fun h2 => ?_) (fun h2 => ?_)
  · skip
    refine x_iconst (v := 0) (pc2 := 15) dX6_within_14 rfl (by decide) ?_
    refine x_zret dX6_within_15 rfl (by first | exact z_b01 _ | exact Or.inl rfl | exact Or.inr rfl) ?_
    exact ⟨by first | (simp [z_b, *]; done) | (simp_all [z_b]; done), rfl⟩
  · skip
    refine x_iload0 (pc2 := 6) dX6_within_5 rfl ?_
    refine x_iload2 (pc2 := 7) dX6_within_6 rfl ?_
    refine x_icmp_gt (pc2 := 10) (pc3 := 14) dX6_within_7 rfl rfl (fun h7 => ?_) (fun h7 => ?_)
    · skip
      refine x_iconst (v := 0) (pc2 := 15) dX6_within_14 rfl (by decide) ?_
      refine x_zret dX6_within_15 rfl (by first | exact z_b01 _ | exact Or.inl rfl | exact Or.inr rfl) ?_
      exact ⟨by first | (simp [z_b, *]; done) | (simp_all [z_b]; done), rfl⟩
    · skip
      refine x_iconst (v := 1) (pc2 := 11) dX6_within_10 rfl (by decide) ?_
      refine x_goto (pc2 := 15) dX6_within_11 rfl ?_
      refine x_zret dX6_within_15 rfl (by first | exact z_b01 _ | exact Or.inl rfl | exact Or.inr rfl) ?_
      exact ⟨by first | (simp [z_b, *]; done) | (simp_all [z_b]; done), rfl⟩
theorem s_isSheetM (d : Nat) (σ : zS) (v : Int32) : z_Fn mX6_isSheet (d + 1) [.int v] σ (.int (z_b (z_wi v 0 3))) σ := by
  refine x_enter (by decide) (Nat.le_of_ble_eq_true rfl) ?_
  show z_At _ _ _ [.int v] _ _ _
  refine x_iload0 (pc2 := 1) dX6_isSheet_0 rfl ?_
  refine x_iconst (v := 0) (pc2 := 2) dX6_isSheet_1 rfl (by decide) ?_
  refine x_iconst (v := 3) (pc2 := 3) dX6_isSheet_2 rfl (by decide) ?_
  refine x_fS3 (pc2 := 6) eX6_within kX6_80 (Nat.le_of_ble_eq_true rfl) dX6_isSheet_3 rfl (s_within _ _ _ _ _) ?_
  refine x_zret dX6_isSheet_6 rfl (by first | exact z_b01 _ | exact Or.inl rfl | exact Or.inr rfl) ?_
  exact ⟨rfl, rfl⟩
theorem s_isSort (d : Nat) (σ : zS) (v : Int32) : z_Fn mX6_isSort (d + 1) [.int v] σ (.int (z_b (z_wi v 0 2))) σ := by
  refine x_enter (by decide) (Nat.le_of_ble_eq_true rfl) ?_
  show z_At _ _ _ [.int v] _ _ _
  refine x_iload0 (pc2 := 1) dX6_isSort_0 rfl ?_
  refine x_iconst (v := 0) (pc2 := 2) dX6_isSort_1 rfl (by decide) ?_
  refine x_iconst (v := 2) (pc2 := 3) dX6_isSort_2 rfl (by decide) ?_
  refine x_fS3 (pc2 := 6) eX6_within kX6_80 (Nat.le_of_ble_eq_true rfl) dX6_isSort_3 rfl (s_within _ _ _ _ _) ?_
  refine x_zret dX6_isSort_6 rfl (by first | exact z_b01 _ | exact Or.inl rfl | exact Or.inr rfl) ?_
  exact ⟨rfl, rfl⟩
theorem s_isStage (d : Nat) (σ : zS) (k : Int32) : z_Fn mX6_isStage d [.ref 43, .int k] σ (.int (z_b (z_rng k (σ.1 43 6)))) σ := by
  refine x_enter (by decide) (Nat.le_of_ble_eq_true rfl) ?_
  show z_At _ _ _ [.ref 43, .int k] _ _ _
  unfold z_rng
  refine x_iload1 (pc2 := 1) dX6_isStage_0 rfl ?_
  refine x_if_lt (pc2 := 4) (pc3 := 16) dX6_isStage_1 rfl rfl (fun h1 => ?_) (fun h1 => ?_)
  · skip
    refine x_iconst (v := 0) (pc2 := 17) dX6_isStage_16 rfl (by decide) ?_
    refine x_zret dX6_isStage_17 rfl (by first | exact z_b01 _ | exact Or.inl rfl | exact Or.inr rfl) ?_
    exact ⟨by first | (simp [z_b, *]; done) | (simp_all [z_b]; done), rfl⟩
  · skip
    refine x_iload1 (pc2 := 5) dX6_isStage_4 rfl ?_
    refine x_aload0 (pc2 := 6) dX6_isStage_5 rfl ?_
    refine x_getI (pc2 := 9) fX6_84 sh_43 rfl dX6_isStage_6 rfl ?_
    refine x_icmp_ge (pc2 := 12) (pc3 := 16) dX6_isStage_9 rfl rfl (fun h9 => ?_) (fun h9 => ?_)
    · skip
      refine x_iconst (v := 0) (pc2 := 17) dX6_isStage_16 rfl (by decide) ?_
      refine x_zret dX6_isStage_17 rfl (by first | exact z_b01 _ | exact Or.inl rfl | exact Or.inr rfl) ?_
      exact ⟨by first | (simp [z_b, *]; done) | (simp_all [z_b]; done), rfl⟩
    · skip
      refine x_iconst (v := 1) (pc2 := 13) dX6_isStage_12 rfl (by decide) ?_
      refine x_goto (pc2 := 17) dX6_isStage_13 rfl ?_
      refine x_zret dX6_isStage_17 rfl (by first | exact z_b01 _ | exact Or.inl rfl | exact Or.inr rfl) ?_
      exact ⟨by first | (simp [z_b, *]; done) | (simp_all [z_b]; done), rfl⟩
theorem s_isThing (d : Nat) (σ : zS) (k : Int32) : z_Fn mX6_isThing d [.ref 43, .int k] σ (.int (z_b (z_rng k (σ.1 43 7)))) σ := by
  refine x_enter (by decide) (Nat.le_of_ble_eq_true rfl) ?_
  show z_At _ _ _ [.ref 43, .int k] _ _ _
  unfold z_rng
  refine x_iload1 (pc2 := 1) dX6_isThing_0 rfl ?_
  refine x_if_lt (pc2 := 4) (pc3 := 16) dX6_isThing_1 rfl rfl (fun h1 => ?_) (fun h1 => ?_)
  · skip
    refine x_iconst (v := 0) (pc2 := 17) dX6_isThing_16 rfl (by decide) ?_
    refine x_zret dX6_isThing_17 rfl (by first | exact z_b01 _ | exact Or.inl rfl | exact Or.inr rfl) ?_
    exact ⟨by first | (simp [z_b, *]; done) | (simp_all [z_b]; done), rfl⟩
  · skip
    refine x_iload1 (pc2 := 5) dX6_isThing_4 rfl ?_
    refine x_aload0 (pc2 := 6) dX6_isThing_5 rfl ?_
    refine x_getI (pc2 := 9) fX6_87 sh_43 rfl dX6_isThing_6 rfl ?_
    refine x_icmp_ge (pc2 := 12) (pc3 := 16) dX6_isThing_9 rfl rfl (fun h9 => ?_) (fun h9 => ?_)
    · skip
      refine x_iconst (v := 0) (pc2 := 17) dX6_isThing_16 rfl (by decide) ?_
      refine x_zret dX6_isThing_17 rfl (by first | exact z_b01 _ | exact Or.inl rfl | exact Or.inr rfl) ?_
      exact ⟨by first | (simp [z_b, *]; done) | (simp_all [z_b]; done), rfl⟩
    · skip
      refine x_iconst (v := 1) (pc2 := 13) dX6_isThing_12 rfl (by decide) ?_
      refine x_goto (pc2 := 17) dX6_isThing_13 rfl ?_
      refine x_zret dX6_isThing_17 rfl (by first | exact z_b01 _ | exact Or.inl rfl | exact Or.inr rfl) ?_
      exact ⟨by first | (simp [z_b, *]; done) | (simp_all [z_b]; done), rfl⟩
theorem s_isSpot (d : Nat) (σ : zS) (k : Int32) : z_Fn mX6_isSpot (d + 1) [.ref 43, .int k] σ (.int (z_b (z_spot k (σ.1 43 6)))) σ := by
  refine x_enter (by decide) (Nat.le_of_ble_eq_true rfl) ?_
  show z_At _ _ _ [.ref 43, .int k] _ _ _
  unfold z_spot z_pos
  refine x_aload0 (pc2 := 1) dX6_isSpot_0 rfl ?_
  refine x_getI (pc2 := 4) fX6_84 sh_43 rfl dX6_isSpot_1 rfl ?_
  refine x_if_le (pc2 := 7) (pc3 := 23) dX6_isSpot_4 rfl rfl (fun h4 => ?_) (fun h4 => ?_)
  · skip
    refine x_iconst (v := 0) (pc2 := 24) dX6_isSpot_23 rfl (by decide) ?_
    refine x_zret dX6_isSpot_24 rfl (by first | exact z_b01 _ | exact Or.inl rfl | exact Or.inr rfl) ?_
    exact ⟨by first | (simp [z_b, *]; done) | (simp_all [z_b]; done), rfl⟩
  · skip
    refine x_iload1 (pc2 := 8) dX6_isSpot_7 rfl ?_
    refine x_iconst (v := 0) (pc2 := 9) dX6_isSpot_8 rfl (by decide) ?_
    refine x_aload0 (pc2 := 10) dX6_isSpot_9 rfl ?_
    refine x_getI (pc2 := 13) fX6_84 sh_43 rfl dX6_isSpot_10 rfl ?_
    refine x_fS3 (pc2 := 16) eX6_within kX6_80 (Nat.le_of_ble_eq_true rfl) dX6_isSpot_13 rfl (s_within _ _ _ _ _) ?_
    refine x_if_eq (pc2 := 19) (pc3 := 23) dX6_isSpot_16 rfl rfl (fun h16 => ?_) (fun h16 => ?_)
    · skip
      refine x_iconst (v := 0) (pc2 := 24) dX6_isSpot_23 rfl (by decide) ?_
      refine x_zret dX6_isSpot_24 rfl (by first | exact z_b01 _ | exact Or.inl rfl | exact Or.inr rfl) ?_
      exact ⟨by first | (simp [z_b, *]; done) | (simp_all [z_b]; done), rfl⟩
    · skip
      refine x_iconst (v := 1) (pc2 := 20) dX6_isSpot_19 rfl (by decide) ?_
      refine x_goto (pc2 := 24) dX6_isSpot_20 rfl ?_
      refine x_zret dX6_isSpot_24 rfl (by first | exact z_b01 _ | exact Or.inl rfl | exact Or.inr rfl) ?_
      exact ⟨by first | (simp [z_b, *]; done) | (simp_all [z_b]; done), rfl⟩
theorem s_allThings (d : Nat) (σ : zS) : z_Fn mX6_allThings d [.ref 43] σ (.int (((1 : Int32) <<< (σ.1 43 7 &&& 31)) - 1)) σ := by
  refine x_enter (by decide) (Nat.le_of_ble_eq_true rfl) ?_
  show z_At _ _ _ [.ref 43] _ _ _
  refine x_iconst (v := 1) (pc2 := 1) dX6_allThings_0 rfl (by decide) ?_
  refine x_aload0 (pc2 := 2) dX6_allThings_1 rfl ?_
  refine x_getI (pc2 := 5) fX6_87 sh_43 rfl dX6_allThings_2 rfl ?_
  refine x_ishl (pc2 := 6) dX6_allThings_5 rfl ?_
  refine x_iconst (v := 1) (pc2 := 7) dX6_allThings_6 rfl (by decide) ?_
  refine x_isub (pc2 := 8) dX6_allThings_7 rfl ?_
  refine x_iret dX6_allThings_8 rfl ?_
  exact ⟨rfl, rfl⟩
theorem s_stageOf (d : Nat) (σ : zS) (a b : Int32) : z_Fn mX6_stageOf d [.ref 43, .int a, .int b] σ (.int (if b ≤ a then b else a)) σ := by
  refine x_enter (by decide) (Nat.le_of_ble_eq_true rfl) ?_
  show z_At _ _ _ [.ref 43, .int a, .int b] _ _ _
  refine x_iload1 (pc2 := 1) dX6_stageOf_0 rfl ?_
  refine x_iload2 (pc2 := 2) dX6_stageOf_1 rfl ?_
  refine x_icmp_ge (pc2 := 5) (pc3 := 9) dX6_stageOf_2 rfl rfl (fun h2 => ?_) (fun h2 => ?_)
  · skip
    refine x_iload2 (pc2 := 10) dX6_stageOf_9 rfl ?_
    refine x_iret dX6_stageOf_10 rfl ?_
    exact ⟨by first | (simp [z_b, *]; done) | (simp_all [z_b]; done), rfl⟩
  · skip
    refine x_iload1 (pc2 := 6) dX6_stageOf_5 rfl ?_
    refine x_goto (pc2 := 10) dX6_stageOf_6 rfl ?_
    refine x_iret dX6_stageOf_10 rfl ?_
    exact ⟨by first | (simp [z_b, *]; done) | (simp_all [z_b]; done), rfl⟩
theorem s_mudOf (d : Nat) (σ : zS) (k m : Int32) (hin : vp_in k 3) : z_Fn mX6_mudOf d [.ref 43, .int k, .int m] σ (.int (z_mud (σ.1 49 k.toNatClampNeg) (σ.1 48 k.toNatClampNeg) (z_b (z_rains (σ.1 43 8) m)))) σ := by
  refine x_enter (by decide) (Nat.le_of_ble_eq_true rfl) ?_
  show z_At _ _ _ [.ref 43, .int k, .int m] _ _ _
  unfold z_mud z_rains
  refine x_aload0 (pc2 := 1) dX6_mudOf_0 rfl ?_
  refine x_getR (pc2 := 4) fX6_29 sh_43 rfl dX6_mudOf_1 rfl ?_
  refine x_iload1 (pc2 := 5) dX6_mudOf_4 rfl ?_
  refine x_zald (pc2 := 6) sh_49 (by exact hin) dX6_mudOf_5 rfl ?_
  refine x_if_eq (pc2 := 9) (pc3 := 11) dX6_mudOf_6 rfl rfl (fun h6 => ?_) (fun h6 => ?_)
  · skip
    refine x_aload0 (pc2 := 12) dX6_mudOf_11 rfl ?_
    refine x_getI (pc2 := 15) fX6_19 sh_43 rfl dX6_mudOf_12 rfl ?_
    refine x_bipush (v := -9) (pc2 := 17) dX6_mudOf_15 rfl (by decide) ?_
    refine x_icmp_eq (pc2 := 20) (pc3 := 39) dX6_mudOf_17 rfl rfl (fun h17 => ?_) (fun h17 => ?_)
    · skip
      refine x_aload0 (pc2 := 40) dX6_mudOf_39 rfl ?_
      refine x_getR (pc2 := 43) fX6_26 sh_43 rfl dX6_mudOf_40 rfl ?_
      refine x_iload1 (pc2 := 44) dX6_mudOf_43 rfl ?_
      refine x_iald (pc2 := 45) sh_48 (by exact hin) dX6_mudOf_44 rfl ?_
      refine x_iret dX6_mudOf_45 rfl ?_
      exact ⟨by first | (simp [z_b, *]; done) | (simp_all [z_b]; done), rfl⟩
    · skip
      refine x_iload2 (pc2 := 21) dX6_mudOf_20 rfl ?_
      refine x_aload0 (pc2 := 22) dX6_mudOf_21 rfl ?_
      refine x_getI (pc2 := 25) fX6_19 sh_43 rfl dX6_mudOf_22 rfl ?_
      refine x_icmp_lt (pc2 := 28) (pc3 := 39) dX6_mudOf_25 rfl rfl (fun h25 => ?_) (fun h25 => ?_)
      · skip
        refine x_aload0 (pc2 := 40) dX6_mudOf_39 rfl ?_
        refine x_getR (pc2 := 43) fX6_26 sh_43 rfl dX6_mudOf_40 rfl ?_
        refine x_iload1 (pc2 := 44) dX6_mudOf_43 rfl ?_
        refine x_iald (pc2 := 45) sh_48 (by exact hin) dX6_mudOf_44 rfl ?_
        refine x_iret dX6_mudOf_45 rfl ?_
        exact ⟨by first | (simp [z_b, *]; done) | (simp_all [z_b]; done), rfl⟩
      · skip
        refine x_iconst (v := 2) (pc2 := 29) dX6_mudOf_28 rfl (by decide) ?_
        refine x_aload0 (pc2 := 30) dX6_mudOf_29 rfl ?_
        refine x_getR (pc2 := 33) fX6_26 sh_43 rfl dX6_mudOf_30 rfl ?_
        refine x_iload1 (pc2 := 34) dX6_mudOf_33 rfl ?_
        refine x_iald (pc2 := 35) sh_48 (by exact hin) dX6_mudOf_34 rfl ?_
        refine x_imul (pc2 := 36) dX6_mudOf_35 rfl ?_
        refine x_goto (pc2 := 45) dX6_mudOf_36 rfl ?_
        refine x_iret dX6_mudOf_45 rfl ?_
        exact ⟨by first | (simp [z_b, *]; done) | (simp_all [z_b]; done), rfl⟩
  · skip
    refine x_iconst (v := 0) (pc2 := 10) dX6_mudOf_9 rfl (by decide) ?_
    refine x_iret dX6_mudOf_10 rfl ?_
    exact ⟨by first | (simp [z_b, *]; done) | (simp_all [z_b]; done), rfl⟩
theorem s_begins (d : Nat) (σ : zS) (b : Int32) : z_Pr mX6_begins d [.ref 43, .int b] σ (z_st σ 43 1 (31 * σ.1 43 1 + b)) := by
  refine x_enter (by decide) (Nat.le_of_ble_eq_true rfl) ?_
  show z_At _ _ _ [.ref 43, .int b] _ _ _
  refine x_aload0 (pc2 := 1) dX6_begins_0 rfl ?_
  refine x_bipush (v := 31) (pc2 := 3) dX6_begins_1 rfl (by decide) ?_
  refine x_aload0 (pc2 := 4) dX6_begins_3 rfl ?_
  refine x_getI (pc2 := 7) fX6_260 sh_43 rfl dX6_begins_4 rfl ?_
  refine x_imul (pc2 := 8) dX6_begins_7 rfl ?_
  refine x_iload1 (pc2 := 9) dX6_begins_8 rfl ?_
  refine x_iadd (pc2 := 10) dX6_begins_9 rfl ?_
  refine x_putI (pc2 := 13) pX6_260 sh_43 rfl dX6_begins_10 rfl ?_
  refine x_vret dX6_begins_13 rfl ?_
  exact ⟨rfl, rfl⟩
theorem s_traceM (d : Nat) (σ : zS) : z_Fn mX6_trace d [.ref 43] σ (.int (σ.1 43 1)) σ := by
  refine x_enter (by decide) (Nat.le_of_ble_eq_true rfl) ?_
  show z_At _ _ _ [.ref 43] _ _ _
  refine x_aload0 (pc2 := 1) dX6_trace_0 rfl ?_
  refine x_getI (pc2 := 4) fX6_260 sh_43 rfl dX6_trace_1 rfl ?_
  refine x_iret dX6_trace_4 rfl ?_
  exact ⟨rfl, rfl⟩
theorem s_faultM (d : Nat) (σ : zS) : z_Fn mX6_fault d [.ref 43] σ (.int (σ.1 43 0)) σ := by
  refine x_enter (by decide) (Nat.le_of_ble_eq_true rfl) ?_
  show z_At _ _ _ [.ref 43] _ _ _
  refine x_aload0 (pc2 := 1) dX6_fault_0 rfl ?_
  refine x_getI (pc2 := 4) fX6_75 sh_43 rfl dX6_fault_1 rfl ?_
  refine x_iret dX6_fault_4 rfl ?_
  exact ⟨rfl, rfl⟩
theorem s_manyM (d : Nat) (σ : zS) (w : Int32) : z_Fn mX6_many d [.ref 43, .int w] σ (.int (if w = 0 then σ.1 43 6 else if w = 1 then σ.1 43 7 else if w = 2 then σ.1 43 5 else if w = 3 then σ.1 43 34 else -2)) σ := by
  refine x_enter (by decide) (Nat.le_of_ble_eq_true rfl) ?_
  show z_At _ _ _ [.ref 43, .int w] _ _ _
  refine x_iload1 (pc2 := 1) dX6_many_0 rfl ?_
  refine x_if_ne (pc2 := 4) (pc3 := 11) dX6_many_1 rfl rfl (fun h1 => ?_) (fun h1 => ?_)
  · skip
    refine x_iload1 (pc2 := 12) dX6_many_11 rfl ?_
    refine x_iconst (v := 1) (pc2 := 13) dX6_many_12 rfl (by decide) ?_
    refine x_icmp_ne (pc2 := 16) (pc3 := 23) dX6_many_13 rfl rfl (fun h13 => ?_) (fun h13 => ?_)
    · skip
      refine x_iload1 (pc2 := 24) dX6_many_23 rfl ?_
      refine x_iconst (v := 2) (pc2 := 25) dX6_many_24 rfl (by decide) ?_
      refine x_icmp_ne (pc2 := 28) (pc3 := 35) dX6_many_25 rfl rfl (fun h25 => ?_) (fun h25 => ?_)
      · skip
        refine x_iload1 (pc2 := 36) dX6_many_35 rfl ?_
        refine x_iconst (v := 3) (pc2 := 37) dX6_many_36 rfl (by decide) ?_
        refine x_icmp_ne (pc2 := 40) (pc3 := 47) dX6_many_37 rfl rfl (fun h37 => ?_) (fun h37 => ?_)
        · skip
          refine x_bipush (v := -2) (pc2 := 49) dX6_many_47 rfl (by decide) ?_
          refine x_iret dX6_many_49 rfl ?_
          exact ⟨by first | (simp [z_b, *]; done) | (simp_all [z_b]; done), rfl⟩
        · skip
          refine x_aload0 (pc2 := 41) dX6_many_40 rfl ?_
          refine x_getI (pc2 := 44) fX6_123 sh_43 rfl dX6_many_41 rfl ?_
          refine x_goto (pc2 := 49) dX6_many_44 rfl ?_
          refine x_iret dX6_many_49 rfl ?_
          exact ⟨by first | (simp [z_b, *]; done) | (simp_all [z_b]; done), rfl⟩
      · skip
        refine x_aload0 (pc2 := 29) dX6_many_28 rfl ?_
        refine x_getI (pc2 := 32) fX6_114 sh_43 rfl dX6_many_29 rfl ?_
        refine x_goto (pc2 := 49) dX6_many_32 rfl ?_
        refine x_iret dX6_many_49 rfl ?_
        exact ⟨by first | (simp [z_b, *]; done) | (simp_all [z_b]; done), rfl⟩
    · skip
      refine x_aload0 (pc2 := 17) dX6_many_16 rfl ?_
      refine x_getI (pc2 := 20) fX6_87 sh_43 rfl dX6_many_17 rfl ?_
      refine x_goto (pc2 := 49) dX6_many_20 rfl ?_
      refine x_iret dX6_many_49 rfl ?_
      exact ⟨by first | (simp [z_b, *]; done) | (simp_all [z_b]; done), rfl⟩
  · skip
    refine x_aload0 (pc2 := 5) dX6_many_4 rfl ?_
    refine x_getI (pc2 := 8) fX6_84 sh_43 rfl dX6_many_5 rfl ?_
    refine x_goto (pc2 := 49) dX6_many_8 rfl ?_
    refine x_iret dX6_many_49 rfl ?_
    exact ⟨by first | (simp [z_b, *]; done) | (simp_all [z_b]; done), rfl⟩
theorem s_arePairs (d : Nat) (σ : zS) (s n : Int32) : z_Fn mX6_arePairs (d + 2) [.int s, .int n] σ (.int (z_b (z_wi s 0 2 && z_wi n 0 18))) σ := by
  refine x_enter (by decide) (Nat.le_of_ble_eq_true rfl) ?_
  show z_At _ _ _ [.int s, .int n] _ _ _
  refine x_iload0 (pc2 := 1) dX6_arePairs_0 rfl ?_
  refine x_fS1 (pc2 := 4) eX6_isSort kX6_97 (Nat.le_of_ble_eq_true rfl) dX6_arePairs_1 rfl (s_isSort _ _ _) ?_
  refine x_if_eq (pc2 := 7) (pc3 := 21) dX6_arePairs_4 rfl rfl (fun h4 => ?_) (fun h4 => ?_)
  · skip
    refine x_iconst (v := 0) (pc2 := 22) dX6_arePairs_21 rfl (by decide) ?_
    refine x_zret dX6_arePairs_22 rfl (by first | exact z_b01 _ | exact Or.inl rfl | exact Or.inr rfl) ?_
    exact ⟨by first | (simp [z_b, *]; done) | (simp_all [z_b]; done), rfl⟩
  · skip
    refine x_iload1 (pc2 := 8) dX6_arePairs_7 rfl ?_
    refine x_iconst (v := 0) (pc2 := 9) dX6_arePairs_8 rfl (by decide) ?_
    refine x_bipush (v := 18) (pc2 := 11) dX6_arePairs_9 rfl (by decide) ?_
    refine x_fS3 (pc2 := 14) eX6_within kX6_80 (Nat.le_of_ble_eq_true rfl) dX6_arePairs_11 rfl (s_within _ _ _ _ _) ?_
    refine x_if_eq (pc2 := 17) (pc3 := 21) dX6_arePairs_14 rfl rfl (fun h14 => ?_) (fun h14 => ?_)
    · skip
      refine x_iconst (v := 0) (pc2 := 22) dX6_arePairs_21 rfl (by decide) ?_
      refine x_zret dX6_arePairs_22 rfl (by first | exact z_b01 _ | exact Or.inl rfl | exact Or.inr rfl) ?_
      exact ⟨by first | (simp [z_b, *]; done) | (simp_all [z_b]; done), rfl⟩
    · skip
      refine x_iconst (v := 1) (pc2 := 18) dX6_arePairs_17 rfl (by decide) ?_
      refine x_goto (pc2 := 22) dX6_arePairs_18 rfl ?_
      refine x_zret dX6_arePairs_22 rfl (by first | exact z_b01 _ | exact Or.inl rfl | exact Or.inr rfl) ?_
      exact ⟨by first | (simp [z_b, *]; done) | (simp_all [z_b]; done), rfl⟩
def z_ag (sort want i n size : Int32) : Int32 := if sort ≠ -9 ∧ sort ≠ want then 2 else if sort = -9 then 1 else if ¬ 0 ≤ n then 4 else if i < 0 ∨ size < i ∨ ¬ n ≤ size - i then 3 else 0
theorem s_against (d : Nat) (σ : zS) (k s i n : Int32) (hin : vp_in k 4) : z_Fn mX6_against d [.ref 43, .int k, .int s, .int i, .int n] σ (.int (z_ag (σ.1 44 k.toNatClampNeg) s i n (σ.1 45 k.toNatClampNeg))) σ := by
  refine x_enter (by decide) (Nat.le_of_ble_eq_true rfl) ?_
  show z_At _ _ _ [.ref 43, .int k, .int s, .int i, .int n] _ _ _
  unfold z_ag
  refine x_aload0 (pc2 := 1) dX6_against_0 rfl ?_
  refine x_getR (pc2 := 4) fX6_9 sh_43 rfl dX6_against_1 rfl ?_
  refine x_iload1 (pc2 := 5) dX6_against_4 rfl ?_
  refine x_iald (pc2 := 6) sh_44 (by exact hin) dX6_against_5 rfl ?_
  refine x_bipush (v := -9) (pc2 := 8) dX6_against_6 rfl (by decide) ?_
  refine x_icmp_eq (pc2 := 11) (pc3 := 23) dX6_against_8 rfl rfl (fun h8 => ?_) (fun h8 => ?_)
  · skip
    refine x_aload0 (pc2 := 24) dX6_against_23 rfl ?_
    refine x_getR (pc2 := 27) fX6_9 sh_43 rfl dX6_against_24 rfl ?_
    refine x_iload1 (pc2 := 28) dX6_against_27 rfl ?_
    refine x_iald (pc2 := 29) sh_44 (by exact hin) dX6_against_28 rfl ?_
    refine x_bipush (v := -9) (pc2 := 31) dX6_against_29 rfl (by decide) ?_
    refine x_icmp_ne (pc2 := 34) (pc3 := 36) dX6_against_31 rfl rfl (fun h31 => ?_) (fun h31 => ?_)
    · skip
      refine x_iload4 (pc2 := 38) dX6_against_36 rfl ?_
      refine x_if_ge (pc2 := 41) (pc3 := 43) dX6_against_38 rfl rfl (fun h38 => ?_) (fun h38 => ?_)
      · skip
        refine x_iload3 (pc2 := 44) dX6_against_43 rfl ?_
        refine x_if_lt (pc2 := 47) (pc3 := 70) dX6_against_44 rfl rfl (fun h44 => ?_) (fun h44 => ?_)
        · skip
          refine x_iconst (v := 3) (pc2 := 71) dX6_against_70 rfl (by decide) ?_
          refine x_goto (pc2 := 75) dX6_against_71 rfl ?_
          refine x_iret dX6_against_75 rfl ?_
          exact ⟨by first | (simp [z_b, *]; done) | (simp_all [z_b]; done), rfl⟩
        · skip
          refine x_iload3 (pc2 := 48) dX6_against_47 rfl ?_
          refine x_aload0 (pc2 := 49) dX6_against_48 rfl ?_
          refine x_getR (pc2 := 52) fX6_13 sh_43 rfl dX6_against_49 rfl ?_
          refine x_iload1 (pc2 := 53) dX6_against_52 rfl ?_
          refine x_iald (pc2 := 54) sh_45 (by exact hin) dX6_against_53 rfl ?_
          refine x_icmp_gt (pc2 := 57) (pc3 := 70) dX6_against_54 rfl rfl (fun h54 => ?_) (fun h54 => ?_)
          · skip
            refine x_iconst (v := 3) (pc2 := 71) dX6_against_70 rfl (by decide) ?_
            refine x_goto (pc2 := 75) dX6_against_71 rfl ?_
            refine x_iret dX6_against_75 rfl ?_
            exact ⟨by first | (simp [z_b, *]; done) | (simp_all [z_b]; done), rfl⟩
          · skip
            refine x_iload4 (pc2 := 59) dX6_against_57 rfl ?_
            refine x_aload0 (pc2 := 60) dX6_against_59 rfl ?_
            refine x_getR (pc2 := 63) fX6_13 sh_43 rfl dX6_against_60 rfl ?_
            refine x_iload1 (pc2 := 64) dX6_against_63 rfl ?_
            refine x_iald (pc2 := 65) sh_45 (by exact hin) dX6_against_64 rfl ?_
            refine x_iload3 (pc2 := 66) dX6_against_65 rfl ?_
            refine x_isub (pc2 := 67) dX6_against_66 rfl ?_
            refine x_icmp_le (pc2 := 70) (pc3 := 74) dX6_against_67 rfl rfl (fun h67 => ?_) (fun h67 => ?_)
            · skip
              refine x_iconst (v := 0) (pc2 := 75) dX6_against_74 rfl (by decide) ?_
              refine x_iret dX6_against_75 rfl ?_
              exact ⟨by first | (simp [z_b, *]; done) | (simp_all [z_b]; done), rfl⟩
            · skip
              refine x_iconst (v := 3) (pc2 := 71) dX6_against_70 rfl (by decide) ?_
              refine x_goto (pc2 := 75) dX6_against_71 rfl ?_
              refine x_iret dX6_against_75 rfl ?_
              exact ⟨by first | (simp [z_b, *]; done) | (simp_all [z_b]; done), rfl⟩
      · skip
        refine x_iconst (v := 4) (pc2 := 42) dX6_against_41 rfl (by decide) ?_
        refine x_iret dX6_against_42 rfl ?_
        exact ⟨by first | (simp [z_b, *]; done) | (simp_all [z_b]; done), rfl⟩
    · skip
      refine x_iconst (v := 1) (pc2 := 35) dX6_against_34 rfl (by decide) ?_
      refine x_iret dX6_against_35 rfl ?_
      exact ⟨by first | (simp [z_b, *]; done) | (simp_all [z_b]; done), rfl⟩
  · skip
    refine x_aload0 (pc2 := 12) dX6_against_11 rfl ?_
    refine x_getR (pc2 := 15) fX6_9 sh_43 rfl dX6_against_12 rfl ?_
    refine x_iload1 (pc2 := 16) dX6_against_15 rfl ?_
    refine x_iald (pc2 := 17) sh_44 (by exact hin) dX6_against_16 rfl ?_
    refine x_iload2 (pc2 := 18) dX6_against_17 rfl ?_
    refine x_icmp_eq (pc2 := 21) (pc3 := 23) dX6_against_18 rfl rfl (fun h18 => ?_) (fun h18 => ?_)
    · skip
      refine x_aload0 (pc2 := 24) dX6_against_23 rfl ?_
      refine x_getR (pc2 := 27) fX6_9 sh_43 rfl dX6_against_24 rfl ?_
      refine x_iload1 (pc2 := 28) dX6_against_27 rfl ?_
      refine x_iald (pc2 := 29) sh_44 (by exact hin) dX6_against_28 rfl ?_
      refine x_bipush (v := -9) (pc2 := 31) dX6_against_29 rfl (by decide) ?_
      refine x_icmp_ne (pc2 := 34) (pc3 := 36) dX6_against_31 rfl rfl (fun h31 => ?_) (fun h31 => ?_)
      · skip
        refine x_iload4 (pc2 := 38) dX6_against_36 rfl ?_
        refine x_if_ge (pc2 := 41) (pc3 := 43) dX6_against_38 rfl rfl (fun h38 => ?_) (fun h38 => ?_)
        · skip
          refine x_iload3 (pc2 := 44) dX6_against_43 rfl ?_
          refine x_if_lt (pc2 := 47) (pc3 := 70) dX6_against_44 rfl rfl (fun h44 => ?_) (fun h44 => ?_)
          · skip
            refine x_iconst (v := 3) (pc2 := 71) dX6_against_70 rfl (by decide) ?_
            refine x_goto (pc2 := 75) dX6_against_71 rfl ?_
            refine x_iret dX6_against_75 rfl ?_
            exact ⟨by first | (simp [z_b, *]; done) | (simp_all [z_b]; done), rfl⟩
          · skip
            refine x_iload3 (pc2 := 48) dX6_against_47 rfl ?_
            refine x_aload0 (pc2 := 49) dX6_against_48 rfl ?_
            refine x_getR (pc2 := 52) fX6_13 sh_43 rfl dX6_against_49 rfl ?_
            refine x_iload1 (pc2 := 53) dX6_against_52 rfl ?_
            refine x_iald (pc2 := 54) sh_45 (by exact hin) dX6_against_53 rfl ?_
            refine x_icmp_gt (pc2 := 57) (pc3 := 70) dX6_against_54 rfl rfl (fun h54 => ?_) (fun h54 => ?_)
            · skip
              refine x_iconst (v := 3) (pc2 := 71) dX6_against_70 rfl (by decide) ?_
              refine x_goto (pc2 := 75) dX6_against_71 rfl ?_
              refine x_iret dX6_against_75 rfl ?_
              exact ⟨by first | (simp [z_b, *]; done) | (simp_all [z_b]; done), rfl⟩
            · skip
              refine x_iload4 (pc2 := 59) dX6_against_57 rfl ?_
              refine x_aload0 (pc2 := 60) dX6_against_59 rfl ?_
              refine x_getR (pc2 := 63) fX6_13 sh_43 rfl dX6_against_60 rfl ?_
              refine x_iload1 (pc2 := 64) dX6_against_63 rfl ?_
              refine x_iald (pc2 := 65) sh_45 (by exact hin) dX6_against_64 rfl ?_
              refine x_iload3 (pc2 := 66) dX6_against_65 rfl ?_
              refine x_isub (pc2 := 67) dX6_against_66 rfl ?_
              refine x_icmp_le (pc2 := 70) (pc3 := 74) dX6_against_67 rfl rfl (fun h67 => ?_) (fun h67 => ?_)
              · skip
                refine x_iconst (v := 0) (pc2 := 75) dX6_against_74 rfl (by decide) ?_
                refine x_iret dX6_against_75 rfl ?_
                exact ⟨by first | (simp [z_b, *]; done) | (simp_all [z_b]; done), rfl⟩
              · skip
                refine x_iconst (v := 3) (pc2 := 71) dX6_against_70 rfl (by decide) ?_
                refine x_goto (pc2 := 75) dX6_against_71 rfl ?_
                refine x_iret dX6_against_75 rfl ?_
                exact ⟨by first | (simp [z_b, *]; done) | (simp_all [z_b]; done), rfl⟩
        · skip
          refine x_iconst (v := 4) (pc2 := 42) dX6_against_41 rfl (by decide) ?_
          refine x_iret dX6_against_42 rfl ?_
          exact ⟨by first | (simp [z_b, *]; done) | (simp_all [z_b]; done), rfl⟩
      · skip
        refine x_iconst (v := 1) (pc2 := 35) dX6_against_34 rfl (by decide) ?_
        refine x_iret dX6_against_35 rfl ?_
        exact ⟨by first | (simp [z_b, *]; done) | (simp_all [z_b]; done), rfl⟩
    · skip
      refine x_iconst (v := 2) (pc2 := 22) dX6_against_21 rfl (by decide) ?_
      refine x_iret dX6_against_22 rfl ?_
      exact ⟨by first | (simp [z_b, *]; done) | (simp_all [z_b]; done), rfl⟩
theorem z_in_of {k x : Int32} {n : Nat} (h1 : ¬ k < 0) (h2 : ¬ x ≤ k) (h3 : x ≤ nI n) (hn : n < 2 ^ 31 := by decide) : vp_in k n := by
  unfold vp_in
  intro h
  rcases h with h | h
  · exact h1 h
  · have g1 : (0 : Int) ≤ k.toInt := by
      have := Int32.not_lt.mp h1
      simpa [Int32.le_iff_toInt_le] using this
    have g2 : k.toInt < x.toInt := by
      have := Int32.not_le.mp h2
      simpa [Int32.lt_iff_toInt_lt] using this
    have g3 : x.toInt ≤ (n : Int) := by
      have := Int32.le_iff_toInt_le.mp h3
      rw [nI_toInt hn] at this
      exact this
    have g4 : (k.toNatClampNeg : Int) = k.toInt := by
      unfold Int32.toNatClampNeg
      exact Int.toNat_of_nonneg g1
    omega
theorem z_in_b {k x : Int32} {n : Nat} (h : ¬ z_b (z_rng k x) = 0) (h3 : x ≤ nI n) (hn : n < 2 ^ 31 := by decide) : vp_in k n := by
  rw [z_bn0, z_rng, Bool.and_eq_true] at h
  exact z_in_of (by simpa using h.1) (by simpa using h.2) h3 hn
