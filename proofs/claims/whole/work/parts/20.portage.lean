/-! PortageTrips$Portage: reads -/
def z_rng (k x : Int32) : Bool := !decide (k < 0) && !decide (x ≤ k)
def z_wi (v a b : Int32) : Bool := !decide (v < a) && !decide (b < v)
def z_pos (x : Int32) : Bool := !decide (x ≤ 0)
def z_spot (k n : Int32) : Bool := z_pos n && z_wi k 0 n
def z_bit (set t : Int32) : Bool := decide ((set >>> (t &&& 31)) &&& 1 = 1)
theorem s_isIn (d : Nat) (σ : zS) (set t : Int32) : z_Fn mX0_isIn d [.int set, .int t] σ (.int (z_b (z_bit set t))) σ := by
  refine x_enter (by decide) (Nat.le_of_ble_eq_true rfl) ?_
  show z_At _ _ _ [.int set, .int t] _ _ _
  unfold z_bit
  refine x_iload0 (pc2 := 1) dX0_isIn_0 rfl ?_
  refine x_iload1 (pc2 := 2) dX0_isIn_1 rfl ?_
  refine x_ishr (pc2 := 3) dX0_isIn_2 rfl ?_
  refine x_iconst (v := 1) (pc2 := 4) dX0_isIn_3 rfl (by decide) ?_
  refine x_iand (pc2 := 5) dX0_isIn_4 rfl ?_
  refine x_iconst (v := 1) (pc2 := 6) dX0_isIn_5 rfl (by decide) ?_
  refine x_icmp_ne (pc2 := 9) (pc3 := 13) dX0_isIn_6 rfl rfl (fun h6 => ?_) (fun h6 => ?_)
  · skip
    refine x_iconst (v := 0) (pc2 := 14) dX0_isIn_13 rfl (by decide) ?_
    refine x_zret dX0_isIn_14 rfl (by first | exact z_b01 _ | exact Or.inl rfl | exact Or.inr rfl) ?_
    exact ⟨by simp [z_b, *], rfl⟩
  · skip
    refine x_iconst (v := 1) (pc2 := 10) dX0_isIn_9 rfl (by decide) ?_
    refine x_goto (pc2 := 14) dX0_isIn_10 rfl ?_
    refine x_zret dX0_isIn_14 rfl (by first | exact z_b01 _ | exact Or.inl rfl | exact Or.inr rfl) ?_
    exact ⟨by simp [z_b, *], rfl⟩
theorem s_isThere (d : Nat) (σ : zS) {r : Nat} (hr : z_isP r) : z_Fn mX0_isThere d [.ref r] σ (.int (z_b (z_pos (σ.1 r 2)))) σ := by
  refine x_enter (by decide) (Nat.le_of_ble_eq_true rfl) ?_
  show z_At _ _ _ [.ref r] _ _ _
  unfold z_pos
  refine x_aload0 (pc2 := 1) dX0_isThere_0 rfl ?_
  refine x_getI (pc2 := 4) fX0_32 (sh_P hr) rfl dX0_isThere_1 rfl ?_
  refine x_if_le (pc2 := 7) (pc3 := 11) dX0_isThere_4 rfl rfl (fun h4 => ?_) (fun h4 => ?_)
  · skip
    refine x_iconst (v := 0) (pc2 := 12) dX0_isThere_11 rfl (by decide) ?_
    refine x_zret dX0_isThere_12 rfl (by first | exact z_b01 _ | exact Or.inl rfl | exact Or.inr rfl) ?_
    exact ⟨by simp [z_b, *], rfl⟩
  · skip
    refine x_iconst (v := 1) (pc2 := 8) dX0_isThere_7 rfl (by decide) ?_
    refine x_goto (pc2 := 12) dX0_isThere_8 rfl ?_
    refine x_zret dX0_isThere_12 rfl (by first | exact z_b01 _ | exact Or.inl rfl | exact Or.inr rfl) ?_
    exact ⟨by simp [z_b, *], rfl⟩
theorem s_hasStage (d : Nat) (σ : zS) {r : Nat} (hr : z_isP r) (k : Int32) : z_Fn mX0_hasStage d [.ref r, .int k] σ (.int (z_b (z_rng k (σ.1 r 2)))) σ := by
  refine x_enter (by decide) (Nat.le_of_ble_eq_true rfl) ?_
  show z_At _ _ _ [.ref r, .int k] _ _ _
  unfold z_rng
  refine x_iload1 (pc2 := 1) dX0_hasStage_0 rfl ?_
  refine x_if_lt (pc2 := 4) (pc3 := 16) dX0_hasStage_1 rfl rfl (fun h1 => ?_) (fun h1 => ?_)
  · skip
    refine x_iconst (v := 0) (pc2 := 17) dX0_hasStage_16 rfl (by decide) ?_
    refine x_zret dX0_hasStage_17 rfl (by first | exact z_b01 _ | exact Or.inl rfl | exact Or.inr rfl) ?_
    exact ⟨by simp [z_b, *], rfl⟩
  · skip
    refine x_iload1 (pc2 := 5) dX0_hasStage_4 rfl ?_
    refine x_aload0 (pc2 := 6) dX0_hasStage_5 rfl ?_
    refine x_getI (pc2 := 9) fX0_32 (sh_P hr) rfl dX0_hasStage_6 rfl ?_
    refine x_icmp_ge (pc2 := 12) (pc3 := 16) dX0_hasStage_9 rfl rfl (fun h9 => ?_) (fun h9 => ?_)
    · skip
      refine x_iconst (v := 0) (pc2 := 17) dX0_hasStage_16 rfl (by decide) ?_
      refine x_zret dX0_hasStage_17 rfl (by first | exact z_b01 _ | exact Or.inl rfl | exact Or.inr rfl) ?_
      exact ⟨by simp [z_b, *], rfl⟩
    · skip
      refine x_iconst (v := 1) (pc2 := 13) dX0_hasStage_12 rfl (by decide) ?_
      refine x_goto (pc2 := 17) dX0_hasStage_13 rfl ?_
      refine x_zret dX0_hasStage_17 rfl (by first | exact z_b01 _ | exact Or.inl rfl | exact Or.inr rfl) ?_
      exact ⟨by simp [z_b, *], rfl⟩
theorem s_hasSpot (d : Nat) (σ : zS) {r : Nat} (hr : z_isP r) (k : Int32) : z_Fn mX0_hasSpot (d + 1) [.ref r, .int k] σ (.int (z_b (z_spot k (σ.1 r 2)))) σ := by
  refine x_enter (by decide) (Nat.le_of_ble_eq_true rfl) ?_
  show z_At _ _ _ [.ref r, .int k] _ _ _
  unfold z_spot z_wi
  refine x_aload0 (pc2 := 1) dX0_hasSpot_0 rfl ?_
  refine x_fV0 (pc2 := 4) eX0_isThere kX0_35 (sh_P hr) rfl (Nat.le_of_ble_eq_true rfl) dX0_hasSpot_1 rfl (s_isThere _ _ hr) ?_
  refine x_if_eq (pc2 := 7) (pc3 := 23) dX0_hasSpot_4 rfl rfl (fun h4 => ?_) (fun h4 => ?_)
  · skip
    refine x_iconst (v := 0) (pc2 := 24) dX0_hasSpot_23 rfl (by decide) ?_
    refine x_zret dX0_hasSpot_24 rfl (by first | exact z_b01 _ | exact Or.inl rfl | exact Or.inr rfl) ?_
    exact ⟨by simp_all [z_b], rfl⟩
  · skip
    refine x_iload1 (pc2 := 8) dX0_hasSpot_7 rfl ?_
    refine x_if_lt (pc2 := 11) (pc3 := 23) dX0_hasSpot_8 rfl rfl (fun h8 => ?_) (fun h8 => ?_)
    · skip
      refine x_iconst (v := 0) (pc2 := 24) dX0_hasSpot_23 rfl (by decide) ?_
      refine x_zret dX0_hasSpot_24 rfl (by first | exact z_b01 _ | exact Or.inl rfl | exact Or.inr rfl) ?_
      exact ⟨by simp_all [z_b], rfl⟩
    · skip
      refine x_iload1 (pc2 := 12) dX0_hasSpot_11 rfl ?_
      refine x_aload0 (pc2 := 13) dX0_hasSpot_12 rfl ?_
      refine x_getI (pc2 := 16) fX0_32 (sh_P hr) rfl dX0_hasSpot_13 rfl ?_
      refine x_icmp_gt (pc2 := 19) (pc3 := 23) dX0_hasSpot_16 rfl rfl (fun h16 => ?_) (fun h16 => ?_)
      · skip
        refine x_iconst (v := 0) (pc2 := 24) dX0_hasSpot_23 rfl (by decide) ?_
        refine x_zret dX0_hasSpot_24 rfl (by first | exact z_b01 _ | exact Or.inl rfl | exact Or.inr rfl) ?_
        exact ⟨by simp_all [z_b], rfl⟩
      · skip
        refine x_iconst (v := 1) (pc2 := 20) dX0_hasSpot_19 rfl (by decide) ?_
        refine x_goto (pc2 := 24) dX0_hasSpot_20 rfl ?_
        refine x_zret dX0_hasSpot_24 rfl (by first | exact z_b01 _ | exact Or.inl rfl | exact Or.inr rfl) ?_
        exact ⟨by simp_all [z_b], rfl⟩
theorem s_hasThing (d : Nat) (σ : zS) {r : Nat} (hr : z_isP r) (k : Int32) : z_Fn mX0_hasThing d [.ref r, .int k] σ (.int (z_b (z_rng k (σ.1 r 6)))) σ := by
  refine x_enter (by decide) (Nat.le_of_ble_eq_true rfl) ?_
  show z_At _ _ _ [.ref r, .int k] _ _ _
  unfold z_rng
  refine x_iload1 (pc2 := 1) dX0_hasThing_0 rfl ?_
  refine x_if_lt (pc2 := 4) (pc3 := 16) dX0_hasThing_1 rfl rfl (fun h1 => ?_) (fun h1 => ?_)
  · skip
    refine x_iconst (v := 0) (pc2 := 17) dX0_hasThing_16 rfl (by decide) ?_
    refine x_zret dX0_hasThing_17 rfl (by first | exact z_b01 _ | exact Or.inl rfl | exact Or.inr rfl) ?_
    exact ⟨by simp [z_b, *], rfl⟩
  · skip
    refine x_iload1 (pc2 := 5) dX0_hasThing_4 rfl ?_
    refine x_aload0 (pc2 := 6) dX0_hasThing_5 rfl ?_
    refine x_getI (pc2 := 9) fX0_39 (sh_P hr) rfl dX0_hasThing_6 rfl ?_
    refine x_icmp_ge (pc2 := 12) (pc3 := 16) dX0_hasThing_9 rfl rfl (fun h9 => ?_) (fun h9 => ?_)
    · skip
      refine x_iconst (v := 0) (pc2 := 17) dX0_hasThing_16 rfl (by decide) ?_
      refine x_zret dX0_hasThing_17 rfl (by first | exact z_b01 _ | exact Or.inl rfl | exact Or.inr rfl) ?_
      exact ⟨by simp [z_b, *], rfl⟩
    · skip
      refine x_iconst (v := 1) (pc2 := 13) dX0_hasThing_12 rfl (by decide) ?_
      refine x_goto (pc2 := 17) dX0_hasThing_13 rfl ?_
      refine x_zret dX0_hasThing_17 rfl (by first | exact z_b01 _ | exact Or.inl rfl | exact Or.inr rfl) ?_
      exact ⟨by simp [z_b, *], rfl⟩
def z_ushr (x y : Int32) : Int32 := (x.toUInt32 >>> (y.toUInt32 &&& Int32.toUInt32 31)).toInt32
theorem s_hasAllOf (d : Nat) (σ : zS) {r : Nat} (hr : z_isP r) (k : Int32) : z_Fn mX0_hasAllOf d [.ref r, .int k] σ (.int (z_b (decide (z_ushr k (σ.1 r 6) = 0)))) σ := by
  refine x_enter (by decide) (Nat.le_of_ble_eq_true rfl) ?_
  show z_At _ _ _ [.ref r, .int k] _ _ _
  unfold z_ushr
  refine x_iload1 (pc2 := 1) dX0_hasAllOf_0 rfl ?_
  refine x_aload0 (pc2 := 2) dX0_hasAllOf_1 rfl ?_
  refine x_getI (pc2 := 5) fX0_39 (sh_P hr) rfl dX0_hasAllOf_2 rfl ?_
  refine x_iushr (pc2 := 6) dX0_hasAllOf_5 rfl ?_
  refine x_if_ne (pc2 := 9) (pc3 := 13) dX0_hasAllOf_6 rfl rfl (fun h6 => ?_) (fun h6 => ?_)
  · skip
    refine x_iconst (v := 0) (pc2 := 14) dX0_hasAllOf_13 rfl (by decide) ?_
    refine x_zret dX0_hasAllOf_14 rfl (by first | exact z_b01 _ | exact Or.inl rfl | exact Or.inr rfl) ?_
    exact ⟨by simp [z_b, *], rfl⟩
  · skip
    refine x_iconst (v := 1) (pc2 := 10) dX0_hasAllOf_9 rfl (by decide) ?_
    refine x_goto (pc2 := 14) dX0_hasAllOf_10 rfl ?_
    refine x_zret dX0_hasAllOf_14 rfl (by first | exact z_b01 _ | exact Or.inl rfl | exact Or.inr rfl) ?_
    exact ⟨by simp [z_b, *], rfl⟩
def z_well (kind others food : Int32) : Bool := if kind = 1 then !decide (others = 0) else if kind = 2 then !decide (others = 0) && decide (food = 0) else true
theorem s_isWell (d : Nat) (σ : zS) (k o f : Int32) : z_Fn mX0_isWell d [.int k, .int o, .int f] σ (.int (z_b (z_well k o f))) σ := by
  refine x_enter (by decide) (Nat.le_of_ble_eq_true rfl) ?_
  show z_At _ _ _ [.int k, .int o, .int f] _ _ _
  unfold z_well
  refine x_iload0 (pc2 := 1) dX0_isWell_0 rfl ?_
  refine x_lk2 (k1 := 1) (k2 := 2) (p0 := 52) (p1 := 28) (p2 := 38) dX0_isWell_1 (by decide) (by decide) (by decide) rfl rfl rfl (fun h1 => ?_) (fun h1 => ?_) (fun h1_1 h1_2 => ?_)
  · skip
    refine x_iload1 (pc2 := 29) dX0_isWell_28 rfl ?_
    refine x_if_eq (pc2 := 32) (pc3 := 36) dX0_isWell_29 rfl rfl (fun h29 => ?_) (fun h29 => ?_)
    · skip
      refine x_iconst (v := 0) (pc2 := 37) dX0_isWell_36 rfl (by decide) ?_
      refine x_zret dX0_isWell_37 rfl (by first | exact z_b01 _ | exact Or.inl rfl | exact Or.inr rfl) ?_
      exact ⟨by simp_all [z_b], rfl⟩
    · skip
      refine x_iconst (v := 1) (pc2 := 33) dX0_isWell_32 rfl (by decide) ?_
      refine x_goto (pc2 := 37) dX0_isWell_33 rfl ?_
      refine x_zret dX0_isWell_37 rfl (by first | exact z_b01 _ | exact Or.inl rfl | exact Or.inr rfl) ?_
      exact ⟨by simp_all [z_b], rfl⟩
  · skip
    refine x_iload1 (pc2 := 39) dX0_isWell_38 rfl ?_
    refine x_if_eq (pc2 := 42) (pc3 := 50) dX0_isWell_39 rfl rfl (fun h39 => ?_) (fun h39 => ?_)
    · skip
      refine x_iconst (v := 0) (pc2 := 51) dX0_isWell_50 rfl (by decide) ?_
      refine x_zret dX0_isWell_51 rfl (by first | exact z_b01 _ | exact Or.inl rfl | exact Or.inr rfl) ?_
      exact ⟨by simp_all [z_b], rfl⟩
    · skip
      refine x_iload2 (pc2 := 43) dX0_isWell_42 rfl ?_
      refine x_if_ne (pc2 := 46) (pc3 := 50) dX0_isWell_43 rfl rfl (fun h43 => ?_) (fun h43 => ?_)
      · skip
        refine x_iconst (v := 0) (pc2 := 51) dX0_isWell_50 rfl (by decide) ?_
        refine x_zret dX0_isWell_51 rfl (by first | exact z_b01 _ | exact Or.inl rfl | exact Or.inr rfl) ?_
        exact ⟨by simp_all [z_b], rfl⟩
      · skip
        refine x_iconst (v := 1) (pc2 := 47) dX0_isWell_46 rfl (by decide) ?_
        refine x_goto (pc2 := 51) dX0_isWell_47 rfl ?_
        refine x_zret dX0_isWell_51 rfl (by first | exact z_b01 _ | exact Or.inl rfl | exact Or.inr rfl) ?_
        exact ⟨by simp_all [z_b], rfl⟩
  · skip
    refine x_iconst (v := 1) (pc2 := 53) dX0_isWell_52 rfl (by decide) ?_
    refine x_zret dX0_isWell_53 rfl (by first | exact z_b01 _ | exact Or.inl rfl | exact Or.inr rfl) ?_
    exact ⟨by simp_all [z_b], rfl⟩
def z_rains (from_ minute : Int32) : Bool := !decide (from_ = -9) && !decide (minute < from_)
theorem s_rainsIn (d : Nat) (σ : zS) {r : Nat} (hr : z_isP r) (k : Int32) : z_Fn mX0_rainsIn d [.ref r, .int k] σ (.int (z_b (z_rains (σ.1 r 1) k))) σ := by
  refine x_enter (by decide) (Nat.le_of_ble_eq_true rfl) ?_
  show z_At _ _ _ [.ref r, .int k] _ _ _
  unfold z_rains
  refine x_aload0 (pc2 := 1) dX0_rainsIn_0 rfl ?_
  refine x_getI (pc2 := 4) fX0_9 (sh_P hr) rfl dX0_rainsIn_1 rfl ?_
  refine x_bipush (v := -9) (pc2 := 6) dX0_rainsIn_4 rfl (by decide) ?_
  refine x_icmp_eq (pc2 := 9) (pc3 := 21) dX0_rainsIn_6 rfl rfl (fun h6 => ?_) (fun h6 => ?_)
  · skip
    refine x_iconst (v := 0) (pc2 := 22) dX0_rainsIn_21 rfl (by decide) ?_
    refine x_zret dX0_rainsIn_22 rfl (by first | exact z_b01 _ | exact Or.inl rfl | exact Or.inr rfl) ?_
    exact ⟨by simp [z_b, *], rfl⟩
  · skip
    refine x_iload1 (pc2 := 10) dX0_rainsIn_9 rfl ?_
    refine x_aload0 (pc2 := 11) dX0_rainsIn_10 rfl ?_
    refine x_getI (pc2 := 14) fX0_9 (sh_P hr) rfl dX0_rainsIn_11 rfl ?_
    refine x_icmp_lt (pc2 := 17) (pc3 := 21) dX0_rainsIn_14 rfl rfl (fun h14 => ?_) (fun h14 => ?_)
    · skip
      refine x_iconst (v := 0) (pc2 := 22) dX0_rainsIn_21 rfl (by decide) ?_
      refine x_zret dX0_rainsIn_22 rfl (by first | exact z_b01 _ | exact Or.inl rfl | exact Or.inr rfl) ?_
      exact ⟨by simp [z_b, *], rfl⟩
    · skip
      refine x_iconst (v := 1) (pc2 := 18) dX0_rainsIn_17 rfl (by decide) ?_
      refine x_goto (pc2 := 22) dX0_rainsIn_18 rfl ?_
      refine x_zret dX0_rainsIn_22 rfl (by first | exact z_b01 _ | exact Or.inl rfl | exact Or.inr rfl) ?_
      exact ⟨by simp [z_b, *], rfl⟩
def z_mud (boarded mud wet : Int32) : Int32 := if boarded = 0 then (if wet = 0 then mud else 2 * mud) else 0
theorem s_mudUnder (d : Nat) (σ : zS) {r : Nat} (hr : z_isP r) (k w : Int32) (hin : vp_in k 3) : z_Fn mX0_mudUnder d [.ref r, .int k, .int w] σ (.int (z_mud (σ.1 (r + 3) k.toNatClampNeg) (σ.1 (r + 2) k.toNatClampNeg) w)) σ := by
  refine x_enter (by decide) (Nat.le_of_ble_eq_true rfl) ?_
  show z_At _ _ _ [.ref r, .int k, .int w] _ _ _
  unfold z_mud
  refine x_aload0 (pc2 := 1) dX0_mudUnder_0 rfl ?_
  refine x_getR (pc2 := 4) fX0_22 (sh_P hr) rfl dX0_mudUnder_1 rfl ?_
  refine x_iload1 (pc2 := 5) dX0_mudUnder_4 rfl ?_
  refine x_zald (pc2 := 6) (sh_P3 hr) (by exact hin) dX0_mudUnder_5 rfl ?_
  refine x_if_eq (pc2 := 9) (pc3 := 11) dX0_mudUnder_6 rfl rfl (fun h6 => ?_) (fun h6 => ?_)
  · skip
    refine x_iload2 (pc2 := 12) dX0_mudUnder_11 rfl ?_
    refine x_if_eq (pc2 := 15) (pc3 := 26) dX0_mudUnder_12 rfl rfl (fun h12 => ?_) (fun h12 => ?_)
    · skip
      refine x_aload0 (pc2 := 27) dX0_mudUnder_26 rfl ?_
      refine x_getR (pc2 := 30) fX0_19 (sh_P hr) rfl dX0_mudUnder_27 rfl ?_
      refine x_iload1 (pc2 := 31) dX0_mudUnder_30 rfl ?_
      refine x_iald (pc2 := 32) (sh_P2 hr) (by exact hin) dX0_mudUnder_31 rfl ?_
      refine x_iret dX0_mudUnder_32 rfl ?_
      exact ⟨by simp [z_b, *], rfl⟩
    · skip
      refine x_iconst (v := 2) (pc2 := 16) dX0_mudUnder_15 rfl (by decide) ?_
      refine x_aload0 (pc2 := 17) dX0_mudUnder_16 rfl ?_
      refine x_getR (pc2 := 20) fX0_19 (sh_P hr) rfl dX0_mudUnder_17 rfl ?_
      refine x_iload1 (pc2 := 21) dX0_mudUnder_20 rfl ?_
      refine x_iald (pc2 := 22) (sh_P2 hr) (by exact hin) dX0_mudUnder_21 rfl ?_
      refine x_imul (pc2 := 23) dX0_mudUnder_22 rfl ?_
      refine x_goto (pc2 := 32) dX0_mudUnder_23 rfl ?_
      refine x_iret dX0_mudUnder_32 rfl ?_
      exact ⟨by simp [z_b, *], rfl⟩
  · skip
    refine x_iconst (v := 0) (pc2 := 10) dX0_mudUnder_9 rfl (by decide) ?_
    refine x_iret dX0_mudUnder_10 rfl ?_
    exact ⟨by simp [z_b, *], rfl⟩
theorem s_minutesOver (d : Nat) (σ : zS) {r : Nat} (hr : z_isP r) (k ld w : Int32) (hin : vp_in k 3) : z_Fn mX0_minutesOver (d + 1) [.ref r, .int k, .int ld, .int w] σ (.int (if ld = 0 then σ.1 (r + 1) k.toNatClampNeg else σ.1 (r + 1) k.toNatClampNeg + z_mud (σ.1 (r + 3) k.toNatClampNeg) (σ.1 (r + 2) k.toNatClampNeg) w + ld / 3)) σ := by
  refine x_enter (by decide) (Nat.le_of_ble_eq_true rfl) ?_
  show z_At _ _ _ [.ref r, .int k, .int ld, .int w] _ _ _
  refine x_iload2 (pc2 := 1) dX0_minutesOver_0 rfl ?_
  refine x_if_ne (pc2 := 4) (pc3 := 11) dX0_minutesOver_1 rfl rfl (fun h1 => ?_) (fun h1 => ?_)
  · skip
    refine x_aload0 (pc2 := 12) dX0_minutesOver_11 rfl ?_
    refine x_getR (pc2 := 15) fX0_15 (sh_P hr) rfl dX0_minutesOver_12 rfl ?_
    refine x_iload1 (pc2 := 16) dX0_minutesOver_15 rfl ?_
    refine x_iald (pc2 := 17) (sh_P1 hr) (by exact hin) dX0_minutesOver_16 rfl ?_
    refine x_aload0 (pc2 := 18) dX0_minutesOver_17 rfl ?_
    refine x_iload1 (pc2 := 19) dX0_minutesOver_18 rfl ?_
    refine x_iload3 (pc2 := 20) dX0_minutesOver_19 rfl ?_
    refine x_fV2 (pc2 := 23) eX0_mudUnder kX0_82 (sh_P hr) rfl (Nat.le_of_ble_eq_true rfl) dX0_minutesOver_20 rfl (s_mudUnder _ _ hr _ _ hin) ?_
    refine x_iadd (pc2 := 24) dX0_minutesOver_23 rfl ?_
    refine x_iload2 (pc2 := 25) dX0_minutesOver_24 rfl ?_
    refine x_iconst (v := 3) (pc2 := 26) dX0_minutesOver_25 rfl (by decide) ?_
    refine x_idiv (pc2 := 27) dX0_minutesOver_26 rfl (by decide) ?_
    refine x_iadd (pc2 := 28) dX0_minutesOver_27 rfl ?_
    refine x_iret dX0_minutesOver_28 rfl ?_
    exact ⟨by simp [z_b, *], rfl⟩
  · skip
    refine x_aload0 (pc2 := 5) dX0_minutesOver_4 rfl ?_
    refine x_getR (pc2 := 8) fX0_15 (sh_P hr) rfl dX0_minutesOver_5 rfl ?_
    refine x_iload1 (pc2 := 9) dX0_minutesOver_8 rfl ?_
    refine x_iald (pc2 := 10) (sh_P1 hr) (by exact hin) dX0_minutesOver_9 rfl ?_
    refine x_iret dX0_minutesOver_10 rfl ?_
    exact ⟨by simp [z_b, *], rfl⟩
