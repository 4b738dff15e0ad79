/-! Arrays.fill, PortageTrips$Sheet -/
def z_fill (σ : zS) (a n : Nat) (v : Int32) : zS := (z_up σ.1 a (fun j => if j < n then v else σ.1 a j), σ.2)
theorem z_fill_0 (σ : zS) (a : Nat) (v : Int32) : z_fill σ a 0 v = σ := by
  unfold z_fill z_up
  refine Prod.ext ?_ rfl
  funext q
  by_cases h : q = a
  · subst h; simp
  · simp [h]
theorem z_fill_s (σ : zS) (a n : Nat) (v : Int32) : z_st (z_fill σ a n v) a n v = z_fill σ a (n + 1) v := by
  unfold z_fill z_st z_up upd
  refine Prod.ext ?_ rfl
  funext q
  by_cases h : q = a
  · subst h
    simp only [if_true]
    funext j
    by_cases hj : j = n
    · simp [hj]
    · by_cases h2 : j < n
      · simp [hj, h2, Nat.lt_succ_of_lt h2]
      · have : ¬ j < n + 1 := by omega
        simp [hj, h2, this]
  · simp [h]
theorem s_fill (d : Nat) (σ : zS) {a n : Nat} {ks : List (Nat × Nat)} (hs : z_shp a = (1, n, ks)) (hn : n < 2 ^ 31) (v : Int32) : z_Pr mJ7_fill_53178 d [.ref a, .int v] σ (z_fill σ a n v) := by
  refine x_enter (by decide) (Nat.le_of_ble_eq_true rfl) ?_
  show z_At _ _ _ [.ref a, .int v, .null, .null] _ _ _
  refine x_iconst (v := 0) (pc2 := 1) dJ7_fill_53178_0 rfl (by decide) ?_
  refine x_istore2 (pc2 := 2) dJ7_fill_53178_1 rfl rfl ?_
  refine x_aload0 (pc2 := 3) dJ7_fill_53178_2 rfl ?_
  refine x_alen (pc2 := 4) hs dJ7_fill_53178_3 rfl ?_
  refine x_istore3 (pc2 := 5) dJ7_fill_53178_4 rfl rfl ?_
  suffices h : ∀ k t, t + k = n → z_At mJ7_fill_53178 d 5 [.ref a, .int v, .int (nI t), .int (nI n)] [] (z_fill σ a t v) (fun rv σ' => rv = none ∧ σ' = z_fill σ a n v) by
    have := h n 0 (by omega)
    rw [z_fill_0] at this
    exact this
  intro k
  induction k with
  | zero =>
    intro t ht
    refine x_iload2 (pc2 := 6) dJ7_fill_53178_5 rfl ?_
    refine x_iload3 (pc2 := 7) dJ7_fill_53178_6 rfl ?_
    refine x_icmp_ge (pc2 := 10) (pc3 := 20) dJ7_fill_53178_7 rfl rfl (fun h7 => ?_) (fun h7 => ?_)
    · skip
      refine x_vret dJ7_fill_53178_20 rfl ?_
      obtain rfl : t = n := by omega
      exact ⟨rfl, rfl⟩
    · exact absurd (by rw [show t = n by omega]; exact Int32.le_refl _) h7
  | succ k ih =>
    intro t ht
    refine x_iload2 (pc2 := 6) dJ7_fill_53178_5 rfl ?_
    refine x_iload3 (pc2 := 7) dJ7_fill_53178_6 rfl ?_
    refine x_icmp_ge (pc2 := 10) (pc3 := 20) dJ7_fill_53178_7 rfl rfl (fun h7 => ?_) (fun h7 => ?_)
    · exact absurd h7 (nI_ge (by omega) hn)
    · skip
      refine x_aload0 (pc2 := 11) dJ7_fill_53178_10 rfl ?_
      refine x_iload2 (pc2 := 12) dJ7_fill_53178_11 rfl ?_
      refine x_iload1 (pc2 := 13) dJ7_fill_53178_12 rfl ?_
      refine x_iast (pc2 := 14) hs (by exact z_in (by omega) hn) dJ7_fill_53178_13 rfl ?_
      refine x_iinc2 (pc2 := 17) dJ7_fill_53178_14 rfl (z_inc1 _) rfl ?_
      refine x_goto (pc2 := 5) dJ7_fill_53178_17 rfl ?_
      rw [← nI_succ, nI_clamp (by omega), z_fill_s]
      exact ih (t + 1) (by omega)
theorem s_isNothing (d : Nat) (σ : zS) {r : Nat} (hr : z_isS r) : z_Fn mX3_isNothing d [.ref r] σ (.int (z_b (decide (σ.1 r 0 = -9)))) σ := by
  refine x_enter (by decide) (Nat.le_of_ble_eq_true rfl) ?_
  show z_At _ _ _ [.ref r] _ _ _
  refine x_aload0 (pc2 := 1) dX3_isNothing_0 rfl ?_
  refine x_getI (pc2 := 4) fX3_9 (sh_S hr) rfl dX3_isNothing_1 rfl ?_
  refine x_bipush (v := -9) (pc2 := 6) dX3_isNothing_4 rfl (by decide) ?_
  refine x_icmp_ne (pc2 := 9) (pc3 := 13) dX3_isNothing_6 rfl rfl (fun h6 => ?_) (fun h6 => ?_)
  · skip
    refine x_iconst (v := 0) (pc2 := 14) dX3_isNothing_13 rfl (by decide) ?_
    refine x_zret dX3_isNothing_14 rfl (by first | exact z_b01 _ | exact Or.inl rfl | exact Or.inr rfl) ?_
    exact ⟨by first | (simp_all [z_b]; done) | (simp only [z_b0, z_bn0] at *; simp [*]; done) | (simp [z_b, *]; done), rfl⟩
  · skip
    refine x_iconst (v := 1) (pc2 := 10) dX3_isNothing_9 rfl (by decide) ?_
    refine x_goto (pc2 := 14) dX3_isNothing_10 rfl ?_
    refine x_zret dX3_isNothing_14 rfl (by first | exact z_b01 _ | exact Or.inl rfl | exact Or.inr rfl) ?_
    exact ⟨by first | (simp_all [z_b]; done) | (simp only [z_b0, z_bn0] at *; simp [*]; done) | (simp [z_b, *]; done), rfl⟩
def z_fa (lane want : Int32) : Int32 := if lane = -9 then 1 else if lane = want then 0 else 2
theorem s_faultAs (d : Nat) (σ : zS) {r : Nat} (hr : z_isS r) (w : Int32) : z_Fn mX3_faultAs (d + 1) [.ref r, .int w] σ (.int (z_fa (σ.1 r 0) w)) σ := by
  refine x_enter (by decide) (Nat.le_of_ble_eq_true rfl) ?_
  show z_At _ _ _ [.ref r, .int w] _ _ _
  unfold z_fa
  refine x_aload0 (pc2 := 1) dX3_faultAs_0 rfl ?_
  refine x_fV0 (pc2 := 4) eX3_isNothing kX3_28 (sh_S hr) rfl (Nat.le_of_ble_eq_true rfl) dX3_faultAs_1 rfl (s_isNothing _ _ hr) ?_
  refine x_if_eq (pc2 := 7) (pc3 := 9) dX3_faultAs_4 rfl rfl (fun h4 => ?_) (fun h4 => ?_)
  · skip
    refine x_aload0 (pc2 := 10) dX3_faultAs_9 rfl ?_
    refine x_getI (pc2 := 13) fX3_9 (sh_S hr) rfl dX3_faultAs_10 rfl ?_
    refine x_iload1 (pc2 := 14) dX3_faultAs_13 rfl ?_
    refine x_icmp_ne (pc2 := 17) (pc3 := 21) dX3_faultAs_14 rfl rfl (fun h14 => ?_) (fun h14 => ?_)
    · skip
      refine x_iconst (v := 2) (pc2 := 22) dX3_faultAs_21 rfl (by decide) ?_
      refine x_iret dX3_faultAs_22 rfl ?_
      exact ⟨by first | (simp_all [z_b]; done) | (simp only [z_b0, z_bn0] at *; simp [*]; done) | (simp [z_b, *]; done), rfl⟩
    · skip
      refine x_iconst (v := 0) (pc2 := 18) dX3_faultAs_17 rfl (by decide) ?_
      refine x_goto (pc2 := 22) dX3_faultAs_18 rfl ?_
      refine x_iret dX3_faultAs_22 rfl ?_
      exact ⟨by first | (simp_all [z_b]; done) | (simp only [z_b0, z_bn0] at *; simp [*]; done) | (simp [z_b, *]; done), rfl⟩
  · skip
    refine x_iconst (v := 1) (pc2 := 8) dX3_faultAs_7 rfl (by decide) ?_
    refine x_iret dX3_faultAs_8 rfl ?_
    exact ⟨by first | (simp_all [z_b]; done) | (simp only [z_b0, z_bn0] at *; simp [*]; done) | (simp [z_b, *]; done), rfl⟩
theorem s_hasCell (d : Nat) (σ : zS) {r : Nat} (hr : z_isS r) (k : Int32) : z_Fn mX3_hasCell d [.ref r, .int k] σ (.int (z_b (z_rng k (σ.1 r 1)))) σ := by
  refine x_enter (by decide) (Nat.le_of_ble_eq_true rfl) ?_
  show z_At _ _ _ [.ref r, .int k] _ _ _
  unfold z_rng
  refine x_iload1 (pc2 := 1) dX3_hasCell_0 rfl ?_
  refine x_if_lt (pc2 := 4) (pc3 := 16) dX3_hasCell_1 rfl rfl (fun h1 => ?_) (fun h1 => ?_)
  · skip
    refine x_iconst (v := 0) (pc2 := 17) dX3_hasCell_16 rfl (by decide) ?_
    refine x_zret dX3_hasCell_17 rfl (by first | exact z_b01 _ | exact Or.inl rfl | exact Or.inr rfl) ?_
    exact ⟨by first | (simp_all [z_b]; done) | (simp only [z_b0, z_bn0] at *; simp [*]; done) | (simp [z_b, *]; done), rfl⟩
  · skip
    refine x_iload1 (pc2 := 5) dX3_hasCell_4 rfl ?_
    refine x_aload0 (pc2 := 6) dX3_hasCell_5 rfl ?_
    refine x_getI (pc2 := 9) fX3_19 (sh_S hr) rfl dX3_hasCell_6 rfl ?_
    refine x_icmp_ge (pc2 := 12) (pc3 := 16) dX3_hasCell_9 rfl rfl (fun h9 => ?_) (fun h9 => ?_)
    · skip
      refine x_iconst (v := 0) (pc2 := 17) dX3_hasCell_16 rfl (by decide) ?_
      refine x_zret dX3_hasCell_17 rfl (by first | exact z_b01 _ | exact Or.inl rfl | exact Or.inr rfl) ?_
      exact ⟨by first | (simp_all [z_b]; done) | (simp only [z_b0, z_bn0] at *; simp [*]; done) | (simp [z_b, *]; done), rfl⟩
    · skip
      refine x_iconst (v := 1) (pc2 := 13) dX3_hasCell_12 rfl (by decide) ?_
      refine x_goto (pc2 := 17) dX3_hasCell_13 rfl ?_
      refine x_zret dX3_hasCell_17 rfl (by first | exact z_b01 _ | exact Or.inl rfl | exact Or.inr rfl) ?_
      exact ⟨by first | (simp_all [z_b]; done) | (simp only [z_b0, z_bn0] at *; simp [*]; done) | (simp [z_b, *]; done), rfl⟩
def z_hc (i n size : Int32) : Bool := !decide (n < 0) && (!decide (i < 0) && (!decide (size < i) && !decide (size - i < n)))
theorem s_hasCells (d : Nat) (σ : zS) {r : Nat} (hr : z_isS r) (i n : Int32) : z_Fn mX3_hasCells d [.ref r, .int i, .int n] σ (.int (z_b (z_hc i n (σ.1 r 1)))) σ := by
  refine x_enter (by decide) (Nat.le_of_ble_eq_true rfl) ?_
  show z_At _ _ _ [.ref r, .int i, .int n] _ _ _
  unfold z_hc
  refine x_iload2 (pc2 := 1) dX3_hasCells_0 rfl ?_
  refine x_if_lt (pc2 := 4) (pc3 := 30) dX3_hasCells_1 rfl rfl (fun h1 => ?_) (fun h1 => ?_)
  · skip
    refine x_iconst (v := 0) (pc2 := 31) dX3_hasCells_30 rfl (by decide) ?_
    refine x_zret dX3_hasCells_31 rfl (by first | exact z_b01 _ | exact Or.inl rfl | exact Or.inr rfl) ?_
    exact ⟨by first | (simp_all [z_b]; done) | (simp only [z_b0, z_bn0] at *; simp [*]; done) | (simp [z_b, *]; done), rfl⟩
  · skip
    refine x_iload1 (pc2 := 5) dX3_hasCells_4 rfl ?_
    refine x_if_lt (pc2 := 8) (pc3 := 30) dX3_hasCells_5 rfl rfl (fun h5 => ?_) (fun h5 => ?_)
    · skip
      refine x_iconst (v := 0) (pc2 := 31) dX3_hasCells_30 rfl (by decide) ?_
      refine x_zret dX3_hasCells_31 rfl (by first | exact z_b01 _ | exact Or.inl rfl | exact Or.inr rfl) ?_
      exact ⟨by first | (simp_all [z_b]; done) | (simp only [z_b0, z_bn0] at *; simp [*]; done) | (simp [z_b, *]; done), rfl⟩
    · skip
      refine x_iload1 (pc2 := 9) dX3_hasCells_8 rfl ?_
      refine x_aload0 (pc2 := 10) dX3_hasCells_9 rfl ?_
      refine x_getI (pc2 := 13) fX3_19 (sh_S hr) rfl dX3_hasCells_10 rfl ?_
      refine x_icmp_gt (pc2 := 16) (pc3 := 30) dX3_hasCells_13 rfl rfl (fun h13 => ?_) (fun h13 => ?_)
      · skip
        refine x_iconst (v := 0) (pc2 := 31) dX3_hasCells_30 rfl (by decide) ?_
        refine x_zret dX3_hasCells_31 rfl (by first | exact z_b01 _ | exact Or.inl rfl | exact Or.inr rfl) ?_
        exact ⟨by first | (simp_all [z_b]; done) | (simp only [z_b0, z_bn0] at *; simp [*]; done) | (simp [z_b, *]; done), rfl⟩
      · skip
        refine x_iload2 (pc2 := 17) dX3_hasCells_16 rfl ?_
        refine x_aload0 (pc2 := 18) dX3_hasCells_17 rfl ?_
        refine x_getI (pc2 := 21) fX3_19 (sh_S hr) rfl dX3_hasCells_18 rfl ?_
        refine x_iload1 (pc2 := 22) dX3_hasCells_21 rfl ?_
        refine x_isub (pc2 := 23) dX3_hasCells_22 rfl ?_
        refine x_icmp_gt (pc2 := 26) (pc3 := 30) dX3_hasCells_23 rfl rfl (fun h23 => ?_) (fun h23 => ?_)
        · skip
          refine x_iconst (v := 0) (pc2 := 31) dX3_hasCells_30 rfl (by decide) ?_
          refine x_zret dX3_hasCells_31 rfl (by first | exact z_b01 _ | exact Or.inl rfl | exact Or.inr rfl) ?_
          exact ⟨by first | (simp_all [z_b]; done) | (simp only [z_b0, z_bn0] at *; simp [*]; done) | (simp [z_b, *]; done), rfl⟩
        · skip
          refine x_iconst (v := 1) (pc2 := 27) dX3_hasCells_26 rfl (by decide) ?_
          refine x_goto (pc2 := 31) dX3_hasCells_27 rfl ?_
          refine x_zret dX3_hasCells_31 rfl (by first | exact z_b01 _ | exact Or.inl rfl | exact Or.inr rfl) ?_
          exact ⟨by first | (simp_all [z_b]; done) | (simp only [z_b0, z_bn0] at *; simp [*]; done) | (simp [z_b, *]; done), rfl⟩
theorem s_renew (d : Nat) (σ : zS) {r : Nat} (hr : z_isS r) (l n : Int32) : z_Pr mX3_renew (d + 1) [.ref r, .int l, .int n] σ (z_fill (z_st (z_st σ r 0 l) r 1 n) (r + 4) 60 0) := by
  refine x_enter (by decide) (Nat.le_of_ble_eq_true rfl) ?_
  show z_At _ _ _ [.ref r, .int l, .int n] _ _ _
  refine x_aload0 (pc2 := 1) dX3_renew_0 rfl ?_
  refine x_iload1 (pc2 := 2) dX3_renew_1 rfl ?_
  refine x_putI (pc2 := 5) pX3_9 (sh_S hr) rfl dX3_renew_2 rfl ?_
  refine x_aload0 (pc2 := 6) dX3_renew_5 rfl ?_
  refine x_iload2 (pc2 := 7) dX3_renew_6 rfl ?_
  refine x_putI (pc2 := 10) pX3_19 (sh_S hr) rfl dX3_renew_7 rfl ?_
  refine x_aload0 (pc2 := 11) dX3_renew_10 rfl ?_
  refine x_getR (pc2 := 14) fX3_15 (sh_S hr) rfl dX3_renew_11 rfl ?_
  refine x_iconst (v := 0) (pc2 := 15) dX3_renew_14 rfl (by decide) ?_
  refine x_pS2 (pc2 := 18) eJ7_fill_53178 kX3_22 (Nat.le_of_ble_eq_true rfl) dX3_renew_15 rfl (s_fill _ _ (sh_S1 hr) (by decide) _) ?_
  refine x_vret dX3_renew_18 rfl ?_
  exact ⟨rfl, rfl⟩
def z_cut (lane v : Int32) : Int32 := if lane = 0 then v.toInt8.toInt32 else if lane = 1 then v.toInt16.toInt32 else v
theorem s_write (d : Nat) (σ : zS) {r : Nat} (hr : z_isS r) (i v : Int32) (hin : vp_in i 60) : z_Pr mX3_write d [.ref r, .int i, .int v] σ (z_st σ (r + 4) i.toNatClampNeg (z_cut (σ.1 r 0) v)) := by
  refine x_enter (by decide) (Nat.le_of_ble_eq_true rfl) ?_
  show z_At _ _ _ [.ref r, .int i, .int v] _ _ _
  unfold z_cut
  refine x_aload0 (pc2 := 1) dX3_write_0 rfl ?_
  refine x_getI (pc2 := 4) fX3_9 (sh_S hr) rfl dX3_write_1 rfl ?_
  refine x_if_ne (pc2 := 7) (pc3 := 18) dX3_write_4 rfl rfl (fun h4 => ?_) (fun h4 => ?_)
  · skip
    refine x_aload0 (pc2 := 19) dX3_write_18 rfl ?_
    refine x_getI (pc2 := 22) fX3_9 (sh_S hr) rfl dX3_write_19 rfl ?_
    refine x_iconst (v := 1) (pc2 := 23) dX3_write_22 rfl (by decide) ?_
    refine x_icmp_ne (pc2 := 26) (pc3 := 37) dX3_write_23 rfl rfl (fun h23 => ?_) (fun h23 => ?_)
    · skip
      refine x_aload0 (pc2 := 38) dX3_write_37 rfl ?_
      refine x_getR (pc2 := 41) fX3_15 (sh_S hr) rfl dX3_write_38 rfl ?_
      refine x_iload1 (pc2 := 42) dX3_write_41 rfl ?_
      refine x_iload2 (pc2 := 43) dX3_write_42 rfl ?_
      refine x_iast (pc2 := 44) (sh_S1 hr) (by exact hin) dX3_write_43 rfl ?_
      refine x_vret dX3_write_44 rfl ?_
      exact ⟨rfl, by simp [*]⟩
    · skip
      refine x_aload0 (pc2 := 27) dX3_write_26 rfl ?_
      refine x_getR (pc2 := 30) fX3_15 (sh_S hr) rfl dX3_write_27 rfl ?_
      refine x_iload1 (pc2 := 31) dX3_write_30 rfl ?_
      refine x_iload2 (pc2 := 32) dX3_write_31 rfl ?_
      refine x_i2s (pc2 := 33) dX3_write_32 rfl ?_
      refine x_iast (pc2 := 34) (sh_S1 hr) (by exact hin) dX3_write_33 rfl ?_
      refine x_goto (pc2 := 44) dX3_write_34 rfl ?_
      refine x_vret dX3_write_44 rfl ?_
      exact ⟨rfl, by simp [*]⟩
  · skip
    refine x_aload0 (pc2 := 8) dX3_write_7 rfl ?_
    refine x_getR (pc2 := 11) fX3_15 (sh_S hr) rfl dX3_write_8 rfl ?_
    refine x_iload1 (pc2 := 12) dX3_write_11 rfl ?_
    refine x_iload2 (pc2 := 13) dX3_write_12 rfl ?_
    refine x_i2b (pc2 := 14) dX3_write_13 rfl ?_
    refine x_iast (pc2 := 15) (sh_S1 hr) (by exact hin) dX3_write_14 rfl ?_
    refine x_goto (pc2 := 44) dX3_write_15 rfl ?_
    refine x_vret dX3_write_44 rfl ?_
    exact ⟨rfl, by simp [*]⟩
