/-! the class's trips, at, dry -/
theorem z_ck_to {cells : Nat → Int32} {b N K n : Nat} (hN : N ≤ 3) (h : z_ck cells b (nI N) (nI K) n = 0) : ∀ k, k < n → z_to cells b k ≤ N := fun k hk => by
  obtain ⟨v, v1, v2, v3⟩ := z_spot_nat hN (z_ck_ok n h k hk).1
  unfold z_to
  rw [v3]
  exact v1
theorem z_xs_lt (cells : Nat → Int32) (b : Nat) : ∀ k, z_xs cells b k < 16 := fun k => Nat.mod_lt _ (by decide)
theorem z_tC_0 {σ : zS} {sh la i n a : Int32} (h : z_tC σ sh la i n a = 0) : z_pos (σ.1 1 2) = true ∧ z_ck (σ.1 (14 + sh.toNatClampNeg + 4)) i.toNatClampNeg (σ.1 1 2) (σ.1 1 6) n.toNatClampNeg = 0 ∧ ¬ (z_wi la 0 2 = false ∨ n < 0 ∨ 18 < n ∨ a = 0) ∧ z_tF σ sh la i n a = σ := by
  unfold z_tC at h
  by_cases h1 : z_wi sh 0 3 = false
  · rw [if_pos h1] at h; exact absurd h (by decide)
  rw [if_neg h1] at h
  by_cases h2 : z_wi la 0 2 = false ∨ n < 0 ∨ 18 < n ∨ a = 0
  · rw [if_pos h2] at h; exact absurd h (by decide)
  rw [if_neg h2] at h
  by_cases h3 : ¬ z_fa (σ.1 (14 + sh.toNatClampNeg) 0) la = 0
  · rw [if_pos h3] at h
    exfalso
    revert h
    unfold z_fa
    split
    · decide
    · split <;> decide
  rw [if_neg h3] at h
  by_cases h4 : z_hc i (2 * n) (σ.1 (14 + sh.toNatClampNeg) 1) = false
  · rw [if_pos h4] at h; exact absurd h (by decide)
  rw [if_neg h4] at h
  by_cases h5 : z_pos (σ.1 1 2) = false
  · rw [if_pos h5] at h; exact absurd h (by decide)
  rw [if_neg h5] at h
  refine ⟨by simpa using h5, h, h2, ?_⟩
  unfold z_tF
  rw [if_neg h1, if_neg h2, if_neg h3, if_neg h4]
theorem z_tF_or (σ : zS) (sh la i n a : Int32) : (∀ q, q ≠ 0 → (z_tF σ sh la i n a).1 q = σ.1 q) ∧ (∀ j, j ≠ 13 → (z_tF σ sh la i n a).1 0 j = σ.1 0 j) ∧ (z_tF σ sh la i n a).2 = σ.2 := by
  have key : ∀ f, (∀ q, q ≠ 0 → (z_st σ 0 13 f).1 q = σ.1 q) ∧ (∀ j, j ≠ 13 → (z_st σ 0 13 f).1 0 j = σ.1 0 j) ∧ (z_st σ 0 13 f).2 = σ.2 := fun f => ⟨fun q h => z_st_row _ _ _ h, fun j h => z_st_fld _ _ _ h, rfl⟩
  have key0 : (∀ q, q ≠ 0 → σ.1 q = σ.1 q) ∧ (∀ j, j ≠ 13 → σ.1 0 j = σ.1 0 j) ∧ σ.2 = σ.2 := ⟨fun _ _ => rfl, fun _ _ => rfl, rfl⟩
  unfold z_tF
  split
  · exact key0
  · split
    · exact key0
    · split
      · exact key _
      · split
        · exact key _
        · exact key0
/-- what a call that tells trips may change in the class -/
def gFw (σ τ : zS) (f : Int32) : Prop := (∀ q, q ≠ 0 → q ≠ 26 → q ≠ 27 → q ≠ 28 → q ≠ 29 → q ≠ 30 → τ.1 q = σ.1 q) ∧ (∀ j, j ≠ 13 → τ.1 0 j = σ.1 0 j) ∧ τ.1 0 13 = f ∧ τ.1 29 0 = σ.1 29 0 ∧ ∀ q, q ≠ 26 → τ.2 q = σ.2 q
theorem gFt.w {σ τ : zS} {sh la i n a : Int32} (h : gFt (z_tF σ sh la i n a) τ) : gFw σ τ ((z_tF σ sh la i n a).1 0 13) := by
  obtain ⟨k1, k2, k3⟩ := z_tF_or σ sh la i n a
  obtain ⟨h1, h2, h3⟩ := h
  refine ⟨fun q a1 a2 a3 a4 a5 a6 => ?_, fun j hj => ?_, ?_, ?_, fun q hq => ?_⟩
  · rw [h1 q a2 a3 a4, k1 q a1]
  · rw [h1 0 (by decide) (by decide) (by decide), k2 j hj]
  · rw [h1 0 (by decide) (by decide) (by decide)]
  · rw [h1 29 (by decide) (by decide) (by decide), k1 29 (by decide)]
  · rw [h3, k3]
theorem gFw.c {σ τ υ : zS} {f : Int32} (h : gFw σ τ f) (hc : gFc τ υ) : gFw σ υ f := by
  obtain ⟨h1, h2, h3, h4, h5⟩ := h
  obtain ⟨c1, c2, c3, c4⟩ := hc
  refine ⟨fun q a1 a2 a3 a4 a5 a6 => ?_, fun j hj => ?_, ?_, ?_, fun q hq => ?_⟩
  · rw [c1 q a2 a5 a6]; exact h1 q a1 a2 a3 a4 a5 a6
  · rw [c1 0 (by decide) (by decide) (by decide)]; exact h2 j hj
  · rw [c1 0 (by decide) (by decide) (by decide)]; exact h3
  · rw [c4]; exact h4
  · rw [c3 q hq]; exact h5 q hq
theorem gC.w {σ τ : zS} {c : zG} {f : Int32} (h : gC 1 σ c) (hf : gFw σ τ f) : gC 1 τ c := by
  obtain ⟨⟨a1, a2, a3⟩, ⟨b1, b2⟩, ⟨c1, c2, c3⟩, d1, e1⟩ := h
  have key : ∀ q, 1 ≤ q → q < 7 → τ.1 q = σ.1 q := fun q h1 h2 => hf.1 q (by omega) (by omega) (by omega) (by omega) (by omega) (by omega)
  exact ⟨⟨by rw [key 1 (by decide) (by decide)]; exact a1, by rw [key 1 (by decide) (by decide)]; exact a2, a3⟩, ⟨by rw [key (1 + 4) (by decide) (by decide)]; exact b1, by rw [key (1 + 5) (by decide) (by decide)]; exact b2⟩, ⟨by rw [key (1 + 1) (by decide) (by decide)]; exact c1, by rw [key (1 + 2) (by decide) (by decide)]; exact c2, by rw [key (1 + 3) (by decide) (by decide)]; exact c3⟩, by rw [key 1 (by decide) (by decide)]; exact d1, by rw [key 1 (by decide) (by decide)]; exact e1⟩
theorem wR_none {o : Option Nat} (h : ∀ k, o = some k → k < 2 ^ 31) : wR o = -9 ↔ o = none := by
  cases o with
  | none => simp [wR]
  | some k =>
    simp only [wR, reduceCtorEq, iff_false]
    intro q
    have := nI_pos (n := k) (h k rfl)
    rw [q] at this
    exact this (by decide)
theorem wW_lt {c : zG} {to x : Nat → Nat} : ∀ n k, wW c to x n = some k → k < n
  | 0, k, h => by cases h
  | n + 1, k, h => by
    rw [wW] at h
    cases e : wW c to x n with
    | some k' => rw [e] at h; cases h; have := wW_lt n k e; omega
    | none =>
      rw [e] at h
      by_cases e2 : wOk c to x n = true
      · simp [e2] at h
      · simp [e2] at h; omega
def z_trO (c : zG) (n : Nat) (to x : Nat → Nat) (w : Int32) : Int32 :=
  if w = 1 then wR (wW c to x n) else match wW c to x n with
  | some k => -100 - nI k
  | none => if w = 0 then nI (wT c to x n) else if w = 2 then nI (wS to x n % 4) else if z_spot (w - 10) (nI (cN c)) = false then -9 else nI (gH (cM c) (wS to x n) (w - 10).toNatClampNeg (cK c))
theorem s_minutes (d : Nat) {σ : zS} {n : Nat} (hn : σ.1 26 0 = nI n) (h18 : n ≤ 18) : z_Fn mX4_minutes d [.ref 26] σ (.int (σ.1 29 n)) σ := by
  refine x_enter (by decide) (Nat.le_of_ble_eq_true rfl) ?_
  show z_At _ _ _ [.ref 26] _ _ _
  refine x_aload0 (pc2 := 1) dX4_minutes_0 rfl ?_
  refine x_getR (pc2 := 4) fX4_18 sh_26 rfl dX4_minutes_1 rfl ?_
  refine x_aload0 (pc2 := 5) dX4_minutes_4 rfl ?_
  refine x_getI (pc2 := 8) fX4_35 sh_26 rfl dX4_minutes_5 rfl ?_
  rw [hn]
  refine x_iald (pc2 := 9) sh_29 (by exact z_in (by omega)) dX4_minutes_8 rfl ?_
  refine x_iret dX4_minutes_9 rfl ?_
  rw [nI_clamp (by omega)]
  exact ⟨rfl, rfl⟩
theorem s_thingsAtC (d : Nat) {σ : zS} {v : Nat} (h4 : v < 4) : z_Fn mX4_thingsAt d [.ref 26, .int (nI v)] σ (.int (σ.1 30 v)) σ := by
  refine x_enter (by decide) (Nat.le_of_ble_eq_true rfl) ?_
  show z_At _ _ _ [.ref 26, .int (nI v)] _ _ _
  refine x_aload0 (pc2 := 1) dX4_thingsAt_0 rfl ?_
  refine x_getR (pc2 := 4) fX4_21 sh_26 rfl dX4_thingsAt_1 rfl ?_
  refine x_iload1 (pc2 := 5) dX4_thingsAt_4 rfl ?_
  refine x_iald (pc2 := 6) sh_30 (by exact z_in (by omega)) dX4_thingsAt_5 rfl ?_
  refine x_iret dX4_thingsAt_6 rfl ?_
  rw [nI_clamp (by omega)]
  exact ⟨rfl, rfl⟩
theorem s_tripsC (d : Nat) (σ σ0 : zS) (hσ : σ0 = z_f0 σ) (sh la i n w : Int32) {N K : Nat} (hN : σ0.1 1 2 = nI N) (hN3 : N ≤ 3) (hK : σ0.1 1 6 = nI K) (hK4 : K ≤ 4) (hz : vp_in sh 4 → ∃ z : Nat, σ0.1 (14 + sh.toNatClampNeg) 1 = nI z ∧ z ≤ 60) {c : zG} (hcf : 1 ≤ N → gWf c ∧ gC 1 σ0 c) (hb0 : σ0.1 29 0 = 0) (a : Int32) (ha : a = z_b (z_wi w 0 2 || z_wi w 10 13)) : z_Ex mX5_trips (d + 4) [.ref 0, .int sh, .int la, .int i, .int n, .int w] σ (fun rv τ => rv = some (.int (if z_tC σ0 sh la i n a = 0 then z_trO c n.toNatClampNeg (z_to (σ0.1 (14 + sh.toNatClampNeg + 4)) i.toNatClampNeg) (z_xs (σ0.1 (14 + sh.toNatClampNeg + 4)) i.toNatClampNeg) w else z_tC σ0 sh la i n a)) ∧ gFw σ0 τ ((z_tF σ0 sh la i n a).1 0 13)) := by
  refine x_enter (by decide) (Nat.le_of_ble_eq_true rfl) ?_
  show z_At _ _ _ [.ref 0, .int sh, .int la, .int i, .int n, .int w, .null, .null, .null] _ _ _
  refine x_aload0 (pc2 := 1) dX5_trips_0 rfl ?_
  refine x_iconst (v := 0) (pc2 := 2) dX5_trips_1 rfl (by decide) ?_
  refine x_putI (pc2 := 5) pX5_53 sh_0 rfl dX5_trips_2 rfl ?_
  rw [show z_st σ 0 13 0 = σ0 from hσ.symm]
  clear hσ
  suffices hgo : z_At mX5_trips (d + 4) 35 [.ref 0, .int sh, .int la, .int i, .int n, .int w, .null, .null, .null] [.int a] σ0 (fun rv τ => rv = some (.int (if z_tC σ0 sh la i n a = 0 then z_trO c n.toNatClampNeg (z_to (σ0.1 (14 + sh.toNatClampNeg + 4)) i.toNatClampNeg) (z_xs (σ0.1 (14 + sh.toNatClampNeg + 4)) i.toNatClampNeg) w else z_tC σ0 sh la i n a)) ∧ gFw σ0 τ ((z_tF σ0 sh la i n a).1 0 13)) by
    unfold z_wi at ha
    have hy : z_At mX5_trips (d + 4) 30 [.ref 0, .int sh, .int la, .int i, .int n, .int w, .null, .null, .null] [] σ0 (fun rv τ => rv = some (.int (if z_tC σ0 sh la i n a = 0 then z_trO c n.toNatClampNeg (z_to (σ0.1 (14 + sh.toNatClampNeg + 4)) i.toNatClampNeg) (z_xs (σ0.1 (14 + sh.toNatClampNeg + 4)) i.toNatClampNeg) w else z_tC σ0 sh la i n a)) ∧ gFw σ0 τ ((z_tF σ0 sh la i n a).1 0 13)) ∨ a = 0 := by
      by_cases e : a = 0
      · exact Or.inr e
      · left
        have e1 : a = 1 := by rcases z_b01 (!decide (w < 0) && !decide (2 < w) || !decide (w < 10) && !decide (13 < w)) with q | q <;> rw [← ha] at q <;> first | exact absurd q e | exact q
        rw [e1] at hgo
        refine x_iconst (v := 1) (pc2 := 31) dX5_trips_30 rfl (by decide) ?_
        refine x_goto (pc2 := 35) dX5_trips_31 rfl ?_
        rw [e1]
        exact hgo
    have hn : a = 0 → z_At mX5_trips (d + 4) 34 [.ref 0, .int sh, .int la, .int i, .int n, .int w, .null, .null, .null] [] σ0 (fun rv τ => rv = some (.int (if z_tC σ0 sh la i n a = 0 then z_trO c n.toNatClampNeg (z_to (σ0.1 (14 + sh.toNatClampNeg + 4)) i.toNatClampNeg) (z_xs (σ0.1 (14 + sh.toNatClampNeg + 4)) i.toNatClampNeg) w else z_tC σ0 sh la i n a)) ∧ gFw σ0 τ ((z_tF σ0 sh la i n a).1 0 13)) := by
      intro e
      rw [e] at hgo ⊢
      refine x_iconst (v := 0) (pc2 := 35) dX5_trips_34 rfl (by decide) ?_
      exact hgo
    have hyes : (w < 0 → False) ∧ (2 < w → False) ∨ (w < 10 → False) ∧ (13 < w → False) → a ≠ 0 := by
      intro q e
      rw [e] at ha
      have := z_b0.mp ha.symm
      rcases q with ⟨q1, q2⟩ | ⟨q1, q2⟩ <;> simp [decide_eq_false q1, decide_eq_false q2] at this
    have h2le : ∀ {p : Int32}, ¬ w ≤ p → p < w := fun h => Int32.not_le.mp h
    refine x_iload5 (pc2 := 7) dX5_trips_5 rfl ?_
    refine x_if_lt (pc2 := 10) (pc3 := 16) dX5_trips_7 rfl rfl (fun h7 => ?_) (fun h7 => ?_)
    · skip
      refine x_iload5 (pc2 := 18) dX5_trips_16 rfl ?_
      refine x_bipush (v := 10) (pc2 := 20) dX5_trips_18 rfl (by decide) ?_
      refine x_icmp_lt (pc2 := 23) (pc3 := 34) dX5_trips_20 rfl rfl (fun h20 => ?_) (fun h20 => ?_)
      · exact hn (by rw [ha]; simp [h7, h20, z_b])
      · skip
        refine x_iload5 (pc2 := 25) dX5_trips_23 rfl ?_
        refine x_bipush (v := 13) (pc2 := 27) dX5_trips_25 rfl (by decide) ?_
        refine x_icmp_gt (pc2 := 30) (pc3 := 34) dX5_trips_27 rfl rfl (fun h27 => ?_) (fun h27 => ?_)
        · exact hn (by rw [ha]; simp [h7, h27, z_b])
        · exact hy.resolve_right (hyes (Or.inr ⟨h20, h27⟩))
    · skip
      refine x_iload5 (pc2 := 12) dX5_trips_10 rfl ?_
      refine x_iconst (v := 2) (pc2 := 13) dX5_trips_12 rfl (by decide) ?_
      refine x_icmp_le (pc2 := 16) (pc3 := 30) dX5_trips_13 rfl rfl (fun h13 => ?_) (fun h13 => ?_)
      · exact hy.resolve_right (hyes (Or.inl ⟨h7, fun q => absurd h13 (Int32.not_le.mpr q)⟩))
      · skip
        refine x_iload5 (pc2 := 18) dX5_trips_16 rfl ?_
        refine x_bipush (v := 10) (pc2 := 20) dX5_trips_18 rfl (by decide) ?_
        refine x_icmp_lt (pc2 := 23) (pc3 := 34) dX5_trips_20 rfl rfl (fun h20 => ?_) (fun h20 => ?_)
        · exact hn (by rw [ha]; simp [h2le h13, h20, z_b])
        · skip
          refine x_iload5 (pc2 := 25) dX5_trips_23 rfl ?_
          refine x_bipush (v := 13) (pc2 := 27) dX5_trips_25 rfl (by decide) ?_
          refine x_icmp_gt (pc2 := 30) (pc3 := 34) dX5_trips_27 rfl rfl (fun h27 => ?_) (fun h27 => ?_)
          · exact hn (by rw [ha]; simp [h2le h13, h27, z_b])
          · exact hy.resolve_right (hyes (Or.inr ⟨h20, h27⟩))
  refine x_istore6 (pc2 := 37) dX5_trips_35 rfl rfl ?_
  refine x_aload0 (pc2 := 38) dX5_trips_37 rfl ?_
  refine x_iload1 (pc2 := 39) dX5_trips_38 rfl ?_
  refine x_iload2 (pc2 := 40) dX5_trips_39 rfl ?_
  refine x_iload3 (pc2 := 41) dX5_trips_40 rfl ?_
  refine x_iload4 (pc2 := 43) dX5_trips_41 rfl ?_
  refine x_iload6 (pc2 := 45) dX5_trips_43 rfl ?_
  refine x_cV5 eX5_takeTrips kX5_130 sh_0 rfl (Nat.le_of_ble_eq_true rfl) dX5_trips_45 ?_
  refine (s_takeTrips (d + 1) sh la i n a hN hN3 hK hK4 hz).mono ?_
  rintro rv τ ⟨rfl, hF, hT⟩
  show z_At _ _ 48 _ [.int _] _ _
  refine x_istore7 (pc2 := 50) dX5_trips_48 rfl rfl ?_
  refine x_iload7 (pc2 := 52) dX5_trips_50 rfl ?_
  refine x_if_eq (pc2 := 55) (pc3 := 58) dX5_trips_52 rfl rfl (fun h52 => ?_) (fun h52 => ?_)
  rotate_left
  · skip
    refine x_iload7 (pc2 := 57) dX5_trips_55 rfl ?_
    refine x_iret dX5_trips_57 rfl ?_
    rw [if_neg h52]
    exact ⟨rfl, hF.w⟩
  have hT := hT h52
  obtain ⟨g1, g2, g3, g4⟩ := z_tC_0 h52
  rw [if_pos h52]
  have hN1 : 1 ≤ N := by
    rw [hN] at g1
    unfold z_pos at g1
    rcases Nat.eq_zero_or_pos N with q | q
    · subst q; exact absurd g1 (by decide)
    · exact q
  obtain ⟨hc, hC⟩ := hcf hN1
  have hcN : cN c = N := nI_inj (by have := hc.2.1; omega) (by omega) (by rw [← hC.1.2.1, hN])
  rw [hN, hK] at g2
  have hF1 := hF.w
  have hC1 : gC 1 τ c := hC.w hF1
  have hb1 : τ.1 29 0 = 0 := by rw [hF1.2.2.2.1]; exact hb0
  have hvN := z_ck_to hN3 g2
  have hxs := z_xs_lt (σ0.1 (14 + sh.toNatClampNeg + 4)) i.toNatClampNeg
  generalize z_to (σ0.1 (14 + sh.toNatClampNeg + 4)) i.toNatClampNeg = to at *
  generalize z_xs (σ0.1 (14 + sh.toNatClampNeg + 4)) i.toNatClampNeg = x at *
  generalize n.toNatClampNeg = n' at *
  have h18 := hT.2.1
  refine x_aload0 (pc2 := 59) dX5_trips_58 rfl ?_
  refine x_getR (pc2 := 62) fX5_37 sh_0 rfl dX5_trips_59 rfl ?_
  refine x_aload0 (pc2 := 63) dX5_trips_62 rfl ?_
  refine x_getR (pc2 := 66) fX5_12 sh_0 rfl dX5_trips_63 rfl ?_
  refine x_cV1 eX4_go kX5_134 sh_26 rfl (Nat.le_of_ble_eq_true rfl) dX5_trips_66 ?_
  refine (s_goC d z_P1 hc hC1 hT hxs (fun k hk => by rw [hcN]; exact hvN k hk) hb1).mono ?_
  rintro rv υ ⟨rfl, hFc, hwr, hJ⟩
  show z_At _ _ 69 _ [] _ _
  have hF2 := hF1.c hFc
  unfold z_trO
  refine x_iload5 (pc2 := 71) dX5_trips_69 rfl ?_
  refine x_iconst (v := 1) (pc2 := 72) dX5_trips_71 rfl (by decide) ?_
  refine x_icmp_ne (pc2 := 75) (pc3 := 83) dX5_trips_72 rfl rfl (fun h72 => ?_) (fun h72 => ?_)
  rotate_left
  · skip
    refine x_aload0 (pc2 := 76) dX5_trips_75 rfl ?_
    refine x_getR (pc2 := 79) fX5_37 sh_0 rfl dX5_trips_76 rfl ?_
    refine x_getI (pc2 := 82) fX5_137 sh_26 rfl dX5_trips_79 rfl ?_
    refine x_iret dX5_trips_82 rfl ?_
    rw [if_pos h72, hwr]
    exact ⟨rfl, hF2⟩
  rw [if_neg h72]
  refine x_aload0 (pc2 := 84) dX5_trips_83 rfl ?_
  refine x_getR (pc2 := 87) fX5_37 sh_0 rfl dX5_trips_84 rfl ?_
  refine x_getI (pc2 := 90) fX5_137 sh_26 rfl dX5_trips_87 rfl ?_
  refine x_bipush (v := -9) (pc2 := 92) dX5_trips_90 rfl (by decide) ?_
  rw [hwr]
  refine x_icmp_eq (pc2 := 95) (pc3 := 106) dX5_trips_92 rfl rfl (fun h92 => ?_) (fun h92 => ?_)
  rotate_left
  · rw [wR_none (fun k hk => by have := wW_lt _ _ hk; omega)] at h92
    refine x_bipush (v := -100) (pc2 := 97) dX5_trips_95 rfl (by decide) ?_
    refine x_aload0 (pc2 := 98) dX5_trips_97 rfl ?_
    refine x_getR (pc2 := 101) fX5_37 sh_0 rfl dX5_trips_98 rfl ?_
    refine x_getI (pc2 := 104) fX5_137 sh_26 rfl dX5_trips_101 rfl ?_
    refine x_isub (pc2 := 105) dX5_trips_104 rfl ?_
    refine x_iret dX5_trips_105 rfl ?_
    rw [hwr]
    cases e : wW c to x n' with
    | none => exact absurd e h92
    | some k => exact ⟨rfl, hF2⟩
  rw [wR_none (fun k hk => by have := wW_lt _ _ hk; omega)] at h92
  obtain ⟨hJ, -⟩ := hJ h92
  rw [h92]
  have hTu := hT.of hFc
  refine x_iload5 (pc2 := 108) dX5_trips_106 rfl ?_
  refine x_if_ne (pc2 := 111) (pc3 := 119) dX5_trips_108 rfl rfl (fun h108 => ?_) (fun h108 => ?_)
  rotate_left
  · skip
    refine x_aload0 (pc2 := 112) dX5_trips_111 rfl ?_
    refine x_getR (pc2 := 115) fX5_37 sh_0 rfl dX5_trips_112 rfl ?_
    refine x_fV0 (pc2 := 118) eX4_minutes kX5_140 sh_26 rfl (Nat.le_of_ble_eq_true rfl) dX5_trips_115 rfl (s_minutes _ hTu.1 h18) ?_
    rw [hJ.2.2.2 n' (Nat.le_refl _)]
    refine x_iret dX5_trips_118 rfl ?_
    exact ⟨by simp only [if_pos h108], hF2⟩
  refine x_iload5 (pc2 := 121) dX5_trips_119 rfl ?_
  refine x_iconst (v := 2) (pc2 := 122) dX5_trips_121 rfl (by decide) ?_
  refine x_icmp_ne (pc2 := 125) (pc3 := 133) dX5_trips_122 rfl rfl (fun h122 => ?_) (fun h122 => ?_)
  rotate_left
  · skip
    refine x_aload0 (pc2 := 126) dX5_trips_125 rfl ?_
    refine x_getR (pc2 := 129) fX5_37 sh_0 rfl dX5_trips_126 rfl ?_
    refine x_getI (pc2 := 132) fX5_144 sh_26 rfl dX5_trips_129 rfl ?_
    rw [hJ.2.1.1]
    refine x_iret dX5_trips_132 rfl ?_
    exact ⟨by simp only [if_neg h108, if_pos h122], hF2⟩
  refine x_iload5 (pc2 := 135) dX5_trips_133 rfl ?_
  refine x_bipush (v := 10) (pc2 := 137) dX5_trips_135 rfl (by decide) ?_
  refine x_isub (pc2 := 138) dX5_trips_137 rfl ?_
  refine x_istore8 (pc2 := 140) dX5_trips_138 rfl rfl ?_
  refine x_aload0 (pc2 := 141) dX5_trips_140 rfl ?_
  refine x_getR (pc2 := 144) fX5_12 sh_0 rfl dX5_trips_141 rfl ?_
  refine x_iload8 (pc2 := 146) dX5_trips_144 rfl ?_
  refine x_fV1 (pc2 := 149) eX0_hasSpot kX5_147 sh_1 rfl (Nat.le_of_ble_eq_true rfl) dX5_trips_146 rfl (s_hasSpot _ _ z_P1 _) ?_
  rw [(hC1.of z_P1 hFc).1.2.1]
  refine x_if_eq (pc2 := 152) (pc3 := 164) dX5_trips_149 rfl rfl (fun h149 => ?_) (fun h149 => ?_)
  · have h149' := z_b0.mp h149
    refine x_bipush (v := -9) (pc2 := 166) dX5_trips_164 rfl (by decide) ?_
    refine x_iret dX5_trips_166 rfl ?_
    exact ⟨by simp only [if_neg h108, if_neg h122, if_pos h149'], hF2⟩
  · have h149' := z_bn0.mp h149
    obtain ⟨v, v1, v2, v3⟩ := z_spot_nat hc.2.1.1 h149'
    have hv4 : v < 4 := by have := hc.2.1; omega
    have h149'' : ¬ z_spot (nI v) (nI (cN c)) = false := by rw [← v2, h149']; decide
    rw [v3, v2]
    refine x_aload0 (pc2 := 153) dX5_trips_152 rfl ?_
    refine x_getR (pc2 := 156) fX5_37 sh_0 rfl dX5_trips_153 rfl ?_
    refine x_iload8 (pc2 := 158) dX5_trips_156 rfl ?_
    refine x_fV1 (pc2 := 161) eX4_thingsAt kX5_150 sh_26 rfl (Nat.le_of_ble_eq_true rfl) dX5_trips_158 rfl (s_thingsAtC _ hv4) ?_
    rw [hJ.2.2.1 v hv4]
    refine x_goto (pc2 := 166) dX5_trips_161 rfl ?_
    refine x_iret dX5_trips_166 rfl ?_
    exact ⟨by simp only [if_neg h108, if_neg h122, if_neg h149''], hF2⟩
