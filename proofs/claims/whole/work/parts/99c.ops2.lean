/-! reading, back, tell, hail, as -/
theorem iN_mk {σ : zS} {a : zI} (hC : iC σ a) (hM : iM σ a) (ho : aOk a) : iN σ := ⟨a, ho, hC, hM⟩
theorem iM.same {σ τ : zS} {a : zI} (h : iM σ a) (hr : ∀ q, 43 ≤ q → τ.1 q = σ.1 q) : iM τ a := h.of (fun j _ => by rw [hr 43 (by decide)]) (fun q hq => hr q (by omega))
theorem iC.same {σ τ : zS} {a : zI} (h : iC σ a) (hr : ∀ q, q < 43 → τ.1 q = σ.1 q) : iC τ a := h.of (fun j _ => by rw [hr 0 (by decide)]) (fun q hq => hr q (by omega)) (by rw [hr 29 (by decide)])
theorem gRd.add {σ : zS} {a0 a1 a2 q : Nat} {rt rm : Nat → Nat} {rs : Nat → Int32} (h : gRd σ a0 a1 a2 q rt rm rs) (hq : q < 8) (h01 : a0 ≠ a1) (h02 : a0 ≠ a2) (h12 : a1 ≠ a2) {t m : Nat} (ht : t < 4) (hm : m < 2 ^ 31) (s : Int32) : gRd (z_rd σ a0 a1 a2 (nI q) (nI t) s (nI m)) a0 a1 a2 (q + 1) (pU rt q t) (pU rm q m) (upd rs q s) := by
  refine ⟨by omega, fun k hk => ?_⟩
  unfold z_rd
  rw [nI_clamp (by omega), z_st_row _ _ _ h02, z_st_row _ _ _ h01, z_st_row _ _ _ h12]
  unfold pU upd
  by_cases e : k = q
  · subst e
    rw [if_pos rfl, if_pos rfl, if_pos rfl, z_st_at, z_st_at, z_st_at]
    exact ⟨rfl, ht, rfl, rfl, hm⟩
  · rw [if_neg e, if_neg e, if_neg e, z_st_fld _ _ _ e, z_st_fld _ _ _ e, z_st_fld _ _ _ e, z_st_row _ _ _ (Ne.symm h01), z_st_row _ _ _ (Ne.symm h12), z_st_row _ _ _ (Ne.symm h02)]
    exact h.2 k (by omega)
theorem gRd.le {σ : zS} {a0 a1 a2 q q' : Nat} {rt rm : Nat → Nat} {rs : Nat → Int32} (h : gRd σ a0 a1 a2 q rt rm rs) (hq : q' ≤ q) : gRd σ a0 a1 a2 q' rt rm rs := ⟨by have := h.1; omega, fun k hk => h.2 k (by omega)⟩
theorem iC.rdg {σ τ : zS} {a : zI} {q : Nat} {rt rm : Nat → Nat} {rs : Nat → Int32} (h : iC σ a) (hr : ∀ p, p < 43 → p < 22 ∨ 25 < p → τ.1 p = σ.1 p) (hq : τ.1 22 0 = nI q) (hR : gRd τ 23 24 25 q rt rm rs) : iC τ (aSR a q rt rm rs) := by
  obtain ⟨⟨a1, a2⟩, ⟨b1, b2⟩, c1, -, e1, f1⟩ := h
  refine ⟨⟨by rw [hr 0 (by decide) (by omega)]; exact a1, by rw [hr 0 (by decide) (by omega)]; exact a2⟩, ⟨?_, fun j hj => by rw [hr 4 (by decide) (by omega)]; exact b2 j hj⟩, fun k hk => ?_, ⟨hq, hR⟩, by rw [hr 29 (by decide) (by omega)]; exact e1, fun hN => ?_⟩
  · show gC 1 τ (aG a)
    unfold gC
    rw [hr 1 (by omega) (by omega), hr (1 + 1) (by omega) (by omega), hr (1 + 2) (by omega) (by omega), hr (1 + 3) (by omega) (by omega), hr (1 + 4) (by omega) (by omega), hr (1 + 5) (by omega) (by omega)]
    exact b1
  · rw [hr (14 + k) (by omega) (by omega), hr (14 + k + 4) (by omega) (by omega)]
    exact c1 k hk
  · have := f1 hN
    show gCh τ (aG a) ∧ gCf τ (aG a)
    unfold gCh gCf
    rw [hr 0 (by decide) (by omega), hr 42 (by decide) (by omega)]
    exact this
theorem iM.rdg {σ τ : zS} {a : zI} {q : Nat} {rt rm : Nat → Nat} {rs : Nat → Int32} (h : iM σ a) (h0 : ∀ j, j ≠ 34 → τ.1 43 j = σ.1 43 j) (hr : ∀ p, 44 ≤ p → p < 60 → τ.1 p = σ.1 p) (hq : τ.1 43 34 = nI q) (hR : gRd τ 60 61 62 q rt rm rs) : iM τ (aSR a q rt rm rs) := by
  obtain ⟨⟨a1, a2⟩, ⟨c', b1, b2⟩, c1, -⟩ := h
  refine ⟨⟨by rw [h0 0 (by decide)]; exact a1, by rw [h0 1 (by decide)]; exact a2⟩, ⟨c', ?_, b2⟩, fun k hk => ?_, ⟨hq, hR⟩⟩
  · unfold gM
    rw [h0 7 (by decide), h0 6 (by decide), h0 14 (by decide), h0 5 (by decide), h0 8 (by decide), hr 50 (by decide) (by decide), hr 51 (by decide) (by decide), hr 47 (by decide) (by decide), hr 48 (by decide) (by decide), hr 49 (by decide) (by decide)]
    exact b1
  · rw [hr 44 (by decide) (by decide), hr 45 (by decide) (by decide), hr 46 (by decide) (by decide)]
    exact c1 k hk
theorem z_rd_row (σ : zS) {a0 a1 a2 q : Nat} (c t s m : Int32) (h0 : q ≠ a0) (h1 : q ≠ a1) (h2 : q ≠ a2) : (z_rd σ a0 a1 a2 c t s m).1 q = σ.1 q := by
  unfold z_rd
  rw [z_st_row _ _ _ h2, z_st_row _ _ _ h1, z_st_row _ _ _ h0]
theorem i_reading {σ : zS} (h : iN σ) (t s m : Int32) : iOp false mX5_reading mX6_reading 7 7 [.ref 0, .int t, .int s, .int m] [.ref 43, .int t, .int s, .int m] σ := by
  have hI := h
  obtain ⟨a, ho, hC, hM⟩ := h
  obtain ⟨q1, q2⟩ := hC.2.2.2.1
  obtain ⟨p1, p2⟩ := hM.2.2.2
  have hq8 := q2.1
  have h1 := s_readingC 5 σ t s m q1 hq8
  rw [hC.n.1, hC.n.2, q1] at h1
  have h2 := s_readingM 5 σ t s m p1 hq8
  rw [hM.n.1, hM.n.2, p1] at h2
  by_cases c1 : z_rng t (nI (cK (aG a))) = false ∨ z_spot s (nI (cN (aG a))) = false
  · rw [if_pos c1, if_pos c1] at h1 h2
    exact iOp_fn h1 h2 rfl hI iS.rf
  rw [if_neg c1, if_neg c1] at h1 h2
  by_cases c2 : m < 0 ∨ ¬ m ≤ 99
  · rw [if_pos c2, if_pos c2] at h1
    rw [if_pos ((z_wi_or 0 99).mpr c2), if_pos ((z_wi_or 0 99).mpr c2)] at h2
    exact iOp_fn h1 h2 rfl hI iS.rf
  have c2' : ¬ z_wi m 0 99 = false := fun x => c2 ((z_wi_or 0 99).mp x)
  rw [if_neg c2, if_neg c2] at h1
  rw [if_neg c2', if_neg c2'] at h2
  by_cases c3 : nI (aQ a) < 8
  rotate_left
  · have c4 : nI (aQ a) = 8 := by
      rw [show (8 : Int32) = nI 8 from rfl, nI_lt_iff (by omega) (by decide)] at c3
      rw [show aQ a = 8 by omega]; rfl
    rw [if_neg c3, if_neg c3] at h1
    rw [if_pos c4, if_pos c4] at h2
    exact iOp_fn h1 h2 rfl hI iS.rf
  have hlt : aQ a < 8 := by
    rw [show (8 : Int32) = nI 8 from rfl, nI_lt_iff (by omega) (by decide)] at c3
    exact c3
  have c4 : ¬ nI (aQ a) = 8 := fun x => by
    have := nI_inj (b := 8) (by omega) (by decide) x
    omega
  rw [if_pos c3, if_pos c3] at h1
  obtain ⟨tn, htn, et, -⟩ := z_rngK ho.1.1.2 (show z_rng t (nI (cK (aG a))) = true by
    cases e : z_rng t (nI (cK (aG a))) with
    | true => rfl
    | false => exact absurd (Or.inl e) c1)
  obtain ⟨mn, hmn, em⟩ : ∃ mn, mn ≤ 99 ∧ m = nI mn := by
    have x1 : ¬ m < 0 := fun x => c2 (Or.inl x)
    have x2 : m ≤ 99 := Classical.not_not.mp (fun x => c2 (Or.inr x))
    obtain ⟨j, hj, rfl⟩ := nI_of x1
    rw [show (99 : Int32) = nI 99 from rfl, nI_le_iff hj (by decide)] at x2
    exact ⟨j, x2, rfl⟩
  subst et em
  have hK4 := ho.1.1.2
  generalize hτ : z_st (z_rd σ 23 24 25 (nI (aQ a)) (nI tn) s (nI mn)) 22 0 (nI (aQ a) + 1) = τ at h1
  have r : ∀ p, p < 22 ∨ 25 < p → τ.1 p = σ.1 p := fun p hp => by rw [← hτ, z_st_row _ _ _ (by omega), z_rd_row _ _ _ _ _ (by omega) (by omega) (by omega)]
  have r22 : τ.1 22 0 = nI (aQ a + 1) := by rw [← hτ, z_st_at, nI_succ]
  have rR : gRd τ 23 24 25 (aQ a + 1) (pU (aRt a) (aQ a) tn) (pU (aRm a) (aQ a) mn) (upd (aRs a) (aQ a) s) := by
    rw [← hτ]
    exact (q2.add hlt (by decide) (by decide) (by decide) (by omega) (by omega) s).rows (z_st_row _ _ _ (by decide)) (z_st_row _ _ _ (by decide)) (z_st_row _ _ _ (by decide))
  have h3 := s_readingM 5 τ (nI tn) s (nI mn) (n := aQ a) (by rw [r 43 (by omega)]; exact p1) hq8
  rw [r 43 (by omega), hM.n.1, hM.n.2, p1, if_neg c1, if_neg c1, if_neg c2', if_neg c2', if_neg c4, if_neg c4] at h3
  refine iOp_fn h1 h3 ?_ ⟨aSR a (aQ a + 1) (pU (aRt a) (aQ a) tn) (pU (aRm a) (aQ a) mn) (upd (aRs a) (aQ a) s), ho, ?_, ?_⟩ ⟨?_, ?_⟩ ⟨r 63 (by omega), r 64 (by omega)⟩
  · rw [Int32.add_sub_cancel]
  · refine iC.same (σ := τ) (hC.rdg (fun p _ hp => r p hp) r22 rR) (fun p hp => ?_)
    rw [z_st_row _ _ _ (by omega), z_rd_row _ _ _ _ _ (by omega) (by omega) (by omega)]
  · have hM' : iM τ a := hM.same (fun p hp => r p (by omega))
    refine hM'.rdg (fun j hj => ?_) (fun p h1 h2 => ?_) ?_ ?_
    · rw [z_st_fld _ _ _ hj, z_rd_row _ _ _ _ _ (by decide) (by decide) (by decide)]
    · rw [z_st_row _ _ _ (by omega), z_rd_row _ _ _ _ _ (by omega) (by omega) (by omega)]
    · rw [z_st_at, nI_succ]
    · exact (hM'.2.2.2.2.add hlt (by decide) (by decide) (by decide) (by omega) (by omega) s).rows (z_st_row _ _ _ (by decide)) (z_st_row _ _ _ (by decide)) (z_st_row _ _ _ (by decide))
  · rw [z_st_row _ _ _ (by decide), z_rd_row _ _ _ _ _ (by decide) (by decide) (by decide), r 63 (by omega)]
  · rw [z_st_row _ _ _ (by decide), z_rd_row _ _ _ _ _ (by decide) (by decide) (by decide), r 64 (by omega)]
theorem i_back {σ : zS} (h : iN σ) (k : Int32) : iOp false mX5_back mX6_back 7 7 [.ref 0, .int k] [.ref 43, .int k] σ := by
  have hI := h
  obtain ⟨a, ho, hC, hM⟩ := h
  obtain ⟨q1, q2⟩ := hC.2.2.2.1
  obtain ⟨p1, p2⟩ := hM.2.2.2
  have hq8 := q2.1
  have h1 := s_backC 7 σ k
  rw [q1] at h1
  by_cases c1 : k < 0 ∨ ¬ k ≤ nI (aQ a)
  · have h2 := s_backM 6 σ k
    rw [p1, if_pos ((z_wi_or 0 _).mpr c1), if_pos ((z_wi_or 0 _).mpr c1)] at h2
    rw [if_pos c1, if_pos c1] at h1
    exact iOp_fn h1 h2 rfl hI iS.rf
  have c1' : ¬ z_wi k 0 (nI (aQ a)) = false := fun x => c1 ((z_wi_or 0 _).mp x)
  rw [if_neg c1, if_neg c1] at h1
  obtain ⟨kn, hkn, rfl⟩ : ∃ kn, kn ≤ aQ a ∧ k = nI kn := by
    have x1 : ¬ k < 0 := fun x => c1 (Or.inl x)
    have x2 : k ≤ nI (aQ a) := Classical.not_not.mp (fun x => c1 (Or.inr x))
    obtain ⟨j, hj, rfl⟩ := nI_of x1
    rw [nI_le_iff hj (by omega)] at x2
    exact ⟨j, x2, rfl⟩
  have es : nI (aQ a) - nI kn = nI (aQ a - kn) := (Int32.ofNat_sub (a := aQ a) (b := kn) hkn).symm
  have h2 := s_backM 6 (z_st σ 22 0 (nI (aQ a) - nI kn)) (nI kn)
  rw [z_st_row _ _ _ (by decide : 43 ≠ 22), p1, if_neg c1', if_neg c1'] at h2
  rw [es] at h1 h2
  refine iOp_fn h1 h2 rfl ⟨aSR a (aQ a - kn) (aRt a) (aRm a) (aRs a), ho, ?_, ?_⟩ ⟨?_, ?_⟩
  · refine iC.hi (hC.rdg (fun p _ hp => z_st_row _ _ _ (by omega)) (z_st_at _ _ _ _) ?_) (by decide) _ _
    exact (q2.le (Nat.sub_le _ _)).rows (z_st_row _ _ _ (by decide)) (z_st_row _ _ _ (by decide)) (z_st_row _ _ _ (by decide))
  · refine (hM.lo (by decide) 0 (nI (aQ a - kn))).rdg (fun j hj => z_st_fld _ _ _ hj) (fun p _ _ => z_st_row _ _ _ (by omega)) (z_st_at _ _ _ _) ?_
    exact ((p2.le (Nat.sub_le _ _)).rows (τ := z_st σ 22 0 (nI (aQ a - kn))) (z_st_row _ _ _ (by decide)) (z_st_row _ _ _ (by decide)) (z_st_row _ _ _ (by decide))).rows (z_st_row _ _ _ (by decide)) (z_st_row _ _ _ (by decide)) (z_st_row _ _ _ (by decide))
  · rw [z_st_row _ _ _ (by decide), z_st_row _ _ _ (by decide)]
  · rw [z_st_row _ _ _ (by decide), z_st_row _ _ _ (by decide)]
theorem iC.lv {σ : zS} {a : zI} (h : iC σ a) (b : Int32) : iC (z_lv σ b) (aST a (31 * aT a + b)) := by
  unfold z_lv
  rw [h.1.2]
  exact h.trc _
theorem iM.mv {σ : zS} {a : zI} (h : iM σ a) (b : Int32) : iM (z_mv σ b) (aST a (31 * aT a + b)) := by
  unfold z_mv
  rw [h.1.2]
  exact h.trc _
theorem z_lv_row (σ : zS) (b : Int32) {q : Nat} (h : q ≠ 0) : (z_lv σ b).1 q = σ.1 q := z_st_row _ _ _ h
theorem iM.lv {σ : zS} {a : zI} (h : iM σ a) (b : Int32) : iM (z_lv σ b) a := h.lo (by decide) _ _
theorem iC.mv {σ : zS} {a : zI} (h : iC σ a) (b : Int32) : iC (z_mv σ b) a := h.hi (by decide) _ _
theorem iS.lv {σ τ : zS} (h : iS σ τ) (b : Int32) : iS σ (z_lv τ b) := h.st (by decide) _ _
theorem iS.mv {σ τ : zS} (h : iS σ τ) (b : Int32) : iS σ (z_mv τ b) := h.st (by decide) _ _
/-- a thing's row in both -/
theorem i_thing {σ : zS} {a : zI} (hC : iC σ a) (hM : iM σ a) {t : Nat} (ht : t < cK (aG a)) : σ.1 50 t = σ.1 5 t ∧ σ.1 51 t = σ.1 6 t := by
  obtain ⟨c', b1, b2⟩ := hM.2.1
  have q := b2.2.2.2.1 t ht
  have b := hC.2.1.1.2.1
  rw [b1.2.1.1, b1.2.1.2, show σ.1 5 = _ from b.1, show σ.1 6 = _ from b.2, q.1, q.2]
  exact ⟨rfl, rfl⟩
theorem i_tell {σ : zS} (h : iN σ) (t : Int32) : iOp false mX5_tell mX6_tell 7 7 [.ref 0, .int t] [.ref 43, .int t] σ := by
  have hI := h
  obtain ⟨a, ho, hC, hM⟩ := h
  have hK4 := ho.1.1.2
  have h1 := s_tellC 3 σ t hC.n.2 hK4
  rw [hC.n.2] at h1
  cases e : z_rng t (nI (cK (aG a))) with
  | false =>
    have h2 := s_tellM 6 σ t hM.n.2 hK4
    rw [hM.n.2, if_pos e, if_pos e] at h2
    rw [if_pos e, if_pos e] at h1
    exact iOp_fn h1 h2 rfl hI iS.rf
  | true =>
    have e' : ¬ z_rng t (nI (cK (aG a))) = false := by rw [e]; decide
    obtain ⟨tn, htn, -, et⟩ := z_rngK hK4 e
    obtain ⟨k1, k2⟩ := i_thing hC hM htn
    rw [if_neg e', if_neg e', et] at h1
    have key : ∀ τ : zS, (∀ q, q ≠ 0 → τ.1 q = σ.1 q) → z_Fn mX6_tell 7 [.ref 43, .int t] τ (.int (if σ.1 5 tn = 1 then σ.1 6 tn + 100 else if σ.1 5 tn = 2 then σ.1 6 tn + 100 + σ.1 6 tn else σ.1 6 tn)) (if σ.1 5 tn = 1 then z_mv (z_mv τ 2) 1 else if σ.1 5 tn = 2 then z_mv (z_mv (z_mv (z_mv τ 3) 2) 1) 1 else z_mv τ 1) := by
      intro τ hr
      have h2 := s_tellM 6 τ t (K := cK (aG a)) (by rw [hr 43 (by decide)]; exact hM.n.2) hK4
      rw [hr 43 (by decide), hr 50 (by decide), hr 51 (by decide), hM.n.2, if_neg e', if_neg e', et, k1, k2] at h2
      exact h2
    by_cases c1 : σ.1 5 tn = 1
    · have h2 := key (z_lv (z_lv σ 2) 1) (fun q hq => by rw [z_lv_row _ _ hq, z_lv_row _ _ hq])
      rw [if_pos c1, if_pos c1] at h1 h2
      exact iOp_fn h1 h2 rfl (iN_mk ((((hC.lv 2).lv 1).mv 2).mv 1) ((((hM.lv 2).lv 1).mv 2).mv 1) ho) (((iS.rf.lv 2).lv 1).mv 2 |>.mv 1)
    · rw [if_neg c1, if_neg c1] at h1
      by_cases c2 : σ.1 5 tn = 2
      · have h2 := key (z_lv (z_lv (z_lv (z_lv σ 3) 2) 1) 1) (fun q hq => by rw [z_lv_row _ _ hq, z_lv_row _ _ hq, z_lv_row _ _ hq, z_lv_row _ _ hq])
        rw [if_neg c1, if_neg c1, if_pos c2, if_pos c2] at h2
        rw [if_pos c2, if_pos c2] at h1
        exact iOp_fn h1 h2 rfl (iN_mk ((((((((hC.lv 3).lv 2).lv 1).lv 1).mv 3).mv 2).mv 1).mv 1) ((((((((hM.lv 3).lv 2).lv 1).lv 1).mv 3).mv 2).mv 1).mv 1) ho) (((((((iS.rf.lv 3).lv 2).lv 1).lv 1).mv 3).mv 2).mv 1 |>.mv 1)
      · have h2 := key (z_lv σ 1) (fun q hq => by rw [z_lv_row _ _ hq])
        rw [if_neg c1, if_neg c1, if_neg c2, if_neg c2] at h2
        rw [if_neg c2, if_neg c2] at h1
        exact iOp_fn h1 h2 rfl (iN_mk ((hC.lv 1).mv 1) ((hM.lv 1).mv 1) ho) ((iS.rf.lv 1).mv 1)
theorem i_hail {σ : zS} (h : iN σ) (t : Int32) : iOp false mX5_hail mX6_hail 7 7 [.ref 0, .int t] [.ref 43, .int t] σ := by
  have hI := h
  obtain ⟨a, ho, hC, hM⟩ := h
  have hK4 := ho.1.1.2
  have h1 := s_hailC 6 σ t hC.n.2 hK4
  rw [hC.n.2] at h1
  cases e : z_rng t (nI (cK (aG a))) with
  | false =>
    have h2 := s_hailM 6 σ t hM.n.2 hK4
    rw [hM.n.2, if_pos e, if_pos e] at h2
    rw [if_pos e, if_pos e] at h1
    exact iOp_fn h1 h2 rfl hI iS.rf
  | true =>
    have e' : ¬ z_rng t (nI (cK (aG a))) = false := by rw [e]; decide
    obtain ⟨tn, htn, -, et⟩ := z_rngK hK4 e
    obtain ⟨k1, k2⟩ := i_thing hC hM htn
    rw [if_neg e', if_neg e', et] at h1
    have key : ∀ τ : zS, (∀ q, q ≠ 0 → τ.1 q = σ.1 q) → z_Fn mX6_hail 7 [.ref 43, .int t] τ (.int (if σ.1 5 tn = 2 then 60 else t)) (if σ.1 5 tn = 2 then z_mv τ 5 else z_mv τ 4) := by
      intro τ hr
      have h2 := s_hailM 6 τ t (K := cK (aG a)) (by rw [hr 43 (by decide)]; exact hM.n.2) hK4
      rw [hr 43 (by decide), hr 50 (by decide), hM.n.2, if_neg e', if_neg e', et, k1] at h2
      exact h2
    by_cases c1 : σ.1 5 tn = 2
    · have h2 := key (z_lv σ 5) (fun q hq => by rw [z_lv_row _ _ hq])
      rw [if_pos c1, if_pos c1] at h1 h2
      exact iOp_fn h1 h2 rfl (iN_mk ((hC.lv 5).mv 5) ((hM.lv 5).mv 5) ho) ((iS.rf.lv 5).mv 5)
    · have h2 := key (z_lv σ 4) (fun q hq => by rw [z_lv_row _ _ hq])
      rw [if_neg c1, if_neg c1] at h1 h2
      exact iOp_fn h1 h2 rfl (iN_mk ((hC.lv 4).mv 4) ((hM.lv 4).mv 4) ho) ((iS.rf.lv 4).mv 4)
theorem z_f0_row (σ : zS) {q : Nat} (h : q ≠ 0) : (z_f0 σ).1 q = σ.1 q := z_st_row _ _ _ h
theorem z_g0_row (σ : zS) {q : Nat} (h : q ≠ 43) : (z_g0 σ).1 q = σ.1 q := z_st_row _ _ _ h
theorem iC.f0 {σ : zS} {a : zI} (h : iC σ a) : iC (z_f0 σ) (aSF a 0) := h.flt 0
theorem iM.g0 {σ : zS} {a : zI} (h : iM σ a) : iM (z_g0 σ) (aSF a 0) := h.flt 0
theorem i_as {σ : zS} (h : iN σ) (t k : Int32) : iOp false mX5_as mX6_as 7 7 [.ref 0, .int t, .int k] [.ref 43, .int t, .int k] σ := by
  obtain ⟨a, ho, hC, hM⟩ := h
  have hK4 := ho.1.1.2
  have hC0 := hC.f0
  have hn : (z_f0 σ).1 1 6 = nI (cK (aG a)) := hC0.n.2
  have h1 := s_asC 6 σ (z_f0 σ) rfl t k hn hK4
  rw [hn] at h1
  have key : ∀ τ : zS, (∀ q, q ≠ 0 → τ.1 q = σ.1 q) → ∃ v υ, z_Fn mX6_as 7 [.ref 43, .int t, .int k] τ v υ ∧ v = .int (if z_rng t (nI (cK (aG a))) = false then -1 else if z_wi k 0 2 = false then -2 else if σ.1 50 t.toNatClampNeg < k then -10 - 2 else 1) ∧ υ = (if z_rng t (nI (cK (aG a))) = false then z_g0 τ else if z_wi k 0 2 = false then z_g0 τ else if σ.1 50 t.toNatClampNeg < k then z_st (z_g0 τ) 43 0 2 else z_g0 τ) := by
    intro τ hr
    have hM' : iM τ a := hM.same (fun q hq => hr q (by omega))
    have hn' : (z_g0 τ).1 43 7 = nI (cK (aG a)) := hM'.g0.n.2
    have h2 := s_asM 6 τ (z_g0 τ) rfl t k (K := cK (aG a)) hn' hK4
    rw [hn', z_g0_row τ (by decide), hr 50 (by decide)] at h2
    exact ⟨_, _, h2, rfl, rfl⟩
  have cc : (k < 0 ∨ ¬ k < 3) ↔ z_wi k 0 2 = false := by
    rw [z_wi_or]
    refine or_congr Iff.rfl (not_congr ?_)
    rw [Int32.lt_iff_toInt_lt, Int32.le_iff_toInt_le]
    have h3 : (3 : Int32).toInt = 3 := by decide
    have h4 : (2 : Int32).toInt = 2 := by decide
    omega
  have r0 : ∀ q, q ≠ 0 → (z_f0 σ).1 q = σ.1 q := fun q hq => z_f0_row σ hq
  have hM0 : iM (z_f0 σ) a := hM.lo (by decide) _ _
  cases e : z_rng t (nI (cK (aG a))) with
  | false =>
    obtain ⟨v, υ, h2, rfl, rfl⟩ := key (z_f0 σ) r0
    rw [if_pos e, if_pos e] at h1 h2
    exact iOp_fn h1 h2 rfl (iN_mk (hC0.hi (by decide) _ _) (hM0.g0) ho) ((iS.rf.st (by decide) _ _).st (by decide) _ _)
  | true =>
    have e' : ¬ z_rng t (nI (cK (aG a))) = false := by rw [e]; decide
    obtain ⟨tn, htn, -, et⟩ := z_rngK hK4 e
    obtain ⟨k1, k2⟩ := i_thing hC hM htn
    rw [if_neg e', if_neg e'] at h1
    by_cases c1 : k < 0 ∨ ¬ k < 3
    · obtain ⟨v, υ, h2, rfl, rfl⟩ := key (z_f0 σ) r0
      rw [if_neg e', if_neg e', if_pos (cc.mp c1), if_pos (cc.mp c1)] at h2
      rw [if_pos c1, if_pos c1] at h1
      exact iOp_fn h1 h2 rfl (iN_mk (hC0.hi (by decide) _ _) (hM0.g0) ho) ((iS.rf.st (by decide) _ _).st (by decide) _ _)
    · have c1' : ¬ z_wi k 0 2 = false := fun q => c1 (cc.mpr q)
      rw [if_neg c1, if_neg c1, et, r0 5 (by decide)] at h1
      by_cases c2 : k ≤ σ.1 5 tn
      · obtain ⟨v, υ, h2, rfl, rfl⟩ := key (z_f0 σ) r0
        rw [if_neg e', if_neg e', if_neg c1', if_neg c1', et, k1, if_neg (Int32.not_lt.mpr c2), if_neg (Int32.not_lt.mpr c2)] at h2
        rw [if_pos c2, if_pos c2] at h1
        exact iOp_fn h1 h2 rfl (iN_mk (hC0.hi (by decide) _ _) (hM0.g0) ho) ((iS.rf.st (by decide) _ _).st (by decide) _ _)
      · obtain ⟨v, υ, h2, rfl, rfl⟩ := key (z_st (z_f0 σ) 0 13 2) (fun q hq => by rw [z_st_row _ _ _ hq, r0 q hq])
        rw [if_neg e', if_neg e', if_neg c1', if_neg c1', et, k1, if_pos (Int32.not_le.mp c2), if_pos (Int32.not_le.mp c2)] at h2
        rw [if_neg c2, if_neg c2] at h1
        exact iOp_fn h1 h2 rfl ⟨aSF a 2, ho, ((hC0.flt 2).hi (by decide) _ _).hi (by decide) _ _, (hM0.lo (by decide) _ _).g0.flt 2⟩ ((((iS.rf.st (by decide) _ _).st (by decide) _ _).st (by decide) _ _).st (by decide) _ _)
