/-! calls that change a little: bears, rain, boards, reading, back, tell, hail, as -/
theorem iC.cfg {σ τ : zS} {a : zI} {c2 : zG} (h : iC σ a) (h0 : τ.1 0 13 = σ.1 0 13 ∧ τ.1 0 12 = σ.1 0 12) (h1 : ∀ q, 14 ≤ q ∧ q ≤ 25 → τ.1 q = σ.1 q) (h29 : τ.1 29 0 = σ.1 29 0) (hC : gC 1 τ c2) (hb : ∀ j, j < 3 → τ.1 4 j = 0 ∨ τ.1 4 j = 1) (h9 : τ.1 0 9 = 0) (h11 : τ.1 0 11 = 0) : iC τ (aSG a c2) := by
  obtain ⟨⟨a1, a2⟩, ⟨b1, b2⟩, c1, ⟨d1, d2⟩, e1, f1⟩ := h
  refine ⟨⟨by rw [h0.1]; exact a1, by rw [h0.2]; exact a2⟩, ⟨hC, hb⟩, fun k hk => ?_, ⟨by rw [h1 22 (by omega)]; exact d1, d2.rows (h1 23 (by omega)) (h1 24 (by omega)) (h1 25 (by omega))⟩, by rw [h29]; exact e1, fun _ => ⟨Or.inl h9, Or.inl h11⟩⟩
  rw [h1 (14 + k) (by omega), h1 (14 + k + 4) (by omega)]
  exact c1 k hk
theorem iM.cfg {σ τ : zS} {a : zI} {c2 : zG} (h : iM σ a) (h0 : τ.1 43 0 = σ.1 43 0 ∧ τ.1 43 1 = σ.1 43 1 ∧ τ.1 43 34 = σ.1 43 34) (h1 : ∀ q, (44 ≤ q ∧ q ≤ 46) ∨ (60 ≤ q ∧ q ≤ 62) → τ.1 q = σ.1 q) (hM : ∃ c', gM τ c' ∧ gEq c2 c') : iM τ (aSG a c2) := by
  obtain ⟨⟨a1, a2⟩, -, c1, ⟨d1, d2⟩⟩ := h
  refine ⟨⟨by rw [h0.1]; exact a1, by rw [h0.2.1]; exact a2⟩, hM, fun k hk => ?_, ⟨by rw [h0.2.2]; exact d1, d2.rows (h1 60 (by omega)) (h1 61 (by omega)) (h1 62 (by omega))⟩⟩
  rw [h1 44 (by omega), h1 45 (by omega), h1 46 (by omega)]
  exact c1 k hk
theorem z_fg_row (σ : zS) {q : Nat} (h : q ≠ 0) : (z_fg σ).1 q = σ.1 q := by unfold z_fg; rw [z_st_row _ _ _ h, z_st_row _ _ _ h]
theorem z_fg_fld (σ : zS) {j : Nat} (h9 : j ≠ 9) (h11 : j ≠ 11) : (z_fg σ).1 0 j = σ.1 0 j := by unfold z_fg; rw [z_st_fld _ _ _ h11, z_st_fld _ _ _ h9]
theorem z_fg_9 (σ : zS) : (z_fg σ).1 0 9 = 0 ∧ (z_fg σ).1 0 11 = 0 := by unfold z_fg; rw [z_st_fld _ _ _ (by decide), z_st_at, z_st_at]; exact ⟨rfl, rfl⟩
def cBoard (c : zG) (k : Nat) (v : Int32) : zG := (cK c, cN c, cM c, cKd c, cPd c, cLn c, cMd c, upd (cBd c) k v, cB c, cR c)
theorem gC1_fg {σ : zS} {c : zG} (h : gC 1 σ c) : gC 1 (z_fg σ) c := by
  unfold gC
  rw [z_fg_row σ (by decide : 1 ≠ 0), z_fg_row σ (by decide : 1 + 1 ≠ 0), z_fg_row σ (by decide : 1 + 2 ≠ 0), z_fg_row σ (by decide : 1 + 3 ≠ 0), z_fg_row σ (by decide : 1 + 4 ≠ 0), z_fg_row σ (by decide : 1 + 5 ≠ 0)]
  exact h
theorem gC1_0 {σ : zS} {c : zG} (h : gC 1 σ c) (v : Int32) : gC 1 (z_st σ 1 0 v) (cSB c v) := by
  unfold gC
  rw [z_st_at, z_st_fld _ _ _ (by decide), z_st_fld _ _ _ (by decide), z_st_fld _ _ _ (by decide), z_st_row _ _ _ (by decide), z_st_row _ _ _ (by decide), z_st_row _ _ _ (by decide), z_st_row _ _ _ (by decide), z_st_row _ _ _ (by decide)]
  exact ⟨h.1, h.2.1, h.2.2.1, rfl, h.2.2.2.2⟩
theorem gC1_1 {σ : zS} {c : zG} (h : gC 1 σ c) (v : Int32) : gC 1 (z_st σ 1 1 v) (cRain c v) := by
  unfold gC
  rw [z_st_at, z_st_fld _ _ _ (by decide), z_st_fld _ _ _ (by decide), z_st_fld _ _ _ (by decide), z_st_row _ _ _ (by decide), z_st_row _ _ _ (by decide), z_st_row _ _ _ (by decide), z_st_row _ _ _ (by decide), z_st_row _ _ _ (by decide)]
  exact ⟨h.1, h.2.1, h.2.2.1, h.2.2.2.1, rfl⟩
theorem gC1_4 {σ : zS} {c : zG} (h : gC 1 σ c) (k : Nat) (v : Int32) : gC 1 (z_st σ 4 k v) (cBoard c k v) := by
  unfold gC
  rw [z_st_row _ _ _ (by decide), z_st_row _ _ _ (by decide), z_st_row _ _ _ (by decide), z_st_row _ _ _ (by decide), z_st_row _ _ _ (by decide), show (1 + 3) = 4 from rfl, z_st_rowS]
  exact ⟨h.1, h.2.1, ⟨h.2.2.1.1, h.2.2.1.2.1, by rw [show σ.1 4 = _ from h.2.2.1.2.2]; rfl⟩, h.2.2.2⟩
theorem gM_5 {σ : zS} {c : zG} (h : gM σ c) (v : Int32) : gM (z_st σ 43 5 v) (cSB c v) := by
  unfold gM
  rw [z_st_at, z_st_fld _ _ _ (by decide), z_st_fld _ _ _ (by decide), z_st_fld _ _ _ (by decide), z_st_fld _ _ _ (by decide), z_st_row _ _ _ (by decide), z_st_row _ _ _ (by decide), z_st_row _ _ _ (by decide), z_st_row _ _ _ (by decide), z_st_row _ _ _ (by decide)]
  exact ⟨h.1, h.2.1, h.2.2.1, rfl, h.2.2.2.2⟩
theorem gM_8 {σ : zS} {c : zG} (h : gM σ c) (v : Int32) : gM (z_st σ 43 8 v) (cRain c v) := by
  unfold gM
  rw [z_st_at, z_st_fld _ _ _ (by decide), z_st_fld _ _ _ (by decide), z_st_fld _ _ _ (by decide), z_st_fld _ _ _ (by decide), z_st_row _ _ _ (by decide), z_st_row _ _ _ (by decide), z_st_row _ _ _ (by decide), z_st_row _ _ _ (by decide), z_st_row _ _ _ (by decide)]
  exact ⟨h.1, h.2.1, h.2.2.1, h.2.2.2.1, rfl⟩
theorem gM_49 {σ : zS} {c : zG} (h : gM σ c) (k : Nat) (v : Int32) : gM (z_st σ 49 k v) (cBoard c k v) := by
  unfold gM
  rw [z_st_row _ _ _ (by decide), z_st_row _ _ _ (by decide), z_st_row _ _ _ (by decide), z_st_row _ _ _ (by decide), z_st_row _ _ _ (by decide), z_st_rowS]
  exact ⟨h.1, h.2.1, ⟨h.2.2.1.1, h.2.2.1.2.1, by rw [h.2.2.1.2.2]; rfl⟩, h.2.2.2⟩
theorem gM.lo {σ : zS} {c : zG} (h : gM σ c) {τ : zS} (hr : ∀ q, 43 ≤ q → q ≤ 51 → τ.1 q = σ.1 q) : gM τ c := by
  unfold gM
  rw [hr 43 (by decide) (by decide), hr 47 (by decide) (by decide), hr 48 (by decide) (by decide), hr 49 (by decide) (by decide), hr 50 (by decide) (by decide), hr 51 (by decide) (by decide)]
  exact h
theorem aN1 {N : Nat} (h : ¬ nI N = 0) : 1 ≤ N := by
  rcases Nat.eq_zero_or_pos N with e | e
  · rw [e] at h; exact absurd rfl h
  · exact e
theorem i_bears {σ : zS} (h : iN σ) (v : Int32) : iOp false mX5_bears mX6_bears 7 7 [.ref 0, .int v] [.ref 43, .int v] σ := by
  have hI := h
  obtain ⟨a, ho, hC, hM⟩ := h
  have h1 := s_bearsC 6 σ v
  by_cases c1 : v < 1 ∨ ¬ v ≤ 36
  · have h2 := s_bearsM 6 σ v
    rw [if_pos c1, if_pos c1] at h1
    rw [if_pos ((z_wi_or 1 36).mpr c1), if_pos ((z_wi_or 1 36).mpr c1)] at h2
    exact iOp_fn h1 h2 rfl hI iS.rf
  have c1' : ¬ z_wi v 1 36 = false := fun q => c1 ((z_wi_or 1 36).mp q)
  rw [if_neg c1, if_neg c1, hC.n.1] at h1
  by_cases c2 : nI (cN (aG a)) = 0
  · have h2 := s_bearsM 6 σ v
    rw [if_neg c1', if_neg c1', hM.n.1, if_pos c2, if_pos c2] at h2
    rw [if_pos ((z_there ho.1.1.1).mpr c2), if_pos ((z_there ho.1.1.1).mpr c2)] at h1
    exact iOp_fn h1 h2 rfl hI iS.rf
  have c2' : ¬ z_pos (nI (cN (aG a))) = false := fun q => c2 ((z_there ho.1.1.1).mp q)
  rw [if_neg c2', if_neg c2'] at h1
  have h2 := s_bearsM 6 (z_fg (z_st σ 1 0 v)) v
  have r : ∀ q, 2 ≤ q → (z_fg (z_st σ 1 0 v)).1 q = σ.1 q := fun q hq => by rw [z_fg_row _ (by omega), z_st_row _ _ _ (by omega)]
  rw [if_neg c1', if_neg c1', r 43 (by decide), hM.n.1, if_neg c2, if_neg c2] at h2
  obtain ⟨c', b1, b2⟩ := hM.2.1
  obtain ⟨hw, b, hb, eb⟩ := ho.2.2.1 (aN1 c2)
  obtain ⟨vn, hvn, rfl⟩ : ∃ vn, (1 ≤ vn ∧ vn ≤ 36) ∧ v = nI vn := by
    have q1 : ¬ v < 1 := fun q => c1 (Or.inl q)
    have q2 : v ≤ 36 := Classical.not_not.mp (fun q => c1 (Or.inr q))
    have q0 : ¬ v < 0 := fun q => q1 (Int32.lt_trans q (by decide))
    obtain ⟨j, hj, rfl⟩ := nI_of q0
    rw [show (1 : Int32) = nI 1 from rfl, nI_lt_iff hj (by decide)] at q1
    rw [show (36 : Int32) = nI 36 from rfl, nI_le_iff hj (by decide)] at q2
    exact ⟨j, by omega, rfl⟩
  refine iOp_fn h1 h2 ?_ ⟨aSG a (cSB (aG a) (nI vn)), ⟨ho.1, ho.2.1, fun _ => ⟨cSB_wf hw (by omega), vn, by omega, rfl⟩, ho.2.2.2⟩, ?_, ?_⟩ ⟨?_, ?_⟩
  · rw [b1.2.2.2.1, ← b2.2.2.2.2.2.1, hC.2.1.1.2.2.2.1]
  · refine (hC.cfg (τ := z_fg (z_st σ 1 0 (nI vn))) ⟨?_, ?_⟩ (fun q hq => r q (by omega)) (by rw [r 29 (by decide)]) (gC1_fg (gC1_0 hC.2.1.1 _)) (fun j hj => by rw [r 4 (by decide)]; exact hC.2.1.2 j hj) (z_fg_9 _).1 (z_fg_9 _).2).hi (by decide) _ _
    · rw [z_fg_fld _ (by decide) (by decide), z_st_row _ _ _ (by decide)]
    · rw [z_fg_fld _ (by decide) (by decide), z_st_row _ _ _ (by decide)]
  · refine hM.cfg ⟨?_, ?_, ?_⟩ (fun q hq => ?_) ⟨cSB c' (nI vn), gM_5 (b1.lo (fun q h1 _ => r q (by omega))) _, b2.sb _⟩
    · rw [z_st_fld _ _ _ (by decide), r 43 (by decide)]
    · rw [z_st_fld _ _ _ (by decide), r 43 (by decide)]
    · rw [z_st_fld _ _ _ (by decide), r 43 (by decide)]
    · rw [z_st_row _ _ _ (by omega), r q (by omega)]
  · rw [z_st_row _ _ _ (by decide), r 63 (by decide)]
  · rw [z_st_row _ _ _ (by decide), r 64 (by decide)]
theorem gEq.rain {c c' : zG} (h : gEq c c') (v : Int32) : gEq (cRain c v) (cRain c' v) := by
  obtain ⟨h1, h2, h3, h4, h5, h6, h7⟩ := h
  exact ⟨h1, h2, h3, h4, h5, h6, rfl⟩
theorem gEq.board {c c' : zG} (h : gEq c c') (k : Nat) (v : Int32) : gEq (cBoard c k v) (cBoard c' k v) := by
  obtain ⟨h1, h2, h3, h4, h5, h6, h7⟩ := h
  refine ⟨h1, h2, h3, h4, fun j hj => ⟨(h5 j hj).1, (h5 j hj).2.1, ?_⟩, h6, h7⟩
  show upd (cBd c) k v j = upd (cBd c') k v j
  unfold upd
  rw [(h5 j hj).2.2]
theorem i_rain {σ : zS} (h : iN σ) (v : Int32) : iOp false mX5_rain mX6_rain 7 7 [.ref 0, .int v] [.ref 43, .int v] σ := by
  have hI := h
  obtain ⟨a, ho, hC, hM⟩ := h
  have h1 := s_rainC 6 σ v
  have cc : (v ≠ -9 ∧ z_wi v 0 99 = false) ↔ (v ≠ -9 ∧ (v < 0 ∨ ¬ v ≤ 99)) := and_congr_right (fun _ => z_wi_or 0 99)
  by_cases c1 : v ≠ -9 ∧ (v < 0 ∨ ¬ v ≤ 99)
  · have h2 := s_rainM 6 σ v
    rw [if_pos c1, if_pos c1] at h1
    rw [if_pos (cc.mpr c1), if_pos (cc.mpr c1)] at h2
    exact iOp_fn h1 h2 rfl hI iS.rf
  have c1' : ¬ (v ≠ -9 ∧ z_wi v 0 99 = false) := fun q => c1 (cc.mp q)
  rw [if_neg c1, if_neg c1, hC.n.1] at h1
  by_cases c2 : nI (cN (aG a)) = 0
  · have h2 := s_rainM 6 σ v
    rw [if_neg c1', if_neg c1', hM.n.1, if_pos c2, if_pos c2] at h2
    rw [if_pos ((z_there ho.1.1.1).mpr c2), if_pos ((z_there ho.1.1.1).mpr c2)] at h1
    exact iOp_fn h1 h2 rfl hI iS.rf
  have c2' : ¬ z_pos (nI (cN (aG a))) = false := fun q => c2 ((z_there ho.1.1.1).mp q)
  rw [if_neg c2', if_neg c2'] at h1
  have h2 := s_rainM 6 (z_fg (z_st σ 1 1 v)) v
  have r : ∀ q, 2 ≤ q → (z_fg (z_st σ 1 1 v)).1 q = σ.1 q := fun q hq => by rw [z_fg_row _ (by omega), z_st_row _ _ _ (by omega)]
  rw [if_neg c1', if_neg c1', r 43 (by decide), hM.n.1, if_neg c2, if_neg c2] at h2
  obtain ⟨c', b1, b2⟩ := hM.2.1
  obtain ⟨hw, b, hb, eb⟩ := ho.2.2.1 (aN1 c2)
  have hw2 : gWf (cRain (aG a) v) := by
    obtain ⟨w1, w2, w3, w4, w5, w6, w7, w8, w9⟩ := hw
    refine ⟨w1, w2, w3, w4, w5, w6, w7, w8, ?_⟩
    show v = -9 ∨ ∃ n, n ≤ 99 ∧ v = nI n
    by_cases e : v = -9
    · exact Or.inl e
    · right
      have q1 : ¬ v < 0 := fun q => c1 ⟨e, Or.inl q⟩
      have q2 : v ≤ 99 := Classical.not_not.mp (fun q => c1 ⟨e, Or.inr q⟩)
      obtain ⟨j, hj, rfl⟩ := nI_of q1
      rw [show (99 : Int32) = nI 99 from rfl, nI_le_iff hj (by decide)] at q2
      exact ⟨j, q2, rfl⟩
  refine iOp_fn h1 h2 ?_ ⟨aSG a (cRain (aG a) v), ⟨ho.1, ho.2.1, fun _ => ⟨hw2, b, hb, eb⟩, ho.2.2.2⟩, ?_, ?_⟩ ⟨?_, ?_⟩
  · rw [b1.2.2.2.2, ← b2.2.2.2.2.2.2, hC.2.1.1.2.2.2.2]
  · refine (hC.cfg (τ := z_fg (z_st σ 1 1 v)) ⟨?_, ?_⟩ (fun q hq => r q (by omega)) (by rw [r 29 (by decide)]) (gC1_fg (gC1_1 hC.2.1.1 _)) (fun j hj => by rw [r 4 (by decide)]; exact hC.2.1.2 j hj) (z_fg_9 _).1 (z_fg_9 _).2).hi (by decide) _ _
    · rw [z_fg_fld _ (by decide) (by decide), z_st_row _ _ _ (by decide)]
    · rw [z_fg_fld _ (by decide) (by decide), z_st_row _ _ _ (by decide)]
  · refine hM.cfg ⟨?_, ?_, ?_⟩ (fun q hq => ?_) ⟨cRain c' v, gM_8 (b1.lo (fun q h1 _ => r q (by omega))) _, b2.rain _⟩
    · rw [z_st_fld _ _ _ (by decide), r 43 (by decide)]
    · rw [z_st_fld _ _ _ (by decide), r 43 (by decide)]
    · rw [z_st_fld _ _ _ (by decide), r 43 (by decide)]
    · rw [z_st_row _ _ _ (by omega), r q (by omega)]
  · rw [z_st_row _ _ _ (by decide), r 63 (by decide)]
  · rw [z_st_row _ _ _ (by decide), r 64 (by decide)]
theorem i_boards {σ : zS} (h : iN σ) (k v : Int32) (hv : v = 0 ∨ v = 1) : iOp false mX5_boards mX6_boards 7 7 [.ref 0, .int k, .int v] [.ref 43, .int k, .int v] σ := by
  have hI := h
  obtain ⟨a, ho, hC, hM⟩ := h
  have hN3 := ho.1.1.1
  have h1 := s_boardsC 6 σ k v hv hC.n.1 hN3
  rw [hC.n.1] at h1
  obtain ⟨c', b1, b2⟩ := hM.2.1
  cases e : z_rng k (nI (cN (aG a))) with
  | false =>
    have h2 := s_boardsM 6 σ k v hv hM.n.1 hN3
    rw [hM.n.1, if_pos e, if_pos e] at h2
    rw [if_pos e, if_pos e] at h1
    exact iOp_fn h1 h2 rfl hI iS.rf
  | true =>
    have e' : ¬ z_rng k (nI (cN (aG a))) = false := by rw [e]; decide
    obtain ⟨t, ht, -, et⟩ := z_rngK (by omega) e
    have q := (b2.2.2.2.2.1 t ht).2.2
    have b4 : σ.1 4 = cBd (aG a) := hC.2.1.1.2.2.1.2.2
    have e49 : σ.1 49 t = σ.1 4 t := by rw [b1.2.2.1.2.2, b4, q]
    rw [if_neg e', if_neg e', et] at h1
    by_cases c1 : σ.1 4 t = v
    · have h2 := s_boardsM 6 σ k v hv hM.n.1 hN3
      rw [hM.n.1, if_neg e', if_neg e', et, e49, if_pos c1, z_st_id (by rw [e49]; exact c1)] at h2
      rw [if_pos c1, if_pos c1] at h1
      exact iOp_fn h1 h2 rfl hI iS.rf
    · rw [if_neg c1, if_neg c1] at h1
      have r : ∀ q, 5 ≤ q → (z_fg (z_st σ 4 t v)).1 q = σ.1 q := fun q hq => by rw [z_fg_row _ (by omega), z_st_row _ _ _ (by omega)]
      have h2 := s_boardsM 6 (z_fg (z_st σ 4 t v)) k v hv (N := cN (aG a)) (by rw [r 43 (by decide)]; exact hM.n.1) hN3
      rw [r 43 (by decide), r 49 (by decide), hM.n.1, if_neg e', if_neg e', et, e49, if_neg c1] at h2
      obtain ⟨hw, b, hb, eb⟩ := ho.2.2.1 (by omega)
      have hw2 : gWf (cBoard (aG a) t v) := by
        obtain ⟨w1, w2, w3, w4, w5, w6, w7, w8, w9⟩ := hw
        refine ⟨w1, w2, w3, w4, w5, w6, fun j hj => ?_, w8, w9⟩
        show upd (cBd (aG a)) t v j = 0 ∨ upd (cBd (aG a)) t v j = 1
        unfold upd
        split
        · exact hv
        · exact w7 j hj
      refine iOp_fn h1 h2 rfl ⟨aSG a (cBoard (aG a) t v), ⟨ho.1, ho.2.1, fun _ => ⟨hw2, b, hb, eb⟩, ho.2.2.2⟩, ?_, ?_⟩ ⟨?_, ?_⟩
      · refine (hC.cfg (τ := z_fg (z_st σ 4 t v)) ⟨?_, ?_⟩ (fun q hq => r q (by omega)) (by rw [r 29 (by decide)]) (gC1_fg (gC1_4 hC.2.1.1 _ _)) (fun j hj => ?_) (z_fg_9 _).1 (z_fg_9 _).2).hi (by decide) _ _
        · rw [z_fg_fld _ (by decide) (by decide), z_st_row _ _ _ (by decide)]
        · rw [z_fg_fld _ (by decide) (by decide), z_st_row _ _ _ (by decide)]
        · rw [z_fg_row _ (by decide)]
          by_cases e2 : j = t
          · subst e2; rw [z_st_at]; exact hv
          · rw [z_st_fld _ _ _ e2]; exact hC.2.1.2 j hj
      · refine hM.cfg ⟨?_, ?_, ?_⟩ (fun q hq => ?_) ⟨cBoard c' t v, gM_49 (b1.lo (fun q h1 _ => r q (by omega))) _ _, b2.board _ _⟩
        · rw [z_st_row _ _ _ (by decide), r 43 (by decide)]
        · rw [z_st_row _ _ _ (by decide), r 43 (by decide)]
        · rw [z_st_row _ _ _ (by decide), r 43 (by decide)]
        · rw [z_st_row _ _ _ (by omega), r q (by omega)]
      · rw [z_st_row _ _ _ (by decide), r 63 (by decide)]
      · rw [z_st_row _ _ _ (by decide), r 64 (by decide)]
