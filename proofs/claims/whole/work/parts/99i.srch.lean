/-! soonest, trip, fewest, cost, help of both -/
theorem iC.pl {σ τ : zS} {a : zI} (h : iC σ a) (hf : gFpd σ τ) (hc : 1 ≤ cN (aG a) → gCh τ (aG a) ∧ gCf τ (aG a)) : iC τ a := by
  obtain ⟨⟨a1, a2⟩, ⟨b1, b2⟩, c1, ⟨d1, d2⟩, e1, f1⟩ := h
  have r : ∀ q, (1 ≤ q ∧ q ≤ 6) ∨ (13 ≤ q ∧ q < 31) → τ.1 q = σ.1 q := fun q hq => hf.1 q (by omega) (by omega) (by omega)
  have r0 : ∀ j, 12 ≤ j → τ.1 0 j = σ.1 0 j := fun j hj => hf.2.1 j (by omega) (by omega) (by omega) (by omega) (by omega)
  refine ⟨⟨by rw [r0 13 (by decide)]; exact a1, by rw [r0 12 (by decide)]; exact a2⟩, ⟨?_, fun j hj => by rw [r 4 (by omega)]; exact b2 j hj⟩, fun k hk => ?_, ⟨by rw [r 22 (by omega)]; exact d1, d2.rows (r 23 (by omega)) (r 24 (by omega)) (r 25 (by omega))⟩, by rw [r 29 (by omega)]; exact e1, hc⟩
  · unfold gC
    rw [r 1 (by omega), r (1 + 1) (by omega), r (1 + 2) (by omega), r (1 + 3) (by omega), r (1 + 4) (by omega), r (1 + 5) (by omega)]
    exact b1
  · rw [r (14 + k) (by omega), r (14 + k + 4) (by omega)]
    exact c1 k hk
theorem gCf.of {σ τ : zS} {c : zG} (h : gCf σ c) (h1 : τ.1 0 10 = σ.1 0 10 ∧ τ.1 0 11 = σ.1 0 11) : gCf τ c := by
  unfold gCf
  rw [h1.1, h1.2]
  exact h
theorem gFpd.m {σ τ : zS} {a : zI} (hf : gFpd σ τ) (h : iM σ a) : iM τ a := h.same (fun q hq => hf.1 q (by omega) (by omega) (by omega))
theorem gFT.m {σ τ : zS} {a : zI} (hf : gFT σ τ) (h : iM σ a) : iM τ a := h.of (fun j hj => hf.2.1 j (by omega) (by omega)) (fun q hq => hf.1 q (by omega) (by omega) (by omega))
theorem gFT.c {σ τ : zS} {a : zI} (hf : gFT σ τ) (h : iC σ a) : iC τ a := h.same (fun q hq => hf.1 q (by omega) (by omega) (by omega))
theorem gFT.sc {σ τ υ : zS} (hd : gFpd σ τ) (hf : gFT τ υ) : iS σ υ := ⟨by rw [hf.1 63 (by decide) (by decide) (by decide), hd.1 63 (by decide) (by omega) (by omega)], by rw [hf.1 64 (by decide) (by decide) (by decide), hd.1 64 (by decide) (by omega) (by omega)]⟩
theorem qM.ft {r : Nat} {σ τ : zS} {T : Nat → Nat} (h : qM r σ τ T) (hr : r = 58 ∨ r = 59) : gFT σ τ := ⟨fun q _ h2 h3 => h.1 q (by omega), fun j _ _ => by rw [h.1 43 (by omega)], h.2.1⟩
theorem gFT.rf {σ : zS} : gFT σ σ := ⟨fun _ _ _ _ => rfl, fun _ _ _ => rfl, rfl⟩
/-- both search the same portage -/
theorem iOp_s {lg : Bool} {mc mm : zM} {dc dm : Nat} {ac am : List Value} {σ : zS} {a : zI} (ho : aOk a) (hM : iM σ a) {R : Value → Prop} (h1 : z_Ex mc dc ac σ (fun rv τ => ∃ v, rv = some v ∧ iV lg v ∧ (∀ v', R v' → v' = v) ∧ gFpd σ τ ∧ iC τ a)) (h2 : ∀ τ, iM τ a → z_Ex mm dm am τ (fun rv υ => ∃ v', rv = some v' ∧ R v' ∧ gFT τ υ)) : iOp lg mc mm dc dm ac am σ := by
  refine h1.mono ?_
  rintro rv τ ⟨v, rfl, hvt, hv, hF, hC⟩
  have hMτ := hF.m hM
  refine ⟨v, rfl, hvt, ⟨hF.1 63 (by decide) (by omega) (by omega), hF.1 64 (by decide) (by omega) (by omega)⟩, (h2 τ hMτ).mono ?_⟩
  rintro rv υ ⟨v', rfl, hR, hT⟩
  exact ⟨by rw [hv v' hR], iN_mk (hT.c hC) (hT.m hMτ) ho, gFT.sc hF hT⟩
theorem i_soonest {σ : zS} (h : iN σ) : iOp false mX5_soonest mX6_soonest 7 7 [.ref 0] [.ref 43] σ := by
  obtain ⟨a, ho, hC, hM⟩ := h
  refine iOp_s (a := a) (R := fun v => (cN (aG a) = 0 ∧ v = .int (-3)) ∨ (1 ≤ cN (aG a) ∧ ∃ T, pD (nG (aG a)) 1000000 T ∧ v = .int (eM (T (nE (aG a)))))) ho hM ?_ (fun τ hMτ => ?_)
  · refine (s_soonestC 0 hC.n.1 ho.1.1.1 (fun hN => ⟨(ho.2.2.1 hN).1, hC.2.1.1, (hC.2.2.2.2.2 hN).1⟩)).mono ?_
    rintro rv τ (⟨h0, rfl, rfl⟩ | ⟨h1, hF, h1011, hch, v, rfl, hv⟩)
    · refine ⟨_, rfl, ⟨_, rfl⟩, fun v' hv' => ?_, gFpl.rf.d, hC⟩
      rcases hv' with q | q
      · exact q.2
      · omega
    · refine ⟨_, rfl, ⟨_, rfl⟩, fun v' hv' => ?_, hF.d, hC.pl hF.d (fun hN => ⟨hch, (hC.2.2.2.2.2 hN).2.of h1011⟩)⟩
      rcases hv' with q | ⟨-, T, hT, rfl⟩
      · omega
      · rw [hv T hT]
  · obtain ⟨c', b1, b2⟩ := hMτ.2.1
    refine (s_soonestM 1 (c := c') b1.1.2.1 (by rw [← b2.2.1]; exact ho.1.1.1) (fun hN => ⟨b2.wf (ho.2.2.1 (by rw [b2.2.1]; exact hN)).1, b1⟩)).mono ?_
    rintro rv υ (⟨h0, rfl, rfl⟩ | ⟨h1, T, rfl, hq, hD⟩)
    · exact ⟨_, rfl, Or.inl ⟨by rw [b2.2.1]; exact h0, rfl⟩, gFT.rf⟩
    · rw [← b2.2.1] at h1
      have hw := b2.wf (ho.2.2.1 h1).1
      exact ⟨_, rfl, Or.inr ⟨h1, T, (b2.symm.q hw).D (nG_gr hw) hD, by rw [b2.e]⟩, hq.ft (Or.inl rfl)⟩
theorem i_fewest {σ : zS} (h : iN σ) : iOp false mX5_fewest mX6_fewest 7 7 [.ref 0] [.ref 43] σ := by
  obtain ⟨a, ho, hC, hM⟩ := h
  refine iOp_s (a := a) (R := fun v => (cN (aG a) = 0 ∧ v = .int (-3)) ∨ (1 ≤ cN (aG a) ∧ ∃ T, pD (nG1 (aG a)) 1000000 T ∧ v = .int (eM (T (nE (aG a)))))) ho hM ?_ (fun τ hMτ => ?_)
  · refine (s_fewestC 1 hC.n.1 ho.1.1.1 (fun hN => ⟨(ho.2.2.1 hN).1, hC.2.1.1, (hC.2.2.2.2.2 hN).2⟩)).mono ?_
    rintro rv τ (⟨h0, rfl, rfl⟩ | ⟨h1, hF, ⟨h7, h8, h9, h42⟩, hcf, v, rfl, hv⟩)
    · refine ⟨_, rfl, ⟨_, rfl⟩, fun v' hv' => ?_, gFpl.rf.d, hC⟩
      rcases hv' with q | q
      · exact q.2
      · omega
    · refine ⟨_, rfl, ⟨_, rfl⟩, fun v' hv' => ?_, hF.d, hC.pl hF.d (fun hN => ⟨?_, hcf⟩)⟩
      · rcases hv' with q | ⟨-, T, hT, rfl⟩
        · omega
        · rw [hv T hT]
      · have := (hC.2.2.2.2.2 hN).1
        unfold gCh at this ⊢
        rw [h7, h8, h9, h42]
        exact this
  · obtain ⟨c', b1, b2⟩ := hMτ.2.1
    refine (s_fewestM 3 (c := c') b1.1.2.1 (by rw [← b2.2.1]; exact ho.1.1.1) (fun hN => ⟨b2.wf (ho.2.2.1 (by rw [b2.2.1]; exact hN)).1, b1⟩)).mono ?_
    rintro rv υ (⟨h0, rfl, rfl⟩ | ⟨h1, T, rfl, hq, hD⟩)
    · exact ⟨_, rfl, Or.inl ⟨by rw [b2.2.1]; exact h0, rfl⟩, gFT.rf⟩
    · rw [← b2.2.1] at h1
      have hw := b2.wf (ho.2.2.1 h1).1
      exact ⟨_, rfl, Or.inr ⟨h1, T, b2.symm.q1.D (nG1_gr hw) hD, by rw [b2.e]⟩, hq.ft (Or.inr rfl)⟩
theorem i_trip {σ : zS} (h : iN σ) (k w : Int32) : iOp false mX5_trip mX6_trip 7 7 [.ref 0, .int k, .int w] [.ref 43, .int k, .int w] σ := by
  obtain ⟨a, ho, hC, hM⟩ := h
  refine iOp_s (a := a) (R := fun v => (k < 0 ∧ v = .int (-1)) ∨ (¬ k < 0 ∧ z_wi w 0 1 = false ∧ v = .int (-2)) ∨ (¬ k < 0 ∧ z_wi w 0 1 = true ∧ cN (aG a) = 0 ∧ v = .int (-3)) ∨ (¬ k < 0 ∧ z_wi w 0 1 = true ∧ 1 ≤ cN (aG a) ∧ ∃ u, gTr (aG a) k.toNatClampNeg w u ∧ v = .int u)) ho hM ?_ (fun τ hMτ => ?_)
  · refine (s_tripC 0 k w hC.n.1 ho.1.1.1 (fun hN => ⟨(ho.2.2.1 hN).1, hC.2.1.1, (hC.2.2.2.2.2 hN).1⟩)).mono ?_
    rintro rv τ ⟨hF, h1011, hh⟩
    rcases hh with ⟨rfl, hh⟩ | ⟨hch, hk, hw, h1, v, hv, rfl⟩
    · rcases hh with ⟨q1, rfl⟩ | ⟨q1, q2, rfl⟩ | ⟨q1, q2, q3, rfl⟩
      · refine ⟨_, rfl, ⟨_, rfl⟩, fun v' hv' => ?_, hF.d, hC⟩
        rcases hv' with p | p | p | p
        · exact p.2
        · exact absurd q1 p.1
        · exact absurd q1 p.1
        · exact absurd q1 p.1
      · refine ⟨_, rfl, ⟨_, rfl⟩, fun v' hv' => ?_, hF.d, hC⟩
        rcases hv' with p | p | p | p
        · exact absurd p.1 q1
        · exact p.2.2
        · rw [q2] at p; exact absurd p.2.1 (by decide)
        · rw [q2] at p; exact absurd p.2.1 (by decide)
      · refine ⟨_, rfl, ⟨_, rfl⟩, fun v' hv' => ?_, hF.d, hC⟩
        rcases hv' with p | p | p | p
        · exact absurd p.1 q1
        · rw [q2] at p; exact absurd p.2.1 (by decide)
        · exact p.2.2.2
        · omega
    · refine ⟨_, rfl, ⟨_, rfl⟩, fun v' hv' => ?_, hF.d, hC.pl hF.d (fun hN => ⟨hch, (hC.2.2.2.2.2 hN).2.of h1011⟩)⟩
      rcases hv' with p | p | p | ⟨-, -, -, u, hu, rfl⟩
      · exact absurd p.1 hk
      · rw [hw] at p; exact absurd p.2.1 (by decide)
      · omega
      · rw [hv u hu]
  · obtain ⟨c', b1, b2⟩ := hMτ.2.1
    refine (s_tripM 1 (c := c') k w b1.1.2.1 (by rw [← b2.2.1]; exact ho.1.1.1) (fun hN => ⟨b2.wf (ho.2.2.1 (by rw [b2.2.1]; exact hN)).1, b1⟩)).mono ?_
    rintro rv υ ⟨hF, hh⟩
    rcases hh with ⟨q1, rfl⟩ | ⟨q1, q2, rfl⟩ | ⟨q1, q2, q3, rfl⟩ | ⟨q1, q2, q3, v, hv, rfl⟩
    · exact ⟨_, rfl, Or.inl ⟨q1, rfl⟩, hF⟩
    · exact ⟨_, rfl, Or.inr (Or.inl ⟨q1, q2, rfl⟩), hF⟩
    · exact ⟨_, rfl, Or.inr (Or.inr (Or.inl ⟨q1, q2, by rw [b2.2.1]; exact q3, rfl⟩)), hF⟩
    · rw [← b2.2.1] at q3
      have hw := b2.wf (ho.2.2.1 q3).1
      exact ⟨_, rfl, Or.inr (Or.inr (Or.inr ⟨q1, q2, q3, v, b2.symm.tr hw hv, rfl⟩)), hF⟩
theorem i_help {σ : zS} (h : iN σ) (w : Int32) : iOp false mX5_help mX6_help 7 7 [.ref 0, .int w] [.ref 43, .int w] σ := by
  obtain ⟨a, ho, hC, hM⟩ := h
  refine iOp_s (a := a) (R := fun v => (z_wi w 0 36 = false ∧ v = .int (-2)) ∨ (z_wi w 0 36 = true ∧ cN (aG a) = 0 ∧ v = .int (-3)) ∨ (z_wi w 0 36 = true ∧ 1 ≤ cN (aG a) ∧ ∃ u, gHe (aG a) w u ∧ v = .int u)) ho hM ?_ (fun τ hMτ => ?_)
  · refine (s_helpC 0 w hC.n.1 ho.1.1.1 (fun hN => ⟨(ho.2.2.1 hN).1, hC.2.1.1, (hC.2.2.2.2.2 hN).1⟩) (fun hN => (ho.2.2.1 hN).2) hC.2.1.2).mono ?_
    rintro rv τ ⟨hF, h1011, hh⟩
    rcases hh with ⟨rfl, hh⟩ | ⟨hch, hw, h1, hw2, v, hv, rfl⟩
    · rcases hh with ⟨q1, rfl⟩ | ⟨q1, q2, rfl⟩
      · refine ⟨_, rfl, ⟨_, rfl⟩, fun v' hv' => ?_, hF, hC⟩
        rcases hv' with p | p | p
        · exact p.2
        · rw [q1] at p; exact absurd p.1 (by decide)
        · rw [q1] at p; exact absurd p.1 (by decide)
      · refine ⟨_, rfl, ⟨_, rfl⟩, fun v' hv' => ?_, hF, hC⟩
        rcases hv' with p | p | p
        · rw [q1] at p; exact absurd p.1 (by decide)
        · exact p.2.2
        · omega
    · refine ⟨_, rfl, ⟨_, rfl⟩, fun v' hv' => ?_, hF, hC.pl hF (fun hN => ⟨hch, (hC.2.2.2.2.2 hN).2.of h1011⟩)⟩
      rcases hv' with p | p | ⟨-, -, u, hu, rfl⟩
      · rw [hw] at p; exact absurd p.1 (by decide)
      · omega
      · rw [hv u hu]
  · obtain ⟨c', b1, b2⟩ := hMτ.2.1
    refine (s_helpM 1 (c := c') w b1.1.2.1 (by rw [← b2.2.1]; exact ho.1.1.1) (fun hN => ⟨b2.wf (ho.2.2.1 (by rw [b2.2.1]; exact hN)).1, b1⟩) (fun hN => by rw [← b2.2.2.2.2.2.1]; exact (ho.2.2.1 (by rw [b2.2.1]; exact hN)).2)).mono ?_
    rintro rv υ ⟨hF, hh⟩
    rcases hh with ⟨q1, rfl⟩ | ⟨q1, q2, rfl⟩ | ⟨q1, q2, v, hv, rfl⟩
    · exact ⟨_, rfl, Or.inl ⟨q1, rfl⟩, hF⟩
    · exact ⟨_, rfl, Or.inr (Or.inl ⟨q1, by rw [b2.2.1]; exact q2, rfl⟩), hF⟩
    · rw [← b2.2.1] at q2
      obtain ⟨hw0, b, hb, eb⟩ := ho.2.2.1 q2
      have hw := b2.wf hw0
      have hw2 : gWf (cSB c' (cB c' + w)) := by
        rw [z_wi] at q1
        rw [Bool.and_eq_true] at q1
        have x1 : ¬ w < 0 := by simpa using q1.1
        have x2 : ¬ (36 : Int32) < w := by simpa using q1.2
        obtain ⟨j, hj, rfl⟩ := nI_of x1
        rw [show (36 : Int32) = nI 36 from rfl, nI_lt_iff (by decide) hj] at x2
        rw [← b2.2.2.2.2.2.1, eb, z_nIadd]
        exact cSB_wf hw (by omega)
      exact ⟨_, rfl, Or.inr (Or.inr ⟨q1, q2, v, b2.symm.he hw hw2 hv, rfl⟩), hF⟩
theorem i_cost {σ : zS} (h : iN σ) (t : Int32) : iOp false mX5_cost mX6_cost 7 7 [.ref 0, .int t] [.ref 43, .int t] σ := by
  obtain ⟨a, ho, hC, hM⟩ := h
  have hNK : 1 ≤ cK (aG a) → 1 ≤ cN (aG a) := fun hK => by
    rcases Nat.eq_zero_or_pos (cN (aG a)) with e | e
    · have := ho.1.2.mp e; omega
    · exact e
  refine iOp_s (a := a) (R := fun v => (z_rng t (nI (cK (aG a))) = false ∧ v = .int (-1)) ∨ (z_rng t (nI (cK (aG a))) = true ∧ ∃ u, gCo (aG a) t.toNatClampNeg u ∧ v = .int u)) ho hM ?_ (fun τ hMτ => ?_)
  · refine (s_costC 0 t hC.n.2 ho.1.1.2 (fun hK => ⟨(ho.2.2.1 (hNK hK)).1, hC.2.1.1, (hC.2.2.2.2.2 (hNK hK)).1⟩) hC.2.1.2).mono ?_
    rintro rv τ ⟨hF, h1011, hh⟩
    rcases hh with ⟨rfl, q1, rfl⟩ | ⟨q1, q2, hch, v, hv, rfl⟩
    · refine ⟨_, rfl, ⟨_, rfl⟩, fun v' hv' => ?_, hF, hC⟩
      rcases hv' with p | p
      · exact p.2
      · rw [q1] at p; exact absurd p.1 (by decide)
    · refine ⟨_, rfl, ⟨_, rfl⟩, fun v' hv' => ?_, hF, hC.pl hF (fun hN => ⟨hch, (hC.2.2.2.2.2 hN).2.of h1011⟩)⟩
      rcases hv' with p | ⟨-, u, hu, rfl⟩
      · rw [q1] at p; exact absurd p.1 (by decide)
      · rw [hv u hu]
  · obtain ⟨c', b1, b2⟩ := hMτ.2.1
    have hw : 1 ≤ cK c' → gWf c' := fun hK => b2.wf (ho.2.2.1 (hNK (by rw [b2.1]; exact hK))).1
    refine (s_costM 1 (c := c') t b1.1.1 (by rw [← b2.1]; exact ho.1.1.2) (fun hK => ⟨hw hK, b1, by rw [← b2.2.2.1, ho.2.1]; decide⟩)).mono ?_
    rintro rv υ ⟨hF, hh⟩
    rw [← b2.1] at hh
    rcases hh with ⟨q1, rfl⟩ | ⟨q1, v, hv, rfl⟩
    · exact ⟨_, rfl, Or.inl ⟨q1, rfl⟩, hF⟩
    · obtain ⟨tn, htn, -, -⟩ := z_rngK ho.1.1.2 q1
      exact ⟨_, rfl, Or.inr ⟨q1, v, b2.symm.co (hw (by rw [← b2.1]; omega)) hv, rfl⟩, hF⟩
