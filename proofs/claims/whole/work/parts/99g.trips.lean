/-! trips, at, dry, since, kinds of both -/
theorem gFx.i {σ τ : zS} {a : zI} {f : Int32} (h : iC σ a) (hf : gFx σ τ f) : iC τ (aSF a f) := by
  obtain ⟨f1, f2, f3, f4, -⟩ := hf
  refine (h.flt f).of (fun j hj => ?_) (fun q hq => ?_) ?_
  · by_cases e : j = 13
    · subst e; rw [f3, z_st_at]
    · rw [f2 j e, z_st_fld _ _ _ e]
  · rw [f1 q (by omega) (by omega) (by omega), z_st_row _ _ _ (by omega)]
  · rw [f4, z_st_row _ _ _ (by decide)]
theorem gFv.i {σ τ : zS} {a : zI} {f : Int32} (h : iM σ a) (hf : gFv σ τ f) : iM τ (aSF a f) := by
  obtain ⟨f1, f2, f3, -⟩ := hf
  refine (h.flt f).of (fun j hj => ?_) (fun q hq => ?_)
  · by_cases e : j = 0
    · subst e; rw [f3, z_st_at]
    · rw [f2 j (by omega) (by omega) (by omega) (by omega), z_st_fld _ _ _ e]
  · rw [f1 q (by omega) (by omega) (by omega) (by omega) (by omega), z_st_row _ _ _ (by omega)]
/-- both calls tell of the same walk -/
theorem iOp_w {lg : Bool} {mc mm : zM} {dc dm : Nat} {ac am : List Value} {σ : zS} {a : zI} (ho : aOk a) (hC : iC σ a) (hM : iM σ a) {v : Value} {f : Int32} (h1 : z_Ex mc dc ac σ (fun rv τ => rv = some v ∧ gFx (z_f0 σ) τ f)) (h2 : ∀ τ, iM τ a → z_Ex mm dm am τ (fun rv υ => rv = some v ∧ gFv (z_g0 τ) υ f)) (hvt : iV lg v := by exact ⟨_, rfl⟩) : iOp lg mc mm dc dm ac am σ := by
  refine h1.mono ?_
  rintro rv τ ⟨rfl, hF⟩
  have hMτ : iM τ a := hM.same (fun q hq => by rw [hF.1 q (by omega) (by omega) (by omega), z_f0_row _ (by omega)])
  refine ⟨v, rfl, hvt, ⟨by rw [hF.1 63 (by decide) (by omega) (by omega), z_f0_row _ (by decide)], by rw [hF.1 64 (by decide) (by omega) (by omega), z_f0_row _ (by decide)]⟩, (h2 τ hMτ).mono ?_⟩
  rintro rv υ ⟨rfl, hV⟩
  have r : ∀ q, q ≠ 43 → ¬ (54 ≤ q ∧ q ≤ 57) → υ.1 q = τ.1 q := fun q h1 h2 => by rw [hV.1 q h1 (by omega) (by omega) (by omega) (by omega), z_g0_row _ h1]
  have r2 : ∀ q, 31 ≤ q → τ.1 q = σ.1 q := fun q hq => by rw [hF.1 q (by omega) (by omega) (by omega), z_f0_row _ (by omega)]
  refine ⟨rfl, iN_mk (a := aSF a f) ?_ ?_ ho, ?_, ?_⟩
  · exact (show iC τ (aSF (aSF a 0) f) from hF.i hC.f0).same (fun q hq => r q (by omega) (by omega))
  · exact (show iM υ (aSF (aSF a 0) f) from hV.i hMτ.g0)
  · rw [r 63 (by decide) (by omega), r2 63 (by decide)]
  · rw [r 64 (by decide) (by omega), r2 64 (by decide)]
theorem i_trips {σ : zS} (h : iN σ) (sh la i n w : Int32) : iOp false mX5_trips mX6_trips 7 7 [.ref 0, .int sh, .int la, .int i, .int n, .int w] [.ref 43, .int sh, .int la, .int i, .int n, .int w] σ := by
  obtain ⟨a, ho, hC, hM⟩ := h
  have hC0 := hC.f0
  have ho0 : aOk (aSF a 0) := ho
  have h1 := s_tripsC 3 σ (z_f0 σ) rfl sh la i n w (N := cN (aG a)) (K := cK (aG a)) hC0.n.1 ho.1.1.1 hC0.n.2 ho.1.1.2 (hC0.hz ho0 sh) (c := aG a) (fun hN => ⟨(ho.2.2.1 hN).1, hC0.2.1.1⟩) hC0.2.2.2.2.1 _ rfl
  refine iOp_w ho hC hM (h1.mono (fun rv τ hh => ⟨hh.1, hh.2.x⟩)) (fun τ hMτ => ?_)
  have hMg := hMτ.g0
  obtain ⟨c', b1, b2⟩ := hMg.2.1
  have b2 : gEq (aG a) c' := b2
  have h2 := s_tripsM 3 τ (z_g0 τ) rfl sh la i n w (N := cN (aG a)) (K := cK (aG a)) hMg.n.1 ho.1.1.1 hMg.n.2 ho.1.1.2 (hMg.hz2 sh) (c := c') (fun hN => ⟨b2.wf (ho.2.2.1 hN).1, b1⟩) _ rfl
  obtain ⟨e1, e2, e3⟩ := i_tC ho0 hC0 hMg rfl rfl rfl rfl rfl sh la i n (z_b (z_wi w 0 2 || z_wi w 10 13))
  rw [e1, e2] at h2
  refine h2.mono ?_
  rintro rv υ ⟨rfl, hV⟩
  refine ⟨?_, hV⟩
  by_cases c1 : z_tC (z_f0 σ) sh la i n (z_b (z_wi w 0 2 || z_wi w 10 13)) = 0
  · rw [if_pos c1, if_pos c1, z_trO_c (e3 c1) b2 ho.1.1.1]
  · rw [if_neg c1, if_neg c1]
theorem i_at {σ : zS} (h : iN σ) (t m sh la i n : Int32) : iOp false mX5_at mX6_at 7 7 [.ref 0, .int t, .int m, .int sh, .int la, .int i, .int n] [.ref 43, .int t, .int m, .int sh, .int la, .int i, .int n] σ := by
  obtain ⟨a, ho, hC, hM⟩ := h
  have hC0 := hC.f0
  have ho0 : aOk (aSF a 0) := ho
  have h1 := s_atC 3 σ (z_f0 σ) rfl t m sh la i n (N := cN (aG a)) (K := cK (aG a)) hC0.n.1 ho.1.1.1 hC0.n.2 ho.1.1.2 (hC0.hz ho0 sh) (c := aG a) (fun hN => ⟨(ho.2.2.1 hN).1, hC0.2.1.1⟩) hC0.2.2.2.2.1
  refine iOp_w ho hC hM (h1.mono (fun rv τ hh => ⟨hh.1, hh.2.x⟩)) (fun τ hMτ => ?_)
  have hMg := hMτ.g0
  obtain ⟨c', b1, b2⟩ := hMg.2.1
  have b2 : gEq (aG a) c' := b2
  have h2 := s_atM 3 τ (z_g0 τ) rfl t m sh la i n (N := cN (aG a)) (K := cK (aG a)) hMg.n.1 ho.1.1.1 hMg.n.2 ho.1.1.2 (hMg.hz2 sh) (c := c') (fun hN => ⟨b2.wf (ho.2.2.1 hN).1, b1⟩)
  obtain ⟨e1, e2, e3⟩ := i_tC ho0 hC0 hMg rfl rfl rfl rfl rfl sh la i n 1
  rw [e1, e2] at h2
  refine h2.mono ?_
  rintro rv υ ⟨rfl, hV⟩
  have f0 : (z_g0 τ).1 43 0 = (z_f0 σ).1 0 13 := by rw [hMg.1.1, hC0.1.1]
  rw [f0] at hV
  by_cases c1 : z_rng t (nI (cK (aG a))) = false
  · rw [if_pos c1] at hV ⊢
    rw [if_pos c1, if_pos c1]
    exact ⟨rfl, hV⟩
  · rw [if_neg c1] at hV ⊢
    rw [if_neg c1, if_neg c1]
    by_cases c2 : m < 0 ∨ ¬ m ≤ 999
    · have c2' := (z_wi_or 0 999).mpr c2
      rw [if_pos c2'] at hV ⊢
      rw [if_pos c2, if_pos c2]
      exact ⟨rfl, hV⟩
    · have c2' : ¬ z_wi m 0 999 = false := fun q => c2 ((z_wi_or 0 999).mp q)
      rw [if_neg c2'] at hV ⊢
      rw [if_neg c2, if_neg c2]
      refine ⟨?_, hV⟩
      by_cases c3 : z_tC (z_f0 σ) sh la i n 1 = 0
      · rw [if_pos c3, if_pos c3, z_atO_c (e3 c3) b2 ho.1.1.1]
      · rw [if_neg c3, if_neg c3]
theorem z_wi01 (w : Int32) : z_wi w 0 1 = (decide (w = 0) || decide (w = 1)) := by
  cases e : z_wi w 0 1 with
  | true =>
    unfold z_wi at e
    rw [Bool.and_eq_true] at e
    have h1 : ¬ w < 0 := by simpa using e.1
    have h2 : ¬ (1 : Int32) < w := by simpa using e.2
    obtain ⟨j, hj, rfl⟩ := nI_of h1
    rw [show (1 : Int32) = nI 1 from rfl, nI_lt_iff (by decide) hj] at h2
    rcases (show j = 0 ∨ j = 1 by omega) with rfl | rfl <;> rfl
  | false =>
    symm
    rw [Bool.or_eq_false_iff]
    refine ⟨decide_eq_false (fun q => ?_), decide_eq_false (fun q => ?_)⟩
    · subst q; revert e; decide
    · subst q; revert e; decide
theorem i_dry {σ : zS} (h : iN σ) (sh la i n w : Int32) : iOp true mX5_dry mX6_dry 7 7 [.ref 0, .int sh, .int la, .int i, .int n, .int w] [.ref 43, .int sh, .int la, .int i, .int n, .int w] σ := by
  obtain ⟨a, ho, hC, hM⟩ := h
  have hC0 := hC.f0
  have ho0 : aOk (aSF a 0) := ho
  have h1 := s_dryC 3 σ (z_f0 σ) rfl sh la i n w (N := cN (aG a)) (K := cK (aG a)) hC0.n.1 ho.1.1.1 hC0.n.2 ho.1.1.2 (hC0.hz ho0 sh) (c := aG a) (fun hN => ⟨(ho.2.2.1 hN).1, hC0.2.1.1⟩) hC0.2.2.2.2.1 (z_b (z_wi w 0 1)) (by rw [z_wi01])
  refine iOp_w ho hC hM (h1.mono (fun rv τ hh => ⟨hh.1, hh.2.x⟩)) (fun τ hMτ => ?_)
  have hMg := hMτ.g0
  obtain ⟨c', b1, b2⟩ := hMg.2.1
  have b2 : gEq (aG a) c' := b2
  have h2 := s_dryM 3 τ (z_g0 τ) rfl sh la i n w (N := cN (aG a)) (K := cK (aG a)) hMg.n.1 ho.1.1.1 hMg.n.2 ho.1.1.2 (hMg.hz2 sh) (c := c') (fun hN => ⟨b2.wf (ho.2.2.1 hN).1, b1⟩) _ rfl
  obtain ⟨e1, e2, e3⟩ := i_tC ho0 hC0 hMg rfl rfl rfl rfl rfl sh la i n (z_b (z_wi w 0 1))
  rw [e1, e2] at h2
  refine h2.mono ?_
  rintro rv υ ⟨rfl, hV⟩
  refine ⟨?_, hV⟩
  by_cases c1 : z_tC (z_f0 σ) sh la i n (z_b (z_wi w 0 1)) = 0
  · rw [if_pos c1, if_pos c1, z_dryO_c (e3 c1) b2 ho.1.1.1]
  · rw [if_neg c1, if_neg c1]
theorem i_since {σ : zS} (h : iN σ) (sh la i n : Int32) : iOp false mX5_since mX6_since 7 7 [.ref 0, .int sh, .int la, .int i, .int n] [.ref 43, .int sh, .int la, .int i, .int n] σ := by
  obtain ⟨a, ho, hC, hM⟩ := h
  have hC0 := hC.f0
  have ho0 : aOk (aSF a 0) := ho
  have h1 := s_sinceC 2 σ (z_f0 σ) rfl sh la i n (N := cN (aG a)) (K := cK (aG a)) hC0.n.1 ho.1.1.1 hC0.n.2 ho.1.1.2 (hC0.hz ho0 sh) (c := aG a) (fun hN => ⟨(ho.2.2.1 hN).1, hC0.2.1.1⟩) hC0.2.1.2 hC0.2.2.2.2.1 hC0.2.2.2.1.1 hC0.2.2.2.1.2
  refine iOp_w ho hC hM h1 (fun τ hMτ => ?_)
  have hMg := hMτ.g0
  obtain ⟨c', b1, b2⟩ := hMg.2.1
  have b2 : gEq (aG a) c' := b2
  have h2 := s_sinceM 2 τ (z_g0 τ) rfl sh la i n (N := cN (aG a)) (K := cK (aG a)) hMg.n.1 ho.1.1.1 hMg.n.2 ho.1.1.2 (hMg.hz2 sh) (c := c') (fun hN => ⟨b2.wf (ho.2.2.1 hN).1, b1⟩) hMg.2.2.2.1 hMg.2.2.2.2
  obtain ⟨e1, e2, e3⟩ := i_tC ho0 hC0 hMg rfl rfl rfl rfl rfl sh la i n 1
  rw [e1, e2] at h2
  refine h2.mono ?_
  rintro rv υ ⟨rfl, hV⟩
  refine ⟨?_, hV⟩
  by_cases c1 : z_tC (z_f0 σ) sh la i n 1 = 0
  · rw [if_pos c1, if_pos c1, z_sn_c 31 (fun v _ => (wAs_c (e3 c1) (b2.rain (nI v)) ho.1.1.1 _ _ _ _).symm)]
  · rw [if_neg c1, if_neg c1]
theorem i_kinds {σ : zS} (h : iN σ) (t sh la i n : Int32) : iOp false mX5_kinds mX6_kinds 7 7 [.ref 0, .int t, .int sh, .int la, .int i, .int n] [.ref 43, .int t, .int sh, .int la, .int i, .int n] σ := by
  obtain ⟨a, ho, hC, hM⟩ := h
  have hC0 := hC.f0
  have ho0 : aOk (aSF a 0) := ho
  have h1 := s_kindsC 2 σ (z_f0 σ) rfl t sh la i n (N := cN (aG a)) (K := cK (aG a)) hC0.n.1 ho.1.1.1 hC0.n.2 ho.1.1.2 (hC0.hz ho0 sh) (c := aG a) (fun hN => ⟨(ho.2.2.1 hN).1, hC0.2.1.1⟩) hC0.2.1.2 hC0.2.2.2.2.1 hC0.2.2.2.1.1 hC0.2.2.2.1.2
  refine iOp_w ho hC hM h1 (fun τ hMτ => ?_)
  have hMg := hMτ.g0
  obtain ⟨c', b1, b2⟩ := hMg.2.1
  have b2 : gEq (aG a) c' := b2
  have h2 := s_kindsM 2 τ (z_g0 τ) rfl t sh la i n (N := cN (aG a)) (K := cK (aG a)) hMg.n.1 ho.1.1.1 hMg.n.2 ho.1.1.2 (hMg.hz2 sh) (c := c') (fun hN => ⟨b2.wf (ho.2.2.1 hN).1, b1⟩) hMg.2.2.2.1 hMg.2.2.2.2
  obtain ⟨e1, e2, e3⟩ := i_tC ho0 hC0 hMg rfl rfl rfl rfl rfl sh la i n 1
  rw [e1, e2] at h2
  refine h2.mono ?_
  rintro rv υ ⟨rfl, hV⟩
  have f0 : (z_g0 τ).1 43 0 = (z_f0 σ).1 0 13 := by rw [hMg.1.1, hC0.1.1]
  rw [f0] at hV
  refine ⟨?_, hV⟩
  by_cases c0 : z_rng t (nI (cK (aG a))) = false
  · rw [if_pos c0, if_pos c0]
  rw [if_neg c0, if_neg c0]
  by_cases c1 : z_tC (z_f0 σ) sh la i n 1 = 0
  · rw [if_pos c1, if_pos c1, z_sn_c 3 (fun v _ => (wAs_c (e3 c1) (b2.kind t.toNatClampNeg (nI v)) ho.1.1.1 _ _ _ _).symm)]
  · rw [if_neg c1, if_neg c1]
