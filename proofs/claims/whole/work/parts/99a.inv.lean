/-! what class and model hold in common: fault, trace, portage, lanes, sizes, cells, readings -/
abbrev zI : Type := Int32 × Int32 × zG × (Nat → Int32) × (Nat → Nat) × (Nat → Nat → Int32) × Nat × (Nat → Nat) × (Nat → Nat) × (Nat → Int32)
def aF (a : zI) : Int32 := a.1
def aT (a : zI) : Int32 := a.2.1
def aG (a : zI) : zG := a.2.2.1
def aL (a : zI) : Nat → Int32 := a.2.2.2.1
def aZ (a : zI) : Nat → Nat := a.2.2.2.2.1
def aC (a : zI) : Nat → Nat → Int32 := a.2.2.2.2.2.1
def aQ (a : zI) : Nat := a.2.2.2.2.2.2.1
def aRt (a : zI) : Nat → Nat := a.2.2.2.2.2.2.2.1
def aRm (a : zI) : Nat → Nat := a.2.2.2.2.2.2.2.2.1
def aRs (a : zI) : Nat → Int32 := a.2.2.2.2.2.2.2.2.2
def aSF (a : zI) (f : Int32) : zI := (f, aT a, aG a, aL a, aZ a, aC a, aQ a, aRt a, aRm a, aRs a)
def aST (a : zI) (t : Int32) : zI := (aF a, t, aG a, aL a, aZ a, aC a, aQ a, aRt a, aRm a, aRs a)
def aSG (a : zI) (c : zG) : zI := (aF a, aT a, c, aL a, aZ a, aC a, aQ a, aRt a, aRm a, aRs a)
def aSS (a : zI) (l : Nat → Int32) (z : Nat → Nat) (cl : Nat → Nat → Int32) : zI := (aF a, aT a, aG a, l, z, cl, aQ a, aRt a, aRm a, aRs a)
def aSR (a : zI) (q : Nat) (rt rm : Nat → Nat) (rs : Nat → Int32) : zI := (aF a, aT a, aG a, aL a, aZ a, aC a, q, rt, rm, rs)
def iC (σ : zS) (a : zI) : Prop := (σ.1 0 13 = aF a ∧ σ.1 0 12 = aT a) ∧ (gC 1 σ (aG a) ∧ ∀ j, j < 3 → σ.1 4 j = 0 ∨ σ.1 4 j = 1) ∧ (∀ k, k < 4 → σ.1 (14 + k) 0 = aL a k ∧ σ.1 (14 + k) 1 = nI (aZ a k) ∧ ∀ j, j < 60 → σ.1 (14 + k + 4) j = aC a k j) ∧ (σ.1 22 0 = nI (aQ a) ∧ gRd σ 23 24 25 (aQ a) (aRt a) (aRm a) (aRs a)) ∧ σ.1 29 0 = 0 ∧ (1 ≤ cN (aG a) → gCh σ (aG a) ∧ gCf σ (aG a))
def iM (σ : zS) (a : zI) : Prop := (σ.1 43 0 = aF a ∧ σ.1 43 1 = aT a) ∧ (∃ c', gM σ c' ∧ gEq (aG a) c') ∧ (∀ k, k < 4 → σ.1 44 k = aL a k ∧ (∃ z, z ≤ 60 ∧ σ.1 45 k = nI z) ∧ (aL a k ≠ -9 → σ.1 45 k = nI (aZ a k) ∧ ∀ j, j < 60 → σ.1 46 (60 * k + j) = aC a k j)) ∧ (σ.1 43 34 = nI (aQ a) ∧ gRd σ 60 61 62 (aQ a) (aRt a) (aRm a) (aRs a))
def aOk (a : zI) : Prop := ((cN (aG a) ≤ 3 ∧ cK (aG a) ≤ 4) ∧ (cN (aG a) = 0 ↔ cK (aG a) = 0)) ∧ cM (aG a) = 9 ∧ (1 ≤ cN (aG a) → gWf (aG a) ∧ ∃ b, b ≤ 36 ∧ cB (aG a) = nI b) ∧ (∀ k, k < 4 → (aL a k = -9 ∨ aL a k = 0 ∨ aL a k = 1 ∨ aL a k = 2) ∧ aZ a k ≤ 60)
def iN (σ : zS) : Prop := ∃ a, aOk a ∧ iC σ a ∧ iM σ a
def iS (σ τ : zS) : Prop := τ.1 63 = σ.1 63 ∧ τ.1 64 = σ.1 64
theorem iS.rf {σ : zS} : iS σ σ := ⟨rfl, rfl⟩
def iV : Bool → Value → Prop
  | false, v => ∃ w, v = .int w
  | true, v => ∃ w, v = .long w
/-- one call of both: equal answers, and what they hold in common again -/
def iOp (lg : Bool) (mc mm : zM) (dc dm : Nat) (ac am : List Value) (σ : zS) : Prop := z_Ex mc dc ac σ (fun rv τ => ∃ v, rv = some v ∧ iV lg v ∧ iS σ τ ∧ z_Ex mm dm am τ (fun rv' υ => rv' = some v ∧ iN υ ∧ iS σ υ))
theorem iOp_fn {lg : Bool} {mc mm : zM} {dc dm : Nat} {ac am : List Value} {σ τ υ : zS} {v v' : Value} (h1 : z_Fn mc dc ac σ v τ) (h2 : z_Fn mm dm am τ v' υ) (hv : v' = v) (hI : iN υ) (hs : iS σ υ) (h1s : iS σ τ := by first | exact iS.rf | (constructor <;> simp (disch := omega) only [z_f0, z_g0, z_fg, z_lv, z_mv, z_rd, z_st_row, z_fill_row])) (hvt : iV lg v := by exact ⟨_, rfl⟩) : iOp lg mc mm dc dm ac am σ := by
  refine z_Ex.mono h1 ?_
  rintro rv τ' ⟨rfl, rfl⟩
  refine ⟨v, rfl, hvt, h1s, z_Ex.mono h2 ?_⟩
  rintro rv' υ' ⟨rfl, rfl⟩
  exact ⟨by rw [hv], hI, hs⟩
theorem gRd.rows {σ τ : zS} {a0 a1 a2 q : Nat} {rt rm : Nat → Nat} {rs : Nat → Int32} (h : gRd σ a0 a1 a2 q rt rm rs) (h0 : τ.1 a0 = σ.1 a0) (h1 : τ.1 a1 = σ.1 a1) (h2 : τ.1 a2 = σ.1 a2) : gRd τ a0 a1 a2 q rt rm rs := by
  unfold gRd
  rw [h0, h1, h2]
  exact h
/-- rows that the class's part looks at -/
theorem iC.of {σ τ : zS} {a : zI} (h : iC σ a) (h0 : ∀ j, 7 ≤ j → τ.1 0 j = σ.1 0 j) (h1 : ∀ q, (1 ≤ q ∧ q ≤ 6) ∨ (14 ≤ q ∧ q ≤ 25) ∨ q = 42 → τ.1 q = σ.1 q) (h29 : τ.1 29 0 = σ.1 29 0) : iC τ a := by
  obtain ⟨⟨a1, a2⟩, ⟨b1, b2⟩, c1, ⟨d1, d2⟩, e1, f1⟩ := h
  refine ⟨⟨by rw [h0 13 (by decide)]; exact a1, by rw [h0 12 (by decide)]; exact a2⟩, ⟨?_, fun j hj => by rw [h1 4 (by omega)]; exact b2 j hj⟩, fun k hk => ?_, ⟨by rw [h1 22 (by omega)]; exact d1, d2.rows (h1 23 (by omega)) (h1 24 (by omega)) (h1 25 (by omega))⟩, by rw [h29]; exact e1, fun hN => ?_⟩
  · unfold gC
    rw [h1 1 (by omega), h1 (1 + 1) (by omega), h1 (1 + 2) (by omega), h1 (1 + 3) (by omega), h1 (1 + 4) (by omega), h1 (1 + 5) (by omega)]
    exact b1
  · rw [h1 (14 + k) (by omega), h1 (14 + k + 4) (by omega)]
    exact c1 k hk
  · have := f1 hN
    unfold gCh gCf
    rw [h0 7 (by decide), h0 8 (by decide), h0 9 (by decide), h0 10 (by decide), h0 11 (by decide), h1 42 (by omega)]
    exact this
theorem iM.of {σ τ : zS} {a : zI} (h : iM σ a) (h0 : ∀ j, j = 0 ∨ j = 1 ∨ j = 5 ∨ j = 6 ∨ j = 7 ∨ j = 8 ∨ j = 14 ∨ j = 34 → τ.1 43 j = σ.1 43 j) (h1 : ∀ q, (44 ≤ q ∧ q ≤ 51) ∨ (60 ≤ q ∧ q ≤ 62) → τ.1 q = σ.1 q) : iM τ a := by
  obtain ⟨⟨a1, a2⟩, ⟨c', b1, b2⟩, c1, ⟨d1, d2⟩⟩ := h
  refine ⟨⟨by rw [h0 0 (by omega)]; exact a1, by rw [h0 1 (by omega)]; exact a2⟩, ⟨c', ?_, b2⟩, fun k hk => ?_, ⟨by rw [h0 34 (by omega)]; exact d1, d2.rows (h1 60 (by omega)) (h1 61 (by omega)) (h1 62 (by omega))⟩⟩
  · unfold gM
    rw [h0 7 (by omega), h0 6 (by omega), h0 14 (by omega), h0 5 (by omega), h0 8 (by omega), h1 50 (by omega), h1 51 (by omega), h1 47 (by omega), h1 48 (by omega), h1 49 (by omega)]
    exact b1
  · rw [h1 44 (by omega), h1 45 (by omega), h1 46 (by omega)]
    exact c1 k hk
theorem iC.hi {σ : zS} {a : zI} (h : iC σ a) {r : Nat} (hr : 43 ≤ r) (j : Nat) (v : Int32) : iC (z_st σ r j v) a := h.of (fun j _ => by rw [z_st_row _ _ _ (by omega)]) (fun q hq => z_st_row _ _ _ (by omega)) (by rw [z_st_row _ _ _ (by omega)])
theorem iM.lo {σ : zS} {a : zI} (h : iM σ a) {r : Nat} (hr : r < 43) (j : Nat) (v : Int32) : iM (z_st σ r j v) a := h.of (fun j _ => by rw [z_st_row _ _ _ (by omega)]) (fun q hq => z_st_row _ _ _ (by omega))
theorem iC.flt {σ : zS} {a : zI} (h : iC σ a) (f : Int32) : iC (z_st σ 0 13 f) (aSF a f) := by
  obtain ⟨⟨a1, a2⟩, ⟨b1, b2⟩, c1, ⟨d1, d2⟩, e1, f1⟩ := h
  have r : ∀ q, q ≠ 0 → (z_st σ 0 13 f).1 q = σ.1 q := fun q hq => z_st_row _ _ _ hq
  have r0 : ∀ j, j ≠ 13 → (z_st σ 0 13 f).1 0 j = σ.1 0 j := fun j hj => z_st_fld _ _ _ hj
  refine ⟨⟨z_st_at _ _ _ _, by rw [r0 12 (by decide)]; exact a2⟩, ⟨?_, fun j hj => by rw [r 4 (by omega)]; exact b2 j hj⟩, fun k hk => ?_, ⟨by rw [r 22 (by omega)]; exact d1, d2.rows (r 23 (by omega)) (r 24 (by omega)) (r 25 (by omega))⟩, by rw [r 29 (by omega)]; exact e1, fun hN => ?_⟩
  · unfold gC
    rw [r 1 (by omega), r (1 + 1) (by omega), r (1 + 2) (by omega), r (1 + 3) (by omega), r (1 + 4) (by omega), r (1 + 5) (by omega)]
    exact b1
  · rw [r (14 + k) (by omega), r (14 + k + 4) (by omega)]
    exact c1 k hk
  · have := f1 hN
    unfold gCh gCf
    rw [r0 7 (by decide), r0 8 (by decide), r0 9 (by decide), r0 10 (by decide), r0 11 (by decide), r 42 (by omega)]
    exact this
theorem iC.trc {σ : zS} {a : zI} (h : iC σ a) (f : Int32) : iC (z_st σ 0 12 f) (aST a f) := by
  obtain ⟨⟨a1, a2⟩, ⟨b1, b2⟩, c1, ⟨d1, d2⟩, e1, f1⟩ := h
  have r : ∀ q, q ≠ 0 → (z_st σ 0 12 f).1 q = σ.1 q := fun q hq => z_st_row _ _ _ hq
  have r0 : ∀ j, j ≠ 12 → (z_st σ 0 12 f).1 0 j = σ.1 0 j := fun j hj => z_st_fld _ _ _ hj
  refine ⟨⟨by rw [r0 13 (by decide)]; exact a1, z_st_at _ _ _ _⟩, ⟨?_, fun j hj => by rw [r 4 (by omega)]; exact b2 j hj⟩, fun k hk => ?_, ⟨by rw [r 22 (by omega)]; exact d1, d2.rows (r 23 (by omega)) (r 24 (by omega)) (r 25 (by omega))⟩, by rw [r 29 (by omega)]; exact e1, fun hN => ?_⟩
  · unfold gC
    rw [r 1 (by omega), r (1 + 1) (by omega), r (1 + 2) (by omega), r (1 + 3) (by omega), r (1 + 4) (by omega), r (1 + 5) (by omega)]
    exact b1
  · rw [r (14 + k) (by omega), r (14 + k + 4) (by omega)]
    exact c1 k hk
  · have := f1 hN
    unfold gCh gCf
    rw [r0 7 (by decide), r0 8 (by decide), r0 9 (by decide), r0 10 (by decide), r0 11 (by decide), r 42 (by omega)]
    exact this
theorem gM.r0 {σ : zS} {c : zG} (h : gM σ c) {j : Nat} (hj : j = 0 ∨ j = 1 ∨ j = 34) (f : Int32) : gM (z_st σ 43 j f) c := by
  unfold gM
  rw [z_st_fld _ _ _ (by omega), z_st_fld _ _ _ (by omega), z_st_fld _ _ _ (by omega), z_st_fld _ _ _ (by omega), z_st_fld _ _ _ (by omega), z_st_row _ _ _ (by decide), z_st_row _ _ _ (by decide), z_st_row _ _ _ (by decide), z_st_row _ _ _ (by decide), z_st_row _ _ _ (by decide)]
  exact h
theorem iM.flt {σ : zS} {a : zI} (h : iM σ a) (f : Int32) : iM (z_st σ 43 0 f) (aSF a f) := by
  obtain ⟨⟨a1, a2⟩, ⟨c', b1, b2⟩, c1, ⟨d1, d2⟩⟩ := h
  have r : ∀ q, q ≠ 43 → (z_st σ 43 0 f).1 q = σ.1 q := fun q hq => z_st_row _ _ _ hq
  refine ⟨⟨z_st_at _ _ _ _, by rw [z_st_fld _ _ _ (by decide)]; exact a2⟩, ⟨c', b1.r0 (by omega) f, b2⟩, fun k hk => ?_, ⟨by rw [z_st_fld _ _ _ (by decide)]; exact d1, d2.rows (r 60 (by omega)) (r 61 (by omega)) (r 62 (by omega))⟩⟩
  rw [r 44 (by omega), r 45 (by omega), r 46 (by omega)]
  exact c1 k hk
theorem iM.trc {σ : zS} {a : zI} (h : iM σ a) (f : Int32) : iM (z_st σ 43 1 f) (aST a f) := by
  obtain ⟨⟨a1, a2⟩, ⟨c', b1, b2⟩, c1, ⟨d1, d2⟩⟩ := h
  have r : ∀ q, q ≠ 43 → (z_st σ 43 1 f).1 q = σ.1 q := fun q hq => z_st_row _ _ _ hq
  refine ⟨⟨by rw [z_st_fld _ _ _ (by decide)]; exact a1, z_st_at _ _ _ _⟩, ⟨c', b1.r0 (by omega) f, b2⟩, fun k hk => ?_, ⟨by rw [z_st_fld _ _ _ (by decide)]; exact d1, d2.rows (r 60 (by omega)) (r 61 (by omega)) (r 62 (by omega))⟩⟩
  rw [r 44 (by omega), r 45 (by omega), r 46 (by omega)]
  exact c1 k hk
theorem iS.st {σ τ : zS} (h : iS σ τ) {r : Nat} (hr : r < 63) (j : Nat) (v : Int32) : iS σ (z_st τ r j v) := ⟨by rw [z_st_row _ _ _ (by omega)]; exact h.1, by rw [z_st_row _ _ _ (by omega)]; exact h.2⟩
/-! facts of both sides, as numbers -/
theorem iC.n {σ : zS} {a : zI} (h : iC σ a) : σ.1 1 2 = nI (cN (aG a)) ∧ σ.1 1 6 = nI (cK (aG a)) := ⟨h.2.1.1.1.2.1, h.2.1.1.1.1⟩
theorem iM.n {σ : zS} {a : zI} (h : iM σ a) : σ.1 43 6 = nI (cN (aG a)) ∧ σ.1 43 7 = nI (cK (aG a)) := by
  obtain ⟨c', b1, b2⟩ := h.2.1
  exact ⟨by rw [b1.1.2.1, ← b2.2.1], by rw [b1.1.1, ← b2.1]⟩
theorem z_there {N : Nat} (h : N ≤ 3) : z_pos (nI N) = false ↔ nI N = 0 := by
  rw [z_pos_nat (by omega)]
  constructor
  · intro q
    rw [show N = 0 by have := of_decide_eq_false q; omega]; rfl
  · intro q
    rw [show N = 0 from nI_inj (b := 0) (by omega) (by decide) q]; rfl
theorem z_rngK {k : Int32} {K : Nat} (hK : K ≤ 4) (h : z_rng k (nI K) = true) : ∃ t, t < K ∧ k = nI t ∧ k.toNatClampNeg = t := by
  unfold z_rng at h
  rw [Bool.and_eq_true] at h
  have h1 : ¬ k < 0 := by simpa using h.1
  have h2 : ¬ nI K ≤ k := by simpa using h.2
  obtain ⟨j, hj, rfl⟩ := nI_of h1
  rw [nI_le_iff (by omega) hj] at h2
  exact ⟨j, by omega, rfl, nI_clamp hj⟩
theorem z_wi_or {v : Int32} (lo hi : Int32) : z_wi v lo hi = false ↔ v < lo ∨ ¬ v ≤ hi := by
  unfold z_wi
  rw [Int32.not_le]
  by_cases h1 : v < lo <;> by_cases h2 : hi < v <;> simp [h1, h2]
/-! calls that change nothing -/
theorem i_ofStage {σ : zS} (h : iN σ) (k w : Int32) : iOp false mX5_ofStage mX6_ofStage 7 7 [.ref 0, .int k, .int w] [.ref 43, .int k, .int w] σ := by
  have hI := h
  obtain ⟨a, ho, hC, hM⟩ := h
  refine iOp_fn (s_ofStageC 6 σ k w hC.n.1 ho.1.1.1) (s_ofStageM 6 σ k w hM.n.1 ho.1.1.1) ?_ hI iS.rf
  rw [hC.n.1, hM.n.1]
  congr 1
  unfold z_ofSt
  cases e : z_rng k (nI (cN (aG a))) with
  | false => rfl
  | true =>
    obtain ⟨t, ht, -, et⟩ := z_rngK (by have := ho.1.1.1; omega) e
    obtain ⟨c', b1, b2⟩ := hM.2.1
    have q := b2.2.2.2.2.1 t ht
    have b := hC.2.1.1.2.2.1
    rw [et, b1.2.2.1.1, b1.2.2.1.2.1, b1.2.2.1.2.2, ← q.1, ← q.2.1, ← q.2.2, show σ.1 2 = _ from b.1, show σ.1 3 = _ from b.2.1, show σ.1 4 = _ from b.2.2]
theorem i_ofThing {σ : zS} (h : iN σ) (k w : Int32) : iOp false mX5_ofThing mX6_ofThing 7 7 [.ref 0, .int k, .int w] [.ref 43, .int k, .int w] σ := by
  have hI := h
  obtain ⟨a, ho, hC, hM⟩ := h
  refine iOp_fn (s_ofThingC 6 σ k w hC.n.2 ho.1.1.2) (s_ofThingM 6 σ k w hM.n.2 ho.1.1.2) ?_ hI iS.rf
  rw [hC.n.2, hM.n.2]
  congr 1
  unfold z_ofTh
  cases e : z_rng k (nI (cK (aG a))) with
  | false => rfl
  | true =>
    obtain ⟨t, ht, -, et⟩ := z_rngK ho.1.1.2 e
    obtain ⟨c', b1, b2⟩ := hM.2.1
    have q := b2.2.2.2.1 t ht
    have b := hC.2.1.1.2.1
    rw [et, b1.2.1.1, b1.2.1.2, ← q.1, ← q.2, show σ.1 5 = _ from b.1, show σ.1 6 = _ from b.2]
theorem i_trace {σ : zS} (h : iN σ) : iOp false mX5_trace mX6_trace 7 7 [.ref 0] [.ref 43] σ := by
  have hI := h
  obtain ⟨a, ho, hC, hM⟩ := h
  exact iOp_fn (s_traceC 7 σ) (s_traceM 7 σ) (by rw [hC.1.2, hM.1.2]) hI iS.rf
theorem i_fault {σ : zS} (h : iN σ) : iOp false mX5_fault mX6_fault 7 7 [.ref 0] [.ref 43] σ := by
  have hI := h
  obtain ⟨a, ho, hC, hM⟩ := h
  exact iOp_fn (s_faultC 7 σ) (s_faultM 7 σ) (by rw [hC.1.1, hM.1.1]) hI iS.rf
theorem i_many {σ : zS} (h : iN σ) (w : Int32) : iOp false mX5_many mX6_many 7 7 [.ref 0, .int w] [.ref 43, .int w] σ := by
  have hI := h
  obtain ⟨a, ho, hC, hM⟩ := h
  refine iOp_fn (s_manyC 7 σ w) (s_manyM 7 σ w) ?_ hI iS.rf
  obtain ⟨c', b1, b2⟩ := hM.2.1
  rw [hC.n.1, hC.n.2, hM.n.1, hM.n.2, hC.2.1.1.2.2.2.1, b1.2.2.2.1, ← b2.2.2.2.2.2.1, hC.2.2.2.1.1, hM.2.2.2.1]
theorem gb_all {x : Int32} {K : Nat} (hK : K ≤ 4) : z_os x (nI K) = true → ∃ y, y < 2 ^ K ∧ x = nI y := by
  intro h
  have h1 := z_ushr_os x hK
  unfold z_os at h
  unfold z_wi at h
  rw [Bool.and_eq_true] at h
  have h2 : ¬ x < 0 := by simpa using h.1
  obtain ⟨y, hy, rfl⟩ := nI_of h2
  have h3 := h.2
  unfold z_all at h3
  rw [z_allN K (by omega)] at h3
  have h4 : ¬ nI (2 ^ K - 1) < nI y := by simpa using h3
  have h5 : 2 ^ K ≤ 2 ^ 4 := Nat.pow_le_pow_right (by decide) hK
  have h6 : 1 ≤ 2 ^ K := Nat.one_le_two_pow
  rw [nI_lt_iff (by omega) hy] at h4
  exact ⟨y, by omega, rfl⟩
theorem i_well {σ : zS} (h : iN σ) (x : Int32) : iOp false mX5_well mX6_well 7 7 [.ref 0, .int x] [.ref 43, .int x] σ := by
  have hI := h
  obtain ⟨a, ho, hC, hM⟩ := h
  have hK4 := ho.1.1.2
  refine iOp_fn (s_wellC 5 σ x hC.n.2 hK4) (s_wellM 5 σ x hM.n.2 hK4) ?_ hI iS.rf
  rw [hC.n.1, hC.n.2, hM.n.1, hM.n.2]
  congr 1
  have e1 := z_ushr_os x hK4
  have e2 : z_os x (nI (cK (aG a))) = z_wi x 0 (z_all (nI (cK (aG a)))) := rfl
  rw [← e2, ← e1]
  by_cases c1 : z_ushr x (nI (cK (aG a))) = 0
  · rw [decide_eq_true c1, if_neg (by decide), if_neg (show ¬ ¬ z_ushr x (nI (cK (aG a))) = 0 from fun q => q c1)]
    by_cases c2 : nI (cN (aG a)) = 0
    · rw [if_pos c2, if_pos ((z_there ho.1.1.1).mpr c2)]
    · rw [if_neg c2, if_neg (fun q => c2 ((z_there ho.1.1.1).mp q))]
      rw [decide_eq_true c1] at e1
      obtain ⟨y, hy, rfl⟩ := gb_all hK4 e1.symm
      have h5 : 2 ^ cK (aG a) ≤ 2 ^ 4 := Nat.pow_le_pow_right (by decide) hK4
      have hN1 : 1 ≤ cN (aG a) := by
        rcases Nat.eq_zero_or_pos (cN (aG a)) with e | e
        · rw [e] at c2; exact absurd rfl c2
        · exact e
      have hw := (ho.2.2.1 hN1).1
      obtain ⟨c', b1, b2⟩ := hM.2.1
      rw [show σ.1 5 = _ from hC.2.1.1.2.1.1, b1.2.1.1, z_wo_wm (by omega) hK4 hw.2.2.1 _ (Nat.le_refl _), z_wm_congr (fun t ht => (b2.2.2.2.1 t ht).1) _ (Nat.le_refl _)]
  · rw [decide_eq_false c1, if_pos rfl, if_pos c1]
