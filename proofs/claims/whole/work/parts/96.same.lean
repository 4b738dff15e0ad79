/-! the same portage has the same answers -/
def gq (g g' : zX) : Prop := ∀ s, s < 1024 → ∀ mv, g.1 s mv = g'.1 s mv ∧ ∀ s', g.1 s mv = some s' → ∀ m, g.2 s mv m = g'.2 s mv m
theorem gq.symm {g g' : zX} (h : gq g g') : gq g' g := fun s hs mv => ⟨(h s hs mv).1.symm, fun s' he m => ((h s hs mv).2 s' ((h s hs mv).1.trans he) m).symm⟩
theorem gq.gr {g g' : zX} (h : gq g g') (hg : pGr g) : pGr g' := by
  obtain ⟨a1, a2, a3⟩ := hg
  refine ⟨fun s mv s' hs he => a1 s mv s' hs ((h s hs mv).1.trans he), fun s mv s' m hs he => ?_, fun s mv s' m m' hs he hm hm' => ?_⟩
  · have e := (h s hs mv).1.trans he
    rw [← (h s hs mv).2 s' e m]
    exact a2 s mv s' m hs e
  · have e := (h s hs mv).1.trans he
    rw [← (h s hs mv).2 s' e m, ← (h s hs mv).2 s' e m']
    exact a3 s mv s' m m' hs e hm hm'
theorem pR_lt {g : zX} (hg : pGr g) : ∀ k s t, pR g k s t → s < 1024
  | 0, s, t, h => by rw [h.1]; decide
  | k + 1, s, t, h => by
    obtain ⟨s', t', mv, h1, -, -, h4, -⟩ := h
    exact hg.1 s' mv s (pR_lt hg k s' t' h1) h4
theorem gq.R {g g' : zX} (h : gq g g') (hg : pGr g) : ∀ k s t, pR g k s t → pR g' k s t
  | 0, s, t, hr => hr
  | k + 1, s, t, hr => by
    obtain ⟨s', t', mv, h1, h2, h3, h4, h5⟩ := hr
    have hs' := pR_lt hg k s' t' h1
    have e := h s' hs' mv
    exact ⟨s', t', mv, h.R hg k s' t' h1, h2, h3, e.1.symm.trans h4, by rw [h5, e.2 s h4]⟩
theorem gq.D {g g' : zX} (h : gq g g') (hg : pGr g) {b : Nat} {T : Nat → Nat} (hD : pD g b T) : pD g' b T := by
  obtain ⟨a1, a2, a3, a4⟩ := hD
  refine ⟨a1, fun s hs hf => ?_, fun s hs hb hf mv hm s' he => ?_, a4⟩
  · obtain ⟨k, hk⟩ := a2 s hs hf
    exact ⟨k, h.R hg k s _ hk⟩
  · have e := (h s hs mv).1.trans he
    rw [← (h s hs mv).2 s' e]
    exact a3 s hs hb hf mv hm s' e
theorem gq.Ti {g g' : zX} (h : gq g g') {T : Nat → Nat} {s mv s' : Nat} (hs : s < 1024) (ht : pTi g T s mv s') : pTi g' T s mv s' := by
  obtain ⟨a1, a2, a3⟩ := ht
  exact ⟨a1, (h s hs mv).1.symm.trans a2, by rw [← (h s hs mv).2 s' a2]; exact a3⟩
theorem gq.P {g g' : zX} (h : gq g g') (hg : pGr g) {T : Nat → Nat} {e : Nat} : ∀ n s, s < 1024 → pP g T e n s → pP g' T e n s
  | 0, s, _, hp => hp
  | n + 1, s, hs, hp => by
    obtain ⟨mv, s', hm, ht, hp⟩ := hp
    exact ⟨mv, s', hm, h.Ti hs ht, h.P hg n s' (hg.1 s mv s' hs ht.2.1) hp⟩
theorem gq.L {g g' : zX} (h : gq g g') (hg : pGr g) {T : Nat → Nat} {e : Nat} {L : Nat → Nat} (hL : pL g T e L) : pL g' T e L := fun s hs =>
  ⟨fun hf => h.P hg _ s hs ((hL s hs).1 hf), fun n hp => (hL s hs).2.1 n (h.symm.P (h.gr hg) n s hs hp), (hL s hs).2.2⟩
theorem gq.Nx {g g' : zX} (h : gq g g') {T L : Nat → Nat} {s mv s' : Nat} (hs : s < 1024) (hn : pNx g T L s mv s') : pNx g' T L s mv s' :=
  ⟨hn.1, h.Ti hs hn.2.1, hn.2.2.1, fun mv' s'' hm ht => hn.2.2.2 mv' s'' hm (h.symm.Ti hs ht)⟩
theorem gq.Q {g g' : zX} (h : gq g g') (hg : pGr g) {T L : Nat → Nat} : ∀ k s, pQ g T L k s → pQ g' T L k s
  | 0, s, hp => hp
  | k + 1, s, hp => by
    obtain ⟨s0, mv, h1, h2⟩ := hp
    exact ⟨s0, mv, h.Q hg k s0 h1, h.Nx (pQ_lt hg k s0 h1) h2⟩
theorem gEq.nX {c c' : zG} (h : gEq c c') (s mv : Nat) : nX c s mv = nX c' s mv := by
  show (if _ then _ else _) = (if _ then _ else _)
  rw [h.ok, h.2.1]
theorem gEq.q {c c' : zG} (h : gEq c c') (hc : gWf c) : gq (nG c) (nG c') := fun s hs mv => ⟨h.nX s mv, fun s' he m => by
  show gTk c (nK s mv) (mv % 16) (gWet c m) = gTk c' (nK s mv) (mv % 16) (gWet c' m)
  rw [h.wet, h.tk (nX_lt hc hs he).2.2.2]⟩
theorem gEq.q1 {c c' : zG} (h : gEq c c') : gq (nG1 c) (nG1 c') := fun s _ mv => ⟨h.nX s mv, fun _ _ _ => rfl⟩
theorem gEq.e {c c' : zG} (h : gEq c c') : nE c = nE c' := by
  unfold nE
  rw [h.1, h.2.1, h.2.2.1]
theorem gEq.tr {c c' : zG} (h : gEq c c') (hc : gWf c) {k : Nat} {w v : Int32} (ht : gTr c k w v) : gTr c' k w v := by
  have q := h.q hc
  have hg := nG_gr hc
  obtain ⟨T, hD, ht⟩ := ht
  refine ⟨T, q.D hg hD, ?_⟩
  rw [← h.e]
  rcases ht with ht | ⟨h1, L, hL, ht⟩
  · exact Or.inl ht
  · refine Or.inr ⟨h1, L, q.L hg hL, ?_⟩
    rcases ht with ht | ⟨h2, h3, s0, mv, s1, h4, h5, h6⟩
    · exact Or.inl ht
    · exact Or.inr ⟨h2, h3, s0, mv, s1, q.Q hg k s0 h4, q.Nx (pQ_lt hg k s0 h4) h5, h6⟩
theorem gEq.sb {c c' : zG} (h : gEq c c') (b : Int32) : gEq (cSB c b) (cSB c' b) := by
  obtain ⟨h1, h2, h3, h4, h5, h6, h7⟩ := h
  exact ⟨h1, h2, h3, h4, h5, rfl, h7⟩
theorem gEq.sm {c c' : zG} (h : gEq c c') (m : Nat) : gEq (cSM c m) (cSM c' m) := by
  obtain ⟨h1, h2, h3, h4, h5, h6, h7⟩ := h
  exact ⟨h1, h2, rfl, h4, h5, h6, h7⟩
theorem gEq.he {c c' : zG} (h : gEq c c') (hc : gWf c) {w v : Int32} (hw : gWf (cSB c (cB c + w))) (ht : gHe c w v) : gHe c' w v := by
  obtain ⟨T, T', h1, h2, h3⟩ := ht
  refine ⟨T, T', (h.q hc).D (nG_gr hc) h1, ?_, ?_⟩
  · rw [← h.2.2.2.2.2.1]
    exact ((h.sb _).q hw).D (nG_gr hw) h2
  · rw [← h.e]
    exact h3
theorem gEq.co {c c' : zG} (h : gEq c c') (hc : gWf c) {t : Nat} {v : Int32} (ht : gCo c t v) : gCo c' t v := by
  obtain ⟨T, h1, h2⟩ := ht
  refine ⟨T, (h.q hc).D (nG_gr hc) h1, ?_⟩
  rw [← h.e, ← h.1]
  rcases h2 with h2 | ⟨h2, h3, T', h4, h5⟩
  · exact Or.inl h2
  · refine Or.inr ⟨h2, h3, T', ((h.sm t).q (cSM_wf hc t)).D (nG_gr (cSM_wf hc t)) h4, ?_⟩
    rw [← (h.sm t).e]
    exact h5
theorem gEq.pl {c c' : zG} (h : gEq c c') (hc : gWf c) (hc' : gWf c') {mins : Int32} {n : Nat} {row : Nat → Int32} (hp : gPl c mins n row) : gPl c' mins n row := by
  have q := h.symm.q hc'
  have hg := nG_gr hc'
  obtain ⟨p1, p2, p3, p4⟩ := hp
  refine ⟨fun T hT => ?_, p2, fun T hT => ?_, fun T L hT hlt hL => ?_⟩
  · rw [← h.e]; exact p1 T (q.D hg hT)
  · rw [← h.e]; exact p3 T (q.D hg hT)
  · rw [← h.e] at hlt hL
    obtain ⟨a, b⟩ := p4 T L (q.D hg hT) hlt (q.L hg hL)
    exact ⟨a, fun x => ⟨(b x).1, fun k hk s0 mv s1 hQ hN => (b x).2 k hk s0 mv s1 (q.Q hg k s0 hQ) (q.Nx (pQ_lt hg k s0 hQ) hN)⟩⟩
