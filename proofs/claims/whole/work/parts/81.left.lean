/-! trips left along the tight moves, purely -/
def pTi (g : zX) (T : Nat → Nat) (s mv s' : Nat) : Prop := T s < 1000000 ∧ g.1 s mv = some s' ∧ T s' = T s + g.2 s mv (T s)
def pP (g : zX) (T : Nat → Nat) (e : Nat) : Nat → Nat → Prop
  | 0, s => s = e
  | n + 1, s => ∃ mv s', mv < 32 ∧ pTi g T s mv s' ∧ pP g T e n s'
def pL (g : zX) (T : Nat → Nat) (e : Nat) (L : Nat → Nat) : Prop := ∀ s, s < 1024 → (L s < 1000000 → pP g T e (L s) s) ∧ (∀ n, pP g T e n s → L s ≤ n) ∧ L s ≤ 1000000
theorem pL_eq {g : zX} {T : Nat → Nat} {e : Nat} {L L' : Nat → Nat} (h : pL g T e L) (h' : pL g T e L') {s : Nat} (hs : s < 1024) : L s = L' s := by
  obtain ⟨a1, a2, a3⟩ := h s hs
  obtain ⟨b1, b2, b3⟩ := h' s hs
  by_cases c : L s < 1000000
  · have := b2 _ (a1 c)
    have := a2 _ (b1 (by omega))
    omega
  · by_cases c' : L' s < 1000000
    · have := a2 _ (b1 c')
      omega
    · omega
theorem pP_le {g : zX} {T : Nat → Nat} {e : Nat} : ∀ n s, pP g T e n s → T s ≤ T e
  | 0, s, h => by rw [show s = e from h]; exact Nat.le_refl _
  | n + 1, s, h => by
    obtain ⟨mv, s', -, ht, hp⟩ := h
    have := pP_le n s' hp
    have := ht.2.2
    omega
theorem pTi_tr {g : zX} {b b' : Nat} {T T' : Nat → Nat} (hg : pGr g) (h : pD g b T) (h' : pD g b' T') {s mv s' : Nat} (hs : s < 1024) (ht : pTi g T s mv s') (h1 : T s' ≤ b) (h2 : T s' ≤ b') : pTi g T' s mv s' := by
  obtain ⟨a1, a2, a3⟩ := ht
  have hs' := hg.1 s mv s' hs a2
  have ht := hg.2.1 s mv s' (T s) hs a2
  have hl := h.2.2.2 s hs
  have e1 := pD_eq hg h h' hs (by omega) a1 (by omega)
  have e2 := pD_eq hg h h' hs' h1 (by omega) h2
  exact ⟨by omega, a2, by rw [e2, e1]; exact a3⟩
theorem pP_tr {g : zX} {b b' : Nat} {T T' : Nat → Nat} {e : Nat} (hg : pGr g) (h : pD g b T) (h' : pD g b' T') (h1 : T e ≤ b) (h2 : T e ≤ b') : ∀ n s, s < 1024 → pP g T e n s → pP g T' e n s
  | 0, s, _, hp => hp
  | n + 1, s, hs, hp => by
    obtain ⟨mv, s', hm, ht, hp⟩ := hp
    have hle := pP_le n s' hp
    exact ⟨mv, s', hm, pTi_tr hg h h' hs ht (by omega) (by omega), pP_tr hg h h' h1 h2 n s' (hg.1 s mv s' hs ht.2.1) hp⟩
theorem pL_tr {g : zX} {b b' : Nat} {T T' : Nat → Nat} {e : Nat} {L : Nat → Nat} (hg : pGr g) (h : pD g b T) (h' : pD g b' T') (he : e < 1024) (h0 : T e < 1000000) (h1 : T e ≤ b) (h2 : T e ≤ b') (hL : pL g T e L) : pL g T' e L := by
  have e1 := pD_eq hg h h' he h1 h0 h2
  intro s hs
  obtain ⟨a1, a2, a3⟩ := hL s hs
  exact ⟨fun q => pP_tr hg h h' h1 h2 _ s hs (a1 q), fun n q => a2 n (pP_tr hg h' h (by omega) (by omega) n s hs q), a3⟩
/-- the first of the best moves -/
def pNx (g : zX) (T L : Nat → Nat) (s mv s' : Nat) : Prop := mv < 32 ∧ pTi g T s mv s' ∧ L s' + 1 = L s ∧ ∀ mv' s'', mv' < mv → pTi g T s mv' s'' → L s'' + 1 ≠ L s
theorem pNx_eq {g : zX} {T L : Nat → Nat} {s mv s' mv2 s2 : Nat} (h : pNx g T L s mv s') (h2 : pNx g T L s mv2 s2) : mv = mv2 ∧ s' = s2 := by
  have e : mv = mv2 := by
    rcases Nat.lt_trichotomy mv mv2 with c | c | c
    · exact absurd h.2.2.1 (h2.2.2.2 mv s' c h.2.1)
    · exact c
    · exact absurd h2.2.2.1 (h.2.2.2 mv2 s2 c h2.2.1)
  subst e
  have := h.2.1.2.1.symm.trans h2.2.1.2.1
  exact ⟨rfl, Option.some.inj this⟩
theorem pNx_tr {g : zX} {b b' : Nat} {T T' : Nat → Nat} {e : Nat} {L L' : Nat → Nat} (hg : pGr g) (h : pD g b T) (h' : pD g b' T') (he : e < 1024) (h0 : T e < 1000000) (h1 : T e ≤ b) (h2 : T e ≤ b') (hL : pL g T e L) (hL' : pL g T' e L') {s mv s' : Nat} (hs : s < 1024) (hf : L s < 1000000) (hn : pNx g T L s mv s') : pNx g T' L' s mv s' := by
  have hLt := pL_tr hg h h' he h0 h1 h2 hL
  have hE : ∀ q, q < 1024 → L q = L' q := fun q hq => pL_eq hLt hL' hq
  have e1 := pD_eq hg h h' he h1 h0 h2
  obtain ⟨a1, a2, a3, a4⟩ := hn
  have hs' := hg.1 s mv s' hs a2.2.1
  have hle := pP_le _ s' ((hL s' hs').1 (by omega))
  refine ⟨a1, pTi_tr hg h h' hs a2 (by omega) (by omega), by rw [← hE s hs, ← hE s' hs']; exact a3, fun mv' s'' hm ht q => ?_⟩
  have hs'' := hg.1 s mv' s'' hs ht.2.1
  rw [← hE s hs, ← hE s'' hs''] at q
  have hle2 := pP_le _ s'' ((hLt s'' hs'').1 (by omega))
  exact a4 mv' s'' hm (pTi_tr hg h' h hs ht (by omega) (by omega)) q
/-- the states of the best row -/
def pQ (g : zX) (T L : Nat → Nat) : Nat → Nat → Prop
  | 0, s => s = 0
  | k + 1, s => ∃ s0 mv, pQ g T L k s0 ∧ pNx g T L s0 mv s
theorem pQ_eq {g : zX} {T L : Nat → Nat} : ∀ k s s', pQ g T L k s → pQ g T L k s' → s = s'
  | 0, s, s', h, h' => (show s = 0 from h).trans (show s' = 0 from h').symm
  | k + 1, s, s', h, h' => by
    obtain ⟨s0, mv, h1, h2⟩ := h
    obtain ⟨s1, mv1, h3, h4⟩ := h'
    have e := pQ_eq k s0 s1 h1 h3
    subst e
    exact (pNx_eq h2 h4).2
theorem pQ_lt {g : zX} {T L : Nat → Nat} (hg : pGr g) : ∀ k s, pQ g T L k s → s < 1024
  | 0, s, h => by rw [show s = 0 from h]; decide
  | k + 1, s, h => by
    obtain ⟨s0, mv, h1, h2⟩ := h
    exact hg.1 s0 mv s (pQ_lt hg k s0 h1) h2.2.1.2.1
theorem pQ_L {g : zX} {T L : Nat → Nat} : ∀ k s, pQ g T L k s → L s + k = L 0
  | 0, s, h => by rw [show s = 0 from h]; omega
  | k + 1, s, h => by
    obtain ⟨s0, mv, h1, h2⟩ := h
    have := pQ_L k s0 h1
    have := h2.2.2.1
    omega
theorem pQ_tr {g : zX} {b b' : Nat} {T T' : Nat → Nat} {e : Nat} {L L' : Nat → Nat} (hg : pGr g) (h : pD g b T) (h' : pD g b' T') (he : e < 1024) (h0 : T e < 1000000) (h1 : T e ≤ b) (h2 : T e ≤ b') (hL : pL g T e L) (hL' : pL g T' e L') (hf : L 0 < 1000000) : ∀ k s, pQ g T L k s → pQ g T' L' k s
  | 0, s, hp => hp
  | k + 1, s, hp => by
    obtain ⟨s0, mv, a1, a2⟩ := hp
    have b1 := pQ_L k s0 a1
    exact ⟨s0, mv, pQ_tr hg h h' he h0 h1 h2 hL hL' hf k s0 a1, pNx_tr hg h h' he h0 h1 h2 hL hL' (pQ_lt hg k s0 a1) (by omega) a2⟩
/-- there is a best move where trips are left -/
theorem pNx_ex {g : zX} {T : Nat → Nat} {e : Nat} {L : Nat → Nat} (hg : pGr g) (hL : pL g T e L) {s : Nat} (hs : s < 1024) (hf : L s < 1000000) (h0 : 1 ≤ L s) : ∃ mv s', mv < 32 ∧ pTi g T s mv s' ∧ L s' + 1 = L s := by
  have hp := (hL s hs).1 hf
  rw [show L s = (L s - 1) + 1 by omega] at hp
  obtain ⟨mv, s', hm, ht, hp'⟩ := hp
  have hs' := hg.1 s mv s' hs ht.2.1
  have a1 := (hL s' hs').2.1 _ hp'
  have a2 := (hL s' hs').1 (by omega)
  have a3 := (hL s hs).2.1 (L s' + 1) ⟨mv, s', hm, ht, a2⟩
  exact ⟨mv, s', hm, ht, by omega⟩
/-! while it is made -/
def pJ (g : zX) (T : Nat → Nat) (e : Nat) (L : Nat → Nat) : Prop := L e = 0 ∧ (∀ s, s < 1024 → L s < 1000000 → pP g T e (L s) s) ∧ (∀ s, s < 1024 → L s = 1000000 ∨ L s + pN L 1024 ≤ 1023)
def pCL (g : zX) (T L : Nat → Nat) (s mv : Nat) : Prop := ∀ s', pTi g T s mv s' → L s' < 1000000 → L s ≤ L s' + 1
def pE0 (e : Nat) : Nat → Nat := fun s => if s = e then 0 else 1000000
theorem pN_E0 {e : Nat} : ∀ n, e < n → pN (pE0 e) n + 1 = n
  | 0, h => by omega
  | n + 1, h => by
    rw [pN]
    by_cases c : n = e
    · subst c
      have : ∀ m, m ≤ n → pN (pE0 n) m = m := by
        intro m
        induction m with
        | zero => intro _; rfl
        | succ m ih => intro hm; rw [pN, ih (by omega), show pE0 n m = 1000000 by simp [pE0, show ¬ m = n by omega], if_pos rfl]
      rw [this n (by omega), show pE0 n n = 0 by simp [pE0], if_neg (by decide)]
    · have := pN_E0 (e := e) n (by omega)
      rw [show pE0 e n = 1000000 by simp [pE0, c], if_pos rfl]
      omega
theorem pJ_0 (g : zX) (T : Nat → Nat) {e : Nat} (he : e < 1024) : pJ g T e (pE0 e) := by
  have hn := pN_E0 1024 he
  refine ⟨by simp [pE0], fun s hs h => ?_, fun s hs => ?_⟩
  · by_cases c : s = e
    · subst c
      rw [show pE0 s s = 0 by simp [pE0]]
      rfl
    · simp [pE0, c] at h
  · by_cases c : s = e
    · subst c
      rw [show pE0 s s = 0 by simp [pE0]]
      omega
    · exact Or.inl (by simp [pE0, c])
theorem pJ_up {g : zX} {T : Nat → Nat} {e : Nat} {L : Nat → Nat} (hg : pGr g) (h : pJ g T e L) {s mv s' : Nat} (hs : s < 1024) (hm : mv < 32) (ht : pTi g T s mv s') (hf : L s' < 1000000) (hlt : L s' + 1 < L s) : pJ g T e (pU L s (L s' + 1)) ∧ pS (pU L s (L s' + 1)) 1024 < pS L 1024 := by
  have hs' := hg.1 s mv s' hs ht.2.1
  have b1 := (h.2.2 s' hs').resolve_left (by omega)
  have hne : s ≠ e := fun q => by rw [q, h.1] at hlt; omega
  have c1 := pN_in L s (L s' + 1) 1024 hs
  have c2 := pS_in L s (L s' + 1) 1024 hs
  rw [if_neg (show ¬ L s' + 1 = 1000000 by omega)] at c1
  refine ⟨⟨?_, fun q hq hqf => ?_, fun q hq => ?_⟩, by omega⟩
  · rw [pU_ne L _ (Ne.symm hne)]; exact h.1
  · by_cases c : q = s
    · subst c
      rw [pU_at]
      exact ⟨mv, s', hm, ht, h.2.1 s' hs' hf⟩
    · rw [pU_ne L _ c] at hqf ⊢
      exact h.2.1 q hq hqf
  · by_cases c : q = s
    · subst c
      rw [pU_at]
      right
      rcases h.2.2 q hq with f | f
      · rw [if_pos f] at c1; omega
      · rw [if_neg (by omega)] at c1; omega
    · rw [pU_ne L _ c]
      rcases h.2.2 q hq with f | f
      · exact Or.inl f
      · right
        split at c1 <;> omega
theorem pL_of {g : zX} {T : Nat → Nat} {e : Nat} {L : Nat → Nat} (hg : pGr g) (h : pJ g T e L) (hc : ∀ s, s < 1024 → ∀ mv, mv < 32 → pCL g T L s mv) : pL g T e L := by
  have hle : ∀ s, s < 1024 → L s ≤ 1000000 := fun s hs => by have := h.2.2 s hs; omega
  have key : ∀ n s, s < 1024 → pP g T e n s → L s ≤ n := by
    intro n
    induction n with
    | zero => intro s hs hp; rw [show s = e from hp, h.1]; exact Nat.le_refl _
    | succ n ih =>
      intro s hs hp
      obtain ⟨mv, s', hm, ht, hp⟩ := hp
      have hs' := hg.1 s mv s' hs ht.2.1
      have a := ih s' hs' hp
      by_cases c : L s' < 1000000
      · have := hc s hs mv hm s' ht c
        omega
      · have := hle s hs
        omega
  exact fun s hs => ⟨h.2.1 s hs, fun n => key n s hs, hle s hs⟩
def pSl (g : zX) (T : Nat → Nat) (e : Nat) (L : Nat → Nat) (s mv : Nat) (b : Bool) (L' : Nat → Nat) : Prop := (b = false ∧ L' = L ∧ pCL g T L s mv) ∨ (b = true ∧ pJ g T e L' ∧ pS L' 1024 < pS L 1024)
def pPl (g : zX) (T : Nat → Nat) (e : Nat) (L0 L : Nat → Nat) (more : Bool) (s x : Nat) : Prop := pJ g T e L ∧ ((more = false ∧ L = L0 ∧ ∀ q, q < 1024 → ∀ mv, mv < 32 → q < s ∨ (q = s ∧ mv % 16 < x) → pCL g T L q mv) ∨ (more = true ∧ pS L 1024 < pS L0 1024))
theorem pPl_0 {g : zX} {T : Nat → Nat} {e : Nat} {L : Nat → Nat} (h : pJ g T e L) : pPl g T e L L false 0 0 := ⟨h, Or.inl ⟨rfl, rfl, fun q _ mv _ hh => by omega⟩⟩
theorem pSl.keep {g : zX} {T : Nat → Nat} {e : Nat} {L L' : Nat → Nat} {s mv : Nat} {b : Bool} (h : pSl g T e L s mv b L') (hI : pJ g T e L) : pJ g T e L' := by
  rcases h with ⟨-, rfl, -⟩ | ⟨-, a, -⟩
  · exact hI
  · exact a
theorem pPl_two {g : zX} {T : Nat → Nat} {e : Nat} {L0 L L1 L2 : Nat → Nat} {more b1 b2 : Bool} {s x : Nat} (hx : x < 16) (h : pPl g T e L0 L more s x) (h1 : pSl g T e L s (16 + x) b1 L1) (h2 : pSl g T e L1 s x b2 L2) : pPl g T e L0 L2 ((more || b1) || b2) s (x + 1) := by
  obtain ⟨hI, h⟩ := h
  rcases h1 with ⟨rfl, rfl, c1⟩ | ⟨rfl, i1, s1⟩
  · rcases h2 with ⟨rfl, rfl, c2⟩ | ⟨rfl, i2, s2⟩
    · refine ⟨hI, h.imp (fun q => ⟨by simp [q.1], q.2.1, fun q1 hq1 mv hm hh => ?_⟩) (fun q => ⟨by simp [q.1], q.2⟩)⟩
      by_cases c : q1 = s ∧ mv % 16 = x
      · obtain ⟨rfl, c⟩ := c
        rcases (show mv = x ∨ mv = 16 + x by omega) with rfl | rfl
        · exact c2
        · exact c1
      · exact q.2.2 q1 hq1 mv hm (by omega)
    · refine ⟨i2, Or.inr ⟨by simp, ?_⟩⟩
      rcases h with h | h
      · rw [h.2.1] at s2; exact s2
      · omega
  · have hs1 : pS L1 1024 < pS L0 1024 := by
      rcases h with h | h
      · rw [h.2.1] at s1; exact s1
      · omega
    rcases h2 with ⟨rfl, rfl, c2⟩ | ⟨rfl, i2, s2⟩
    · exact ⟨i1, Or.inr ⟨by simp, hs1⟩⟩
    · exact ⟨i2, Or.inr ⟨by simp, by omega⟩⟩
theorem pPl_next {g : zX} {T : Nat → Nat} {e : Nat} {L0 L : Nat → Nat} {more : Bool} {s x : Nat} (h : pPl g T e L0 L more s x) (he : ∀ mv, mv < 32 → x ≤ mv % 16 → g.1 s mv = none) : pPl g T e L0 L more (s + 1) 0 := by
  obtain ⟨hI, h⟩ := h
  refine ⟨hI, h.imp (fun q => ⟨q.1, q.2.1, fun q1 hq1 mv hm hh => ?_⟩) id⟩
  by_cases c : q1 < s ∨ (q1 = s ∧ mv % 16 < x)
  · exact q.2.2 q1 hq1 mv hm c
  · have e1 : q1 = s := by omega
    subst e1
    intro s' hs'
    have := hs'.2.1
    rw [he mv hm (by omega)] at this
    cases this
theorem pPl_end {g : zX} {T : Nat → Nat} {e : Nat} {L0 L : Nat → Nat} {x : Nat} (hg : pGr g) (h : pPl g T e L0 L false 1024 x) : pL g T e L ∧ pJ g T e L := by
  obtain ⟨hI, h⟩ := h
  rcases h with h | h
  · exact ⟨pL_of hg hI (fun s hs mv hm => h.2.2 s hs mv hm (Or.inl hs)), hI⟩
  · cases h.1
theorem pPl_more {g : zX} {T : Nat → Nat} {e : Nat} {L0 L : Nat → Nat} {s x : Nat} (h : pPl g T e L0 L true s x) : pJ g T e L ∧ pS L 1024 < pS L0 1024 := by
  obtain ⟨hI, h⟩ := h
  rcases h with h | h
  · cases h.1
  · exact ⟨hI, h.2⟩
