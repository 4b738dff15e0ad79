/-! abstract search: states below 1024, moves below 32; (where a move leads, what it takes from a minute on); 1000000: not reached -/
abbrev zX : Type := (Nat → Nat → Option Nat) × (Nat → Nat → Nat → Nat)
def pGr (g : zX) : Prop := (∀ s mv s', s < 1024 → g.1 s mv = some s' → s' < 1024) ∧ (∀ s mv s' m, s < 1024 → g.1 s mv = some s' → 1 ≤ g.2 s mv m ∧ g.2 s mv m ≤ 29) ∧ (∀ s mv s' m m', s < 1024 → g.1 s mv = some s' → m ≤ m' → m' < 1000000 → m + g.2 s mv m ≤ m' + g.2 s mv m')
def pR (g : zX) : Nat → Nat → Nat → Prop
  | 0, s, t => s = 0 ∧ t = 0
  | k + 1, s, t => ∃ s' t' mv, pR g k s' t' ∧ t' < 1000000 ∧ mv < 32 ∧ g.1 s' mv = some s ∧ t = t' + g.2 s' mv t'
def pCl (g : zX) (T : Nat → Nat) (s mv : Nat) : Prop := ∀ s', g.1 s mv = some s' → T s' ≤ T s + g.2 s mv (T s)
/-- a table of least times, sure up to b -/
def pD (g : zX) (b : Nat) (T : Nat → Nat) : Prop := T 0 = 0 ∧ (∀ s, s < 1024 → T s < 1000000 → ∃ k, pR g k s (T s)) ∧ (∀ s, s < 1024 → T s ≤ b → T s < 1000000 → ∀ mv, mv < 32 → pCl g T s mv) ∧ (∀ s, s < 1024 → T s = 1000000 ∨ T s ≤ 29667)
theorem pD_low {g : zX} {b : Nat} {T : Nat → Nat} (hg : pGr g) (h : pD g b T) : ∀ k s t, pR g k s t → t ≤ b → s < 1024 ∧ T s ≤ t
  | 0, s, t, hr, _ => by
    obtain ⟨rfl, rfl⟩ := hr
    exact ⟨by decide, Nat.le_of_eq h.1⟩
  | k + 1, s, t, hr, hb => by
    obtain ⟨s', t', mv, h1, h2, h3, h4, rfl⟩ := hr
    have ih := pD_low hg h k s' t' h1 (by omega)
    have a1 := hg.1 s' mv s ih.1 h4
    have a2 := h.2.2.1 s' ih.1 (by omega) (by omega) mv h3 s h4
    have a3 := hg.2.2 s' mv s (T s') t' ih.1 h4 ih.2 h2
    exact ⟨a1, by omega⟩
theorem pD_eq {g : zX} {b b' : Nat} {T T' : Nat → Nat} (hg : pGr g) (h : pD g b T) (h' : pD g b' T') {s : Nat} (hs : s < 1024) (h1 : T s ≤ b) (h2 : T s < 1000000) (h3 : T s ≤ b') : T' s = T s := by
  obtain ⟨k, hk⟩ := h.2.1 s hs h2
  have a1 := (pD_low hg h' k s _ hk h3).2
  obtain ⟨k', hk'⟩ := h'.2.1 s hs (by omega)
  have a2 := (pD_low hg h k' s _ hk' (by omega)).2
  omega
theorem pD_full {g : zX} {T T' : Nat → Nat} (hg : pGr g) (h : pD g 1000000 T) (h' : pD g 1000000 T') {s : Nat} (hs : s < 1024) : T' s = T s := by
  rcases h.2.2.2 s hs with e | e
  · rcases h'.2.2.2 s hs with e' | e'
    · rw [e, e']
    · exact (pD_eq hg h' h hs (by omega) (by omega) (by omega)).symm
  · exact pD_eq hg h h' hs (by omega) (by omega) (by omega)
/-! sums and counts -/
def pU (T : Nat → Nat) (j v : Nat) : Nat → Nat := fun i => if i = j then v else T i
theorem pU_at (T : Nat → Nat) (j v : Nat) : pU T j v j = v := by simp [pU]
theorem pU_ne (T : Nat → Nat) {i j : Nat} (v : Nat) (h : i ≠ j) : pU T j v i = T i := by simp [pU, h]
def pS (T : Nat → Nat) : Nat → Nat
  | 0 => 0
  | n + 1 => pS T n + T n
def pN (T : Nat → Nat) : Nat → Nat
  | 0 => 0
  | n + 1 => pN T n + (if T n = 1000000 then 1 else 0)
theorem pS_out (T : Nat → Nat) (j v : Nat) : ∀ n, n ≤ j → pS (pU T j v) n = pS T n
  | 0, _ => rfl
  | n + 1, h => by rw [pS, pS, pS_out T j v n (by omega), pU_ne T v (by omega)]
theorem pS_in (T : Nat → Nat) (j v : Nat) : ∀ n, j < n → pS (pU T j v) n + T j = pS T n + v
  | 0, h => by omega
  | n + 1, h => by
    rw [pS, pS]
    by_cases e : n = j
    · subst e
      rw [pS_out T n v n (by omega), pU_at]
      omega
    · have := pS_in T j v n (by omega)
      rw [pU_ne T v e]
      omega
theorem pN_out (T : Nat → Nat) (j v : Nat) : ∀ n, n ≤ j → pN (pU T j v) n = pN T n
  | 0, _ => rfl
  | n + 1, h => by rw [pN, pN, pN_out T j v n (by omega), pU_ne T v (by omega)]
theorem pN_in (T : Nat → Nat) (j v : Nat) : ∀ n, j < n → pN (pU T j v) n + (if T j = 1000000 then 1 else 0) = pN T n + (if v = 1000000 then 1 else 0)
  | 0, h => by omega
  | n + 1, h => by
    rw [pN, pN]
    by_cases e : n = j
    · subst e
      rw [pN_out T n v n (by omega), pU_at]
      omega
    · have := pN_in T j v n (by omega)
      rw [pU_ne T v e]
      omega
/-- what holds of a table while it is made -/
def pI (g : zX) (T : Nat → Nat) : Prop := T 0 = 0 ∧ (∀ s, s < 1024 → T s < 1000000 → ∃ k, pR g k s (T s)) ∧ (∀ s, s < 1024 → T s = 1000000 ∨ T s + 29 * pN T 1024 ≤ 29667)
def pT0 : Nat → Nat := fun s => if s = 0 then 0 else 1000000
theorem pN_T0 : ∀ n, pN pT0 (n + 1) = n
  | 0 => rfl
  | n + 1 => by
    rw [pN, pN_T0 n]
    simp [pT0]
theorem pI_T0 (g : zX) : pI g pT0 := by
  refine ⟨rfl, fun s hs h => ?_, fun s hs => ?_⟩
  · by_cases e : s = 0
    · subst e; exact ⟨0, rfl, rfl⟩
    · simp [pT0, e] at h
  · rw [show (1024 : Nat) = 1023 + 1 from rfl, pN_T0]
    by_cases e : s = 0
    · subst e; exact Or.inr (by simp [pT0])
    · exact Or.inl (by simp [pT0, e])
theorem pI.lt {g : zX} {T : Nat → Nat} (h : pI g T) {s : Nat} (hs : s < 1024) : T s = 1000000 ∨ T s ≤ 29667 := (h.2.2 s hs).imp id (fun q => by omega)
theorem pI_up {g : zX} {T : Nat → Nat} (hg : pGr g) (h : pI g T) {s mv s' : Nat} (hs : s < 1024) (hf : T s < 1000000) (hm : mv < 32) (he : g.1 s mv = some s') (hlt : T s + g.2 s mv (T s) < T s') : pI g (pU T s' (T s + g.2 s mv (T s))) ∧ pS (pU T s' (T s + g.2 s mv (T s))) 1024 < pS T 1024 := by
  have hs' := hg.1 s mv s' hs he
  have ht := hg.2.1 s mv s' (T s) hs he
  have b1 := (h.2.2 s hs).resolve_left (by omega)
  have hn0 : s' ≠ 0 := fun e => by rw [e, h.1] at hlt; omega
  have c1 := pN_in T s' (T s + g.2 s mv (T s)) 1024 hs'
  have c2 := pS_in T s' (T s + g.2 s mv (T s)) 1024 hs'
  rw [if_neg (show ¬ T s + g.2 s mv (T s) = 1000000 by omega)] at c1
  refine ⟨⟨?_, fun q hq hqf => ?_, fun q hq => ?_⟩, by omega⟩
  · rw [pU_ne T _ (Ne.symm hn0)]; exact h.1
  · by_cases e : q = s'
    · subst e
      obtain ⟨k, hk⟩ := h.2.1 s hs hf
      rw [pU_at]
      exact ⟨k + 1, s, T s, mv, hk, hf, hm, he, rfl⟩
    · rw [pU_ne T _ e] at hqf ⊢
      exact h.2.1 q hq hqf
  · by_cases e : q = s'
    · subst e
      rw [pU_at]
      right
      rcases h.2.2 q hq with f | f
      · rw [if_pos f] at c1; omega
      · rw [if_neg (by omega)] at c1; omega
    · rw [pU_ne T _ e]
      rcases h.2.2 q hq with f | f
      · exact Or.inl f
      · right
        split at c1 <;> omega
theorem pD_of {g : zX} {T : Nat → Nat} {b : Nat} (h : pI g T) (hc : ∀ s, s < 1024 → T s ≤ b → T s < 1000000 → ∀ mv, mv < 32 → pCl g T s mv) : pD g b T := ⟨h.1, h.2.1, hc, fun s hs => h.lt hs⟩
/-- one relaxation -/
def pSt (g : zX) (T : Nat → Nat) (s mv : Nat) (b : Bool) (T' : Nat → Nat) : Prop := (b = false ∧ T' = T ∧ pCl g T s mv) ∨ (b = true ∧ pI g T' ∧ pS T' 1024 < pS T 1024 ∧ T' s < 1000000)
theorem pSt_none {g : zX} {T : Nat → Nat} {s mv : Nat} (h : g.1 s mv = none) : pSt g T s mv false T := Or.inl ⟨rfl, rfl, fun s' e => by rw [h] at e; cases e⟩
theorem pSt_no {g : zX} {T : Nat → Nat} {s mv s' : Nat} (h : g.1 s mv = some s') (hl : T s' ≤ T s + g.2 s mv (T s)) : pSt g T s mv false T := Or.inl ⟨rfl, rfl, fun q e => by rw [h] at e; cases e; exact hl⟩
theorem pSt_up {g : zX} {T : Nat → Nat} (hg : pGr g) (h : pI g T) {s mv s' : Nat} (hs : s < 1024) (hf : T s < 1000000) (hm : mv < 32) (he : g.1 s mv = some s') (hlt : T s + g.2 s mv (T s) < T s') : pSt g T s mv true (pU T s' (T s + g.2 s mv (T s))) := by
  obtain ⟨a, b⟩ := pI_up hg h hs hf hm he hlt
  have ht := hg.2.1 s mv s' (T s) hs he
  have hl := h.lt hs
  refine Or.inr ⟨rfl, a, b, ?_⟩
  by_cases e : s = s'
  · subst e; rw [pU_at]; omega
  · rw [pU_ne T _ e]; exact hf
/-- how far a pass over all states and moves is -/
def pPs (g : zX) (T0 T : Nat → Nat) (more : Bool) (s x : Nat) : Prop := pI g T ∧ ((more = false ∧ T = T0 ∧ ∀ q, q < 1024 → T q < 1000000 → ∀ mv, mv < 32 → q < s ∨ (q = s ∧ mv % 16 < x) → pCl g T q mv) ∨ (more = true ∧ pS T 1024 < pS T0 1024))
theorem pPs_0 {g : zX} {T : Nat → Nat} (h : pI g T) : pPs g T T false 0 0 := ⟨h, Or.inl ⟨rfl, rfl, fun q _ _ mv _ hh => by omega⟩⟩
theorem pPs_two {g : zX} {T0 T T1 T2 : Nat → Nat} {more b1 b2 : Bool} {s x : Nat} (hx : x < 16) (h : pPs g T0 T more s x) (h1 : pSt g T s (16 + x) b1 T1) (h2 : pSt g T1 s x b2 T2) : pPs g T0 T2 ((more || b1) || b2) s (x + 1) := by
  obtain ⟨hI, h⟩ := h
  rcases h1 with ⟨rfl, rfl, c1⟩ | ⟨rfl, i1, s1, -⟩
  · rcases h2 with ⟨rfl, rfl, c2⟩ | ⟨rfl, i2, s2, -⟩
    · refine ⟨hI, h.imp (fun q => ⟨by simp [q.1], q.2.1, fun q1 hq1 hf mv hm hh => ?_⟩) (fun q => ⟨by simp [q.1], q.2⟩)⟩
      by_cases e : q1 = s ∧ mv % 16 = x
      · obtain ⟨rfl, e⟩ := e
        rcases (show mv = x ∨ mv = 16 + x by omega) with rfl | rfl
        · exact c2
        · exact c1
      · exact q.2.2 q1 hq1 hf mv hm (by omega)
    · refine ⟨i2, Or.inr ⟨by simp, ?_⟩⟩
      rcases h with h | h
      · rw [h.2.1] at s2; exact s2
      · omega
  · have hs1 : pS T1 1024 < pS T0 1024 := by
      rcases h with h | h
      · rw [h.2.1] at s1; exact s1
      · omega
    rcases h2 with ⟨rfl, rfl, c2⟩ | ⟨rfl, i2, s2, -⟩
    · exact ⟨i1, Or.inr ⟨by simp, hs1⟩⟩
    · exact ⟨i2, Or.inr ⟨by simp, by omega⟩⟩
/-- all sets done (those beyond K lead nowhere), or the state is not reached -/
theorem pPs_next {g : zX} {T0 T : Nat → Nat} {more : Bool} {s x : Nat} (h : pPs g T0 T more s x) (he : T s = 1000000 ∨ ∀ mv, mv < 32 → x ≤ mv % 16 → g.1 s mv = none) : pPs g T0 T more (s + 1) 0 := by
  obtain ⟨hI, h⟩ := h
  refine ⟨hI, h.imp (fun q => ⟨q.1, q.2.1, fun q1 hq1 hf mv hm hh => ?_⟩) id⟩
  by_cases e : q1 < s ∨ (q1 = s ∧ mv % 16 < x)
  · exact q.2.2 q1 hq1 hf mv hm e
  · have e1 : q1 = s := by omega
    subst e1
    rcases he with he | he
    · omega
    · intro s' hs'
      rw [he mv hm (by omega)] at hs'
      cases hs'
theorem pPs_end {g : zX} {T0 T : Nat → Nat} {x : Nat} (h : pPs g T0 T false 1024 x) : pD g 1000000 T := by
  obtain ⟨hI, h⟩ := h
  rcases h with h | h
  · exact pD_of hI (fun s hs _ hf mv hm => h.2.2 s hs hf mv hm (Or.inl hs))
  · cases h.1
theorem pPs_more {g : zX} {T0 T : Nat → Nat} {s x : Nat} (h : pPs g T0 T true s x) : pI g T ∧ pS T 1024 < pS T0 1024 := by
  obtain ⟨hI, h⟩ := h
  rcases h with h | h
  · cases h.1
  · exact ⟨hI, h.2⟩
