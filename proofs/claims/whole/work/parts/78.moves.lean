/-! a portage's moves: below 16 down with that set, from 16 on up -/
def nV (s mv : Nat) : Nat := if mv < 16 then s % 4 - 1 else s % 4 + 1
def nX (c : zG) (s mv : Nat) : Option Nat := if s % 4 ≤ cN c ∧ gOk c s (nV s mv) (mv % 16) = true then some (gG s (nV s mv) (mv % 16) 4) else none
def nK (s mv : Nat) : Nat := min (s % 4) (nV s mv)
def nT (c : zG) (s mv m : Nat) : Nat := gTk c (nK s mv) (mv % 16) (gWet c m)
def nG (c : zG) : zX := (nX c, nT c)
def nG1 (c : zG) : zX := (nX c, fun _ _ _ => 1)
theorem nX_some {c : zG} {s mv s' : Nat} (h : nX c s mv = some s') : s % 4 ≤ cN c ∧ gOk c s (nV s mv) (mv % 16) = true ∧ s' = gG s (nV s mv) (mv % 16) 4 := by
  unfold nX at h
  split at h
  next q => exact ⟨q.1, q.2, (Option.some.inj h).symm⟩
  next => cases h
theorem nX_of {c : zG} {s mv : Nat} (h1 : s % 4 ≤ cN c) (h2 : gOk c s (nV s mv) (mv % 16) = true) : nX c s mv = some (gG s (nV s mv) (mv % 16) 4) := by
  unfold nX
  rw [if_pos ⟨h1, h2⟩]
theorem nX_no {c : zG} {s mv : Nat} (h2 : gOk c s (nV s mv) (mv % 16) = false) : nX c s mv = none := by
  unfold nX
  rw [if_neg (fun q => by rw [q.2] at h2; cases h2)]
theorem nX_lt {c : zG} (hc : gWf c) {s mv s' : Nat} (hs : s < 1024) (h : nX c s mv = some s') : s' < 1024 ∧ s' % 4 ≤ cN c ∧ nV s mv < 4 ∧ nK s mv < cN c := by
  obtain ⟨h1, h2, rfl⟩ := nX_some h
  have h3 := gOk_v h2
  have h4 := hc.2.1
  have hv : nV s mv < 4 := by omega
  refine ⟨gG_lt hs hv 4 (by omega), ?_, hv, ?_⟩
  · rw [gG_mod hv 4 (by omega)]; exact h3.1
  · unfold nK; omega
theorem nG_gr {c : zG} (hc : gWf c) : pGr (nG c) := by
  refine ⟨fun s mv s' hs h => (nX_lt hc hs h).1, fun s mv s' m hs h => ?_, fun s mv s' m m' hs h hm hm' => ?_⟩
  · exact (gTk_nat hc (nX_lt hc hs h).2.2.2 (Nat.mod_lt _ (by decide)) (gWet c m)).2
  · show m + gTk c (nK s mv) (mv % 16) (gWet c m) ≤ m' + gTk c (nK s mv) (mv % 16) (gWet c m')
    by_cases e : gWet c m = true
    · rw [gWet_mono hc hm (by omega) e, e]; omega
    · rw [Bool.not_eq_true] at e
      rw [e]
      have := gTk_mono (c := c) (nK s mv) (mv % 16)
      cases gWet c m' <;> omega
theorem nG1_gr {c : zG} (hc : gWf c) : pGr (nG1 c) := by
  refine ⟨fun s mv s' hs h => (nX_lt hc hs h).1, fun s mv s' m hs h => ⟨Nat.le_refl _, by show 1 ≤ 29; decide⟩, fun s mv s' m m' hs h hm hm' => ?_⟩
  show m + 1 ≤ m' + 1
  omega
theorem pR_spot {c : zG} {tm : Nat → Nat → Nat → Nat} (hc : gWf c) : ∀ k s t, pR (nX c, tm) k s t → s < 1024 ∧ s % 4 ≤ cN c
  | 0, s, t, h => by
    obtain ⟨rfl, -⟩ := h
    exact ⟨by decide, Nat.zero_le _⟩
  | k + 1, s, t, h => by
    obtain ⟨s', t', mv, h1, -, -, h4, -⟩ := h
    have a := nX_lt hc (pR_spot hc k s' t' h1).1 h4
    exact ⟨a.1, a.2.1⟩
theorem gOk_x {c : zG} (hK : cK c ≤ 4) {s v x : Nat} (hx : x < 16) (h : gOk c s v x = true) : x < 2 ^ cK c := by
  unfold gOk at h
  simp only [Bool.and_eq_true, decide_eq_true_eq] at h
  exact gb_sbK (cK c) (by omega) (gHr c s) (gH_lt _ _ _ _) x hx h.2.2.1
theorem nX_big {c : zG} (hK : cK c ≤ 4) {s mv : Nat} (h : 2 ^ cK c ≤ mv % 16) : nX c s mv = none := by
  unfold nX
  rw [if_neg]
  intro q
  have := gOk_x hK (Nat.mod_lt _ (by decide)) q.2
  omega
/-- the end: all is at the last spot -/
def gE (N ms : Nat) : Nat → Nat
  | 0 => N
  | n + 1 => if n = ms then gE N ms n else gE N ms n + N * 4 ^ (n + 1)
theorem gE_lt {N ms : Nat} (hN : N ≤ 3) : ∀ n, gE N ms n < 4 ^ (n + 1)
  | 0 => by rw [gE]; simp; omega
  | n + 1 => by
    have := gE_lt (ms := ms) hN n
    rw [gE, Nat.pow_succ 4 (n + 1)]
    split
    · omega
    · have : N * 4 ^ (n + 1) ≤ 3 * 4 ^ (n + 1) := Nat.mul_le_mul_right _ hN
      omega
theorem gE_1024 {N ms K : Nat} (hN : N ≤ 3) (hK : K ≤ 4) : gE N ms K < 1024 := by
  have h1 := gE_lt (ms := ms) hN K
  have h2 : 4 ^ (K + 1) ≤ 4 ^ 5 := Nat.pow_le_pow_right (by decide) (by omega)
  have h3 : (4 : Nat) ^ 5 = 1024 := by decide
  omega
theorem gb_en0 : ∀ a < 4, ∀ N < 4, nI a ||| (nI N <<< (2 * nI 0 + 2 &&& 31)) = nI (a + N * 4 ^ 1) := by decide +kernel
theorem gb_en1 : ∀ a < 16, ∀ N < 4, nI a ||| (nI N <<< (2 * nI 1 + 2 &&& 31)) = nI (a + N * 4 ^ 2) := by decide +kernel
theorem gb_en2 : ∀ a < 64, ∀ N < 4, nI a ||| (nI N <<< (2 * nI 2 + 2 &&& 31)) = nI (a + N * 4 ^ 3) := by decide +kernel
theorem gb_en3 : ∀ a < 256, ∀ N < 4, nI a ||| (nI N <<< (2 * nI 3 + 2 &&& 31)) = nI (a + N * 4 ^ 4) := by decide +kernel
theorem gb_en {n a N : Nat} (hn : n < 4) (ha : a < 4 ^ (n + 1)) (hN : N < 4) : nI a ||| (nI N <<< (2 * nI n + 2 &&& 31)) = nI (a + N * 4 ^ (n + 1)) := by
  rcases (show n = 0 ∨ n = 1 ∨ n = 2 ∨ n = 3 by omega) with rfl | rfl | rfl | rfl
  · exact gb_en0 a ha N hN
  · exact gb_en1 a ha N hN
  · exact gb_en2 a ha N hN
  · exact gb_en3 a ha N hN
theorem z_en_nat {N ms : Nat} (hN : N ≤ 3) : ∀ n ≤ 4, z_en (nI N) (gms ms) n = nI (gE N ms n)
  | 0, _ => rfl
  | n + 1, h => by
    rw [z_en, gE, z_en_nat hN n (by omega)]
    have h1 : nI n = gms ms ↔ n = ms := gms_eq' (by omega)
    by_cases c : n = ms
    · rw [if_pos c, if_pos (h1.mpr c)]
    · rw [if_neg c, if_neg (fun q => c (h1.mp q)), gb_en (by omega) (gE_lt hN n) (by omega)]
def nE (c : zG) : Nat := gE (cN c) (cM c) (cK c)
theorem nE_lt {c : zG} (hc : gWf c) : nE c < 1024 := gE_1024 hc.2.1.1 hc.1
/-! the model's move by move, over a table -/
def eM (v : Nat) : Int32 := if v = 1000000 then -9 else nI v
theorem eM_9 {v : Nat} (h : v < 2 ^ 31) : eM v = -9 ↔ v = 1000000 := by
  unfold eM
  by_cases c : v = 1000000
  · simp [c]
  · rw [if_neg c]
    exact ⟨fun q => absurd q (nI_n9 h), fun q => absurd q c⟩
theorem eM_nI {v : Nat} (h : v < 1000000) : eM v = nI v := by
  unfold eM
  rw [if_neg (by omega)]
theorem eM_inj {v w : Nat} (hv : v < 2 ^ 31) (hw : w < 2 ^ 31) (h : eM v = eM w) : v = w := by
  unfold eM at h
  by_cases c : v = 1000000
  · by_cases c' : w = 1000000
    · omega
    · rw [if_pos c, if_neg c'] at h
      exact absurd h.symm (nI_n9 hw)
  · by_cases c' : w = 1000000
    · rw [if_neg c, if_pos c'] at h
      exact absurd h (nI_n9 hv)
    · rw [if_neg c, if_neg c'] at h
      exact nI_inj hv hw h
/-- the model's world but for row r, which holds a table -/
def qM (r : Nat) (σ τ : zS) (T : Nat → Nat) : Prop := (∀ q, q ≠ r → τ.1 q = σ.1 q) ∧ τ.2 = σ.2 ∧ ∀ s, s < 1024 → τ.1 r s = eM (T s)
theorem qM.up {r : Nat} {σ τ : zS} {T : Nat → Nat} (h : qM r σ τ T) (j v : Nat) : qM r σ (z_st τ r j (eM v)) (pU T j v) := by
  refine ⟨fun q hq => ?_, h.2.1, fun s hs => ?_⟩
  · rw [z_st_row _ _ _ hq]; exact h.1 q hq
  · by_cases e : s = j
    · subst e; rw [z_st_at, pU_at]
    · rw [z_st_fld _ _ _ e, pU_ne T v e]; exact h.2.2 s hs
/-- where the model goes by a move -/
def nI4 (s mv : Nat) : Int32 := if mv < 16 then nI (s % 4) - 1 else nI (s % 4) + 1
theorem nI4_nat {s mv : Nat} (h : mv < 16 → s % 4 ≠ 0) : nI4 s mv = nI (nV s mv) := by
  unfold nI4 nV
  by_cases e : mv < 16
  · rw [if_pos e, if_pos e]
    exact (Int32.ofNat_sub (a := s % 4) (b := 1) (by have := h e; omega)).symm
  · rw [if_neg e, if_neg e, nI_succ]
theorem nMgo {c : zG} (h : gWf c) {s mv : Nat} (hs : s < 1024) : z_mgo (nI (cN c)) (cB c) (cKd c) (cPd c) (cK c) (gms (cM c)) (nI s) (nI4 s mv) (nI (mv % 16)) = gOk c s (nV s mv) (mv % 16) := by
  have hN := h.2.1
  by_cases e : mv < 16 ∧ s % 4 = 0
  · have e1 : nI4 s mv = -1 := by unfold nI4; rw [if_pos e.1, e.2]; rfl
    have e2 : gOk c s (nV s mv) (mv % 16) = false := by
      rw [← Bool.not_eq_true]
      intro q
      have q1 := gOk_v q
      unfold nV at q1
      rw [if_pos e.1] at q1
      omega
    rw [e1, e2]
    unfold z_mgo z_spot z_wi
    simp
  · rw [nI4_nat (fun q1 q2 => e ⟨q1, q2⟩)]
    by_cases e3 : nV s mv < 4
    · exact gOk_model h hs e3 (Nat.mod_lt _ (by decide))
    · have e2 : gOk c s (nV s mv) (mv % 16) = false := by
        rw [← Bool.not_eq_true]
        intro q
        have q1 := gOk_v q
        omega
      have e4 : nV s mv < 6 := by unfold nV; split <;> omega
      rw [e2]
      unfold z_mgo
      rw [gSpot (by omega) (by omega) hN.2, decide_eq_false (by omega)]
      rfl
theorem nSt {c : zG} (h : gWf c) {s mv s' : Nat} (hs : s < 1024) (he : nX c s mv = some s') : (if nI4 s mv ≤ nI (s % 4) then nI4 s mv else nI (s % 4)) = nI (nK s mv) ∧ nI4 s mv = nI (nV s mv) := by
  have h1 := nX_lt h hs he
  have h2 := gOk_v (nX_some he).2.1
  have e : nI4 s mv = nI (nV s mv) := nI4_nat (fun q1 q2 => by
    unfold nV at h2
    rw [if_pos q1] at h2
    omega)
  rw [e]
  exact ⟨z_minI (by omega) (by omega), rfl⟩
