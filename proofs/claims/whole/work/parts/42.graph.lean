/-! a portage as numbers: (things, stages, the one missing (4 and on: none), kinds, pounds, lengths, muds, boards, bears, rain) -/
abbrev zG : Type := Nat × Nat × Nat × (Nat → Int32) × (Nat → Int32) × (Nat → Int32) × (Nat → Int32) × (Nat → Int32) × Int32 × Int32
def cK (c : zG) : Nat := c.1
def cN (c : zG) : Nat := c.2.1
def cM (c : zG) : Nat := c.2.2.1
def cKd (c : zG) : Nat → Int32 := c.2.2.2.1
def cPd (c : zG) : Nat → Int32 := c.2.2.2.2.1
def cLn (c : zG) : Nat → Int32 := c.2.2.2.2.2.1
def cMd (c : zG) : Nat → Int32 := c.2.2.2.2.2.2.1
def cBd (c : zG) : Nat → Int32 := c.2.2.2.2.2.2.2.1
def cB (c : zG) : Int32 := c.2.2.2.2.2.2.2.2.1
def cR (c : zG) : Int32 := c.2.2.2.2.2.2.2.2.2
def gWf (c : zG) : Prop := cK c ≤ 4 ∧ (cN c ≤ 3 ∧ 1 ≤ cN c) ∧ (∀ t, t < cK c → cKd c t = 0 ∨ cKd c t = 1 ∨ cKd c t = 2) ∧ (∀ t, t < cK c → ∃ p, (1 ≤ p ∧ p ≤ 9) ∧ cPd c t = nI p) ∧ (∀ k, k < cN c → ∃ p, (1 ≤ p ∧ p ≤ 9) ∧ cLn c k = nI p) ∧ (∀ k, k < cN c → ∃ p, p ≤ 4 ∧ cMd c k = nI p) ∧ (∀ k, k < cN c → cBd c k = 0 ∨ cBd c k = 1) ∧ (∃ b, b ≤ 72 ∧ cB c = nI b) ∧ (cR c = -9 ∨ ∃ v, v ≤ 99 ∧ cR c = nI v)
/-- the same portage, where it is looked at -/
def gEq (c c' : zG) : Prop := cK c = cK c' ∧ cN c = cN c' ∧ cM c = cM c' ∧ (∀ t, t < cK c → cKd c t = cKd c' t ∧ cPd c t = cPd c' t) ∧ (∀ k, k < cN c → cLn c k = cLn c' k ∧ cMd c k = cMd c' k ∧ cBd c k = cBd c' k) ∧ cB c = cB c' ∧ cR c = cR c'
def gHr (c : zG) (s : Nat) : Nat := gH (cM c) s (s % 4) (cK c)
def gGo (c : zG) (x : Nat) : Bool := decide (z_ld (cPd c) (nI x) (cK c) ≤ cB c)
def gSt (c : zG) (y : Nat) : Bool := decide (z_wm (cKd c) (nI y) (cK c) (cK c) = nI y)
def gOk (c : zG) (s v x : Nat) : Bool := decide (v ≤ cN c) && ((decide (v = s % 4 + 1) || decide (v + 1 = s % 4)) && (decide (x &&& (15 - gHr c s) = 0) && (gGo c x && gSt c (gHr c s &&& (15 - x)))))
def gWet (c : zG) (m : Nat) : Bool := z_rains (cR c) (nI m)
def gMu (c : zG) (k : Nat) (wet : Bool) : Nat := if cBd c k = 0 then (if wet then 2 * (cMd c k).toNatClampNeg else (cMd c k).toNatClampNeg) else 0
def gTk (c : zG) (k x : Nat) (wet : Bool) : Nat := if x = 0 then (cLn c k).toNatClampNeg else (cLn c k).toNatClampNeg + gMu c k wet + (z_ld (cPd c) (nI x) (cK c)).toNatClampNeg / 3
theorem gWf.ld {c : zG} (h : gWf c) {x : Nat} (hx : x < 16) : ∃ l, l ≤ 36 ∧ z_ld (cPd c) (nI x) (cK c) = nI l ∧ (l = 0 ↔ ∀ t, t < cK c → x.testBit t = false) := by
  obtain ⟨h1, -, -, h4, -⟩ := h
  have hp : ∀ t, t < cK c → cPd c t = nI (cPd c t).toNatClampNeg ∧ (cPd c t).toNatClampNeg ≤ 9 ∧ 1 ≤ (cPd c t).toNatClampNeg := fun t ht => by
    obtain ⟨p, hp, e⟩ := h4 t ht
    rw [e, nI_clamp (by omega)]
    exact ⟨rfl, by omega, by omega⟩
  refine ⟨gL (fun t => (cPd c t).toNatClampNeg) x (cK c), ?_, z_ld_nat hx _ h1 (fun t ht => ⟨(hp t ht).1, (hp t ht).2.1⟩), gL_pos _ (fun t ht => (hp t ht).2.2)⟩
  have := gL_le (P := fun t => (cPd c t).toNatClampNeg) (x := x) (cK c) (fun t ht => (hp t ht).2.1)
  omega
theorem gMu_nat {c : zG} (h : gWf c) {k : Nat} (hk : k < cN c) (wet : Bool) : z_mud (cBd c k) (cMd c k) (z_b wet) = nI (gMu c k wet) ∧ gMu c k wet ≤ 8 := by
  obtain ⟨-, -, -, -, -, h6, -⟩ := h
  obtain ⟨p, hp, e⟩ := h6 k hk
  unfold z_mud gMu
  rw [e, nI_clamp (by omega)]
  cases wet
  · simp only [z_b, Bool.false_eq_true, if_false, if_true]
    split
    · exact ⟨rfl, by omega⟩
    · exact ⟨rfl, by omega⟩
  · simp only [z_b, if_true, show ¬ (1 : Int32) = 0 by decide, if_false]
    split
    · refine ⟨?_, by omega⟩
      rcases (show p = 0 ∨ p = 1 ∨ p = 2 ∨ p = 3 ∨ p = 4 by omega) with rfl | rfl | rfl | rfl | rfl <;> rfl
    · exact ⟨rfl, by omega⟩
theorem gb_div3 : ∀ l < 37, (nI l : Int32) / 3 = nI (l / 3) := by decide +kernel
theorem gTk_nat {c : zG} (h : gWf c) {k x : Nat} (hk : k < cN c) (hx : x < 16) (wet : Bool) : (if nI x = 0 then cLn c k else cLn c k + z_mud (cBd c k) (cMd c k) (z_b wet) + z_ld (cPd c) (nI x) (cK c) / 3) = nI (gTk c k x wet) ∧ 1 ≤ gTk c k x wet ∧ gTk c k x wet ≤ 29 := by
  obtain ⟨l, hl, el, -⟩ := h.ld hx
  obtain ⟨em, hm⟩ := gMu_nat h hk wet
  obtain ⟨p, hp, ep⟩ := h.2.2.2.2.1 k hk
  unfold gTk
  have hx0 : nI x = 0 ↔ x = 0 := nI_eq_iff (b := 0) (by omega) (by decide)
  rw [em, el, ep, gb_div3 l (by omega), nI_clamp (by omega), nI_clamp (by omega), z_nIadd, z_nIadd]
  by_cases c0 : x = 0
  · rw [if_pos (hx0.mpr c0), if_pos c0]
    exact ⟨rfl, by omega, by omega⟩
  · rw [if_neg (fun q => c0 (hx0.mp q)), if_neg c0]
    exact ⟨rfl, by omega, by omega⟩
theorem gb_andn0 : ∀ x < 16, ∀ y < 16, (nI (x &&& (15 - y)) = 0 ↔ x &&& (15 - y) = 0) := by decide +kernel
theorem gb_and15 : ∀ x < 16, ∀ y < 16, x &&& (15 - y) < 16 := by decide +kernel
theorem gSpot {v n : Nat} (hv : v < 2 ^ 31) (hn : n < 2 ^ 31) (h1 : 1 ≤ n) : z_spot (nI v) (nI n) = decide (v ≤ n) := by
  unfold z_spot z_pos z_wi
  have e1 : decide ((nI n : Int32) ≤ 0) = false := decide_eq_false (nI_nle (by omega) hn)
  have e2 : decide ((nI v : Int32) < 0) = false := decide_eq_false (nI_pos hv)
  rw [e1, e2]
  by_cases c : v ≤ n
  · simp [c, nI_nlt c hn]
  · simp [c, nI_lt (show n < v by omega) hv]
theorem gOk_model {c : zG} (h : gWf c) {s v x : Nat} (hs : s < 1024) (hv : v < 4) (hx : x < 16) : z_mgo (nI (cN c)) (cB c) (cKd c) (cPd c) (cK c) (gms (cM c)) (nI s) (nI v) (nI x) = gOk c s v x := by
  have hN := h.2.1
  have hK := h.1
  unfold z_mgo gOk
  have hh : gHr c s < 16 := gH_16 _ _ _ hK
  rw [gb_spot s hs, z_ta_nat hs (by omega) (cK c) hK, show gH (cM c) s (s % 4) (cK c) = gHr c s from rfl, gb_andn x hx _ hh, gb_andn _ hh x hx, gSpot (by omega) (by omega) hN.2]
  have e1 : decide ((nI v : Int32) = nI (s % 4) + 1) = decide (v = s % 4 + 1) := by
    rw [show nI (s % 4) + 1 = nI (s % 4 + 1) from (nI_succ _).symm]
    exact decide_eq_decide.mpr (nI_eq_iff (by omega) (by omega))
  have e2 : decide ((nI v : Int32) = nI (s % 4) - 1) = decide (v + 1 = s % 4) := by
    have h4 : s % 4 < 4 := Nat.mod_lt _ (by decide)
    generalize s % 4 = q at h4
    apply decide_eq_decide.mpr
    rcases (show v = 0 ∨ v = 1 ∨ v = 2 ∨ v = 3 by omega) with rfl | rfl | rfl | rfl <;> rcases (show q = 0 ∨ q = 1 ∨ q = 2 ∨ q = 3 by omega) with rfl | rfl | rfl | rfl <;> decide
  have e3 : decide ((nI (x &&& (15 - gHr c s)) : Int32) = 0) = decide (x &&& (15 - gHr c s) = 0) := decide_eq_decide.mpr (gb_andn0 x hx _ hh)
  rw [e1, e2, e3]
  rfl
theorem gEq.ok {c c' : zG} (h : gEq c c') (s v x : Nat) : gOk c s v x = gOk c' s v x := by
  obtain ⟨h1, h2, h3, h4, h5, h6, h7⟩ := h
  have e1 : ∀ x, gGo c x = gGo c' x := fun x => by unfold gGo; rw [← h1, ← h6, z_ld_congr (cK c) (fun t ht => (h4 t ht).2)]
  have e2 : ∀ x, gSt c x = gSt c' x := fun x => by unfold gSt; rw [← h1, z_wm_congr (fun t ht => (h4 t ht).1) (cK c) (Nat.le_refl _)]
  have e3 : gHr c s = gHr c' s := by unfold gHr; rw [h1, h3]
  unfold gOk
  rw [e1, e2, e3, h2]
theorem gEq.tk {c c' : zG} (h : gEq c c') {k : Nat} (hk : k < cN c) (x : Nat) (wet : Bool) : gTk c k x wet = gTk c' k x wet := by
  obtain ⟨h1, h2, h3, h4, h5, h6, h7⟩ := h
  unfold gTk gMu
  rw [← h1, z_ld_congr (cK c) (fun t ht => (h4 t ht).2), (h5 k hk).1, (h5 k hk).2.1, (h5 k hk).2.2]
theorem gEq.mu {c c' : zG} (h : gEq c c') {k : Nat} (hk : k < cN c) (wet : Bool) : gMu c k wet = gMu c' k wet := by
  obtain ⟨h1, h2, h3, h4, h5, h6, h7⟩ := h
  unfold gMu
  rw [(h5 k hk).2.1, (h5 k hk).2.2]
theorem gEq.wet {c c' : zG} (h : gEq c c') (m : Nat) : gWet c m = gWet c' m := by
  unfold gWet
  rw [h.2.2.2.2.2.2]
theorem gWet_mono {c : zG} (h : gWf c) {m m' : Nat} (hm : m ≤ m') (hm' : m' < 2 ^ 31) (hw : gWet c m = true) : gWet c m' = true := by
  unfold gWet z_rains at hw ⊢
  rw [Bool.and_eq_true] at hw ⊢
  refine ⟨hw.1, ?_⟩
  have h2 := hw.2
  rcases h.2.2.2.2.2.2.2.2 with e | ⟨v, hv, e⟩
  · rw [e] at hw; simp at hw
  · rw [e] at h2 ⊢
    simp only [Bool.not_eq_true', decide_eq_false_iff_not] at h2 ⊢
    rw [nI_lt_iff (by omega) (by omega)] at h2 ⊢
    omega
theorem gWet_iff {c : zG} {m : Nat} {v : Nat} (hv : v ≤ 99) (hm : m < 2 ^ 31) (e : cR c = nI v) : gWet c m = decide (v ≤ m) := by
  unfold gWet z_rains
  rw [e]
  have h1 : ¬ (nI v : Int32) = -9 := fun q => by
    have := nI_pos (n := v) (by omega)
    rw [q] at this
    exact this (by decide)
  by_cases c : v ≤ m
  · simp [h1, c, nI_nlt c hm]
  · simp [h1, c, nI_lt (show m < v by omega) (by omega)]
theorem gMu_le {c : zG} (h : gWf c) {k : Nat} (hk : k < cN c) : gMu c k false ≤ gMu c k true := by
  unfold gMu
  split <;> simp <;> omega
theorem gTk_mono {c : zG} (k x : Nat) : gTk c k x false ≤ gTk c k x true := by
  unfold gTk gMu
  split
  · exact Nat.le_refl _
  · split <;> simp <;> omega
