/-! packed states: the spot in the lowest two bits, then each thing's -/
def gs (a n v : Nat) : Nat := a - gd a n * 4 ^ (n + 1) + v * 4 ^ (n + 1)
theorem gs_gd {a n m v : Nat} (hn : n < 4) (hm : m < 4) (hv : v < 4) : gd (gs a n v) m = if m = n then v else gd a m := by
  rcases (show n = 0 ∨ n = 1 ∨ n = 2 ∨ n = 3 by omega) with rfl | rfl | rfl | rfl <;> rcases (show m = 0 ∨ m = 1 ∨ m = 2 ∨ m = 3 by omega) with rfl | rfl | rfl | rfl <;> first | (rw [if_pos rfl]; simp only [gs, gd, Nat.reducePow, Nat.reduceAdd]; omega) | (rw [if_neg (by decide)]; simp only [gs, gd, Nat.reducePow, Nat.reduceAdd]; omega)
theorem gs_mod {a n v : Nat} (hn : n < 4) (hv : v < 4) : gs a n v % 4 = a % 4 := by
  rcases (show n = 0 ∨ n = 1 ∨ n = 2 ∨ n = 3 by omega) with rfl | rfl | rfl | rfl <;> simp only [gs, gd, Nat.reducePow, Nat.reduceAdd] <;> omega
theorem gs_lt {a n v : Nat} (ha : a < 1024) (hn : n < 4) (hv : v < 4) : gs a n v < 1024 := by
  rcases (show n = 0 ∨ n = 1 ∨ n = 2 ∨ n = 3 by omega) with rfl | rfl | rfl | rfl <;> simp only [gs, gd, Nat.reducePow, Nat.reduceAdd] <;> omega
theorem gd_lt (s n : Nat) : gd s n < 4 := Nat.mod_lt _ (by decide)
theorem gd_ext {a b : Nat} (ha : a < 1024) (hb : b < 1024) (h0 : a % 4 = b % 4) (h : ∀ t, t < 4 → gd a t = gd b t) : a = b := by
  have e0 := h 0 (by omega)
  have e1 := h 1 (by omega)
  have e2 := h 2 (by omega)
  have e3 := h 3 (by omega)
  simp only [gd, Nat.reducePow, Nat.reduceAdd] at e0 e1 e2 e3
  omega
theorem gb_set0 : ∀ a < 1024, ∀ v < 4, (nI a &&& (((3 : Int32) <<< (2 * nI 0 + 2 &&& 31)) ^^^ (-1))) ||| (nI v <<< (2 * nI 0 + 2 &&& 31)) = nI (gs a 0 v) := by decide +kernel
theorem gb_set1 : ∀ a < 1024, ∀ v < 4, (nI a &&& (((3 : Int32) <<< (2 * nI 1 + 2 &&& 31)) ^^^ (-1))) ||| (nI v <<< (2 * nI 1 + 2 &&& 31)) = nI (gs a 1 v) := by decide +kernel
theorem gb_set2 : ∀ a < 1024, ∀ v < 4, (nI a &&& (((3 : Int32) <<< (2 * nI 2 + 2 &&& 31)) ^^^ (-1))) ||| (nI v <<< (2 * nI 2 + 2 &&& 31)) = nI (gs a 2 v) := by decide +kernel
theorem gb_set3 : ∀ a < 1024, ∀ v < 4, (nI a &&& (((3 : Int32) <<< (2 * nI 3 + 2 &&& 31)) ^^^ (-1))) ||| (nI v <<< (2 * nI 3 + 2 &&& 31)) = nI (gs a 3 v) := by decide +kernel
theorem gb_set {a n v : Nat} (ha : a < 1024) (hn : n < 4) (hv : v < 4) : (nI a &&& (((3 : Int32) <<< (2 * nI n + 2 &&& 31)) ^^^ (-1))) ||| (nI v <<< (2 * nI n + 2 &&& 31)) = nI (gs a n v) := by
  rcases (show n = 0 ∨ n = 1 ∨ n = 2 ∨ n = 3 by omega) with rfl | rfl | rfl | rfl
  · exact gb_set0 a ha v hv
  · exact gb_set1 a ha v hv
  · exact gb_set2 a ha v hv
  · exact gb_set3 a ha v hv
theorem gb_setS : ∀ a < 1024, ∀ v < 4, (nI a &&& -4) ||| nI v = nI (a - a % 4 + v) := by decide +kernel
/-- he goes to spot v with the set x -/
def gG (s v x : Nat) : Nat → Nat
  | 0 => s - s % 4 + v
  | n + 1 => if x.testBit n then gs (gG s v x n) n v else gG s v x n
theorem gG_lt {s v x : Nat} (hs : s < 1024) (hv : v < 4) : ∀ n ≤ 4, gG s v x n < 1024
  | 0, _ => by rw [gG]; omega
  | n + 1, h => by
    rw [gG]
    split
    · exact gs_lt (gG_lt hs hv n (by omega)) (by omega) hv
    · exact gG_lt hs hv n (by omega)
theorem gG_mod {s v x : Nat} (hv : v < 4) : ∀ n ≤ 4, gG s v x n % 4 = v
  | 0, _ => by rw [gG]; omega
  | n + 1, h => by
    rw [gG]
    split
    · rw [gs_mod (by omega) hv]; exact gG_mod hv n (by omega)
    · exact gG_mod hv n (by omega)
theorem gG_gd {s v x : Nat} (hv : v < 4) : ∀ n ≤ 4, ∀ t < 4, gd (gG s v x n) t = if t < n ∧ x.testBit t then v else gd s t
  | 0, _, t, ht => by
    rw [gG, if_neg (by omega)]
    rcases (show t = 0 ∨ t = 1 ∨ t = 2 ∨ t = 3 by omega) with rfl | rfl | rfl | rfl <;> simp only [gd, Nat.reducePow, Nat.reduceAdd] <;> omega
  | n + 1, h, t, ht => by
    rw [gG]
    split
    next c =>
      rw [gs_gd (by omega) ht hv, gG_gd hv n (by omega) t ht]
      by_cases e : t = n
      · subst e
        simp [c]
      · by_cases e2 : t < n
        · simp [e, e2, show t < n + 1 by omega]
        · simp [e, e2, show ¬ t < n + 1 by omega]
    next c =>
      rw [gG_gd hv n (by omega) t ht]
      by_cases e : t = n
      · subst e
        simp [c]
      · by_cases e2 : t < n
        · simp [e2, show t < n + 1 by omega]
        · simp [e2, show ¬ t < n + 1 by omega]
theorem z_gn_nat {s v x : Nat} (hs : s < 1024) (hv : v < 4) (hx : x < 16) : ∀ n ≤ 4, z_gn (nI s) (nI v) (nI x) n = nI (gG s v x n)
  | 0, _ => gb_setS s hs v hv
  | n + 1, h => by
    rw [z_gn, gG, z_gn_nat hs hv hx n (by omega), gb_bit x hx n (by omega), gb_set (gG_lt hs hv n (by omega)) (by omega) hv]
    split <;> rfl
/-! sets -/
theorem gb_ext : ∀ a < 16, ∀ b < 16, (∀ t < 4, a.testBit t = b.testBit t) → a = b := by decide +kernel
theorem gb_tand : ∀ a < 16, ∀ b < 16, ∀ t < 4, (a &&& (15 - b)).testBit t = (a.testBit t && !b.testBit t) := by decide +kernel
theorem gb_tor : ∀ a < 16, ∀ b < 16, ∀ t < 4, (a ||| b).testBit t = (a.testBit t || b.testBit t) := by decide +kernel
theorem gH_bit {ms s p : Nat} : ∀ n t, (gH ms s p n).testBit t = (decide (t < n) && (!decide (t = ms) && decide (gd s t = p)))
  | 0, t => by simp [gH]
  | n + 1, t => by
    have hl := gH_lt ms s p n
    rw [gH]
    by_cases c : n = ms ∨ gd s n ≠ p
    · rw [if_pos c, gH_bit n t]
      by_cases e : t = n
      · subst e
        rcases c with c | c
        · simp [c]
        · simp [c]
      · by_cases e2 : t < n
        · simp [e2, show t < n + 1 by omega]
        · simp [e2, show ¬ t < n + 1 by omega]
    · rw [if_neg c, Nat.add_comm]
      have c1 : n ≠ ms := fun q => c (Or.inl q)
      have c2 : gd s n = p := Classical.not_not.mp fun q => c (Or.inr q)
      by_cases e : t = n
      · subst e
        rw [Nat.testBit_two_pow_add_eq, Nat.testBit_lt_two_pow hl]
        simp [c1, c2]
      · by_cases e2 : t < n
        · rw [Nat.testBit_two_pow_add_gt e2, gH_bit n t]
          simp [e2, show t < n + 1 by omega]
        · have : 2 ^ n + gH ms s p n < 2 ^ t := by
            have h1 : 2 ^ (n + 1) ≤ 2 ^ t := Nat.pow_le_pow_right (by decide) (by omega)
            rw [Nat.pow_succ] at h1
            omega
          rw [Nat.testBit_lt_two_pow this]
          simp [show ¬ t < n + 1 by omega]
theorem gH_16 (ms s p : Nat) {n : Nat} (hn : n ≤ 4) : gH ms s p n < 16 := by
  have h1 := gH_lt ms s p n
  have h2 : 2 ^ n ≤ 2 ^ 4 := Nat.pow_le_pow_right (by decide) hn
  omega
