/-! bits of small numbers -/
theorem gb_bit : ∀ x < 16, ∀ t < 4, z_bit (nI x) (nI t) = x.testBit t := by decide +kernel
theorem gb_andn : ∀ x < 16, ∀ y < 16, z_andn (nI x) (nI y) = nI (x &&& (15 - y)) := by decide +kernel
theorem gb_and : ∀ x < 16, ∀ y < 16, (nI x &&& nI y : Int32) = nI (x &&& y) := by decide +kernel
theorem gb_or0 : ∀ a < 1, (nI a ||| ((1 : Int32) <<< (nI 0 &&& 31))) = nI (a + 1) := by decide +kernel
theorem gb_or1 : ∀ a < 2, (nI a ||| ((1 : Int32) <<< (nI 1 &&& 31))) = nI (a + 2) := by decide +kernel
theorem gb_or2 : ∀ a < 4, (nI a ||| ((1 : Int32) <<< (nI 2 &&& 31))) = nI (a + 4) := by decide +kernel
theorem gb_or3 : ∀ a < 8, (nI a ||| ((1 : Int32) <<< (nI 3 &&& 31))) = nI (a + 8) := by decide +kernel
theorem gb_or {n a : Nat} (hn : n < 4) (ha : a < 2 ^ n) : (nI a ||| ((1 : Int32) <<< (nI n &&& 31))) = nI (a + 2 ^ n) := by
  rcases (show n = 0 ∨ n = 1 ∨ n = 2 ∨ n = 3 by omega) with rfl | rfl | rfl | rfl
  · exact gb_or0 a ha
  · exact gb_or1 a ha
  · exact gb_or2 a ha
  · exact gb_or3 a ha
/-- where a thing is in a packed state -/
def gd (s n : Nat) : Nat := s / 4 ^ (n + 1) % 4
theorem gb_dig : ∀ s < 1024, ∀ n < 4, ((nI s) >>> (2 * nI n + 2 &&& 31)) &&& 3 = nI (gd s n) := by decide +kernel
theorem gb_spot : ∀ s < 1024, (nI s) &&& 3 = nI (s % 4) := by decide +kernel
theorem nI_inj {a b : Nat} (ha : a < 2 ^ 31) (hb : b < 2 ^ 31) (h : nI a = nI b) : a = b := by
  rw [← nI_clamp ha, ← nI_clamp hb, h]
theorem nI_eq_iff {a b : Nat} (ha : a < 2 ^ 31) (hb : b < 2 ^ 31) : nI a = nI b ↔ a = b := ⟨nI_inj ha hb, fun h => by rw [h]⟩
theorem nI_le_iff {a b : Nat} (ha : a < 2 ^ 31) (hb : b < 2 ^ 31) : nI a ≤ nI b ↔ a ≤ b := by
  rw [Int32.le_iff_toInt_le, nI_toInt ha, nI_toInt hb]; omega
theorem nI_lt_iff {a b : Nat} (ha : a < 2 ^ 31) (hb : b < 2 ^ 31) : nI a < nI b ↔ a < b := by
  rw [Int32.lt_iff_toInt_lt, nI_toInt ha, nI_toInt hb]; omega
/-- the things at a spot, of those that are there (not 'missing'), as a set -/
def gH (ms s p : Nat) : Nat → Nat
  | 0 => 0
  | n + 1 => if n = ms ∨ gd s n ≠ p then gH ms s p n else gH ms s p n + 2 ^ n
theorem gH_lt (ms s p : Nat) : ∀ n, gH ms s p n < 2 ^ n
  | 0 => by simp [gH]
  | n + 1 => by
    have := gH_lt ms s p n
    rw [gH, Nat.pow_succ]
    split <;> omega
/-- 'missing' as the model has it: -9 is none (here 99) -/
def gms (ms : Nat) : Int32 := if ms < 4 then nI ms else -9
theorem gms_eq : ∀ ms < 5, ∀ n < 4, (nI n = gms ms ↔ n = ms) := by decide +kernel
theorem gms_eq' {ms n : Nat} (hn : n < 4) : nI n = gms ms ↔ n = ms := by
  by_cases h : ms < 5
  · exact gms_eq ms h n hn
  · have : gms ms = gms 4 := by simp [gms, show ¬ ms < 4 by omega]
    rw [this, gms_eq 4 (by omega) n hn]
    omega
theorem z_ta_nat {s p ms : Nat} (hs : s < 1024) (hp : p < 4) : ∀ n ≤ 4, z_ta (nI s) (nI p) (gms ms) n = nI (gH ms s p n)
  | 0, _ => rfl
  | n + 1, h => by
    rw [z_ta, gH, z_ta_nat hs hp n (by omega), gb_dig s hs n (by omega)]
    have h1 : nI n = gms ms ↔ n = ms := gms_eq' (by omega)
    have h2 : nI (gd s n) = nI p ↔ gd s n = p := nI_eq_iff (by unfold gd; omega) (by omega)
    by_cases c : n = ms ∨ gd s n ≠ p
    · rw [if_pos c, if_pos (c.imp h1.mpr (fun q => fun r => q (h2.mp r)))]
    · rw [if_neg c, if_neg (fun q => c (q.imp h1.mp (fun q r => q (h2.mpr r)))), gb_or (by omega) (gH_lt ms s p n)]
/-- food in a set -/
theorem z_food_congr {k k' : Nat → Int32} : ∀ n, (∀ t, t < n → (k t = 1 ↔ k' t = 1)) → z_food k n = z_food k' n
  | 0, _ => rfl
  | n + 1, h => by
    rw [z_food, z_food, z_food_congr n (fun t ht => h t (by omega))]
    simp only [h n (by omega)]
theorem z_hf_congr {k k' : Nat → Int32} {x : Int32} : ∀ n, (∀ t, t < n → (k t = 1 ↔ k' t = 1)) → z_hf k x n = z_hf k' x n
  | 0, _ => rfl
  | n + 1, h => by
    rw [z_hf, z_hf, z_hf_congr n (fun t ht => h t (by omega))]
    simp only [h n (by omega)]
def gb_k (b0 b1 b2 b3 : Bool) : Nat → Int32
  | 0 => z_b b0
  | 1 => z_b b1
  | 2 => z_b b2
  | _ => z_b b3
theorem gb_fh : ∀ b0 b1 b2 b3 : Bool, ∀ x < 16, ∀ n < 5, decide (nI x &&& z_food (gb_k b0 b1 b2 b3) n = 0) = !z_hf (gb_k b0 b1 b2 b3) (nI x) n := by decide +kernel
theorem z_food_hf (k : Nat → Int32) {x n : Nat} (hx : x < 16) (hn : n ≤ 4) : decide (nI x &&& z_food k n = 0) = !z_hf k (nI x) n := by
  have hc : ∀ t, t < n → (k t = 1 ↔ gb_k (decide (k 0 = 1)) (decide (k 1 = 1)) (decide (k 2 = 1)) (decide (k 3 = 1)) t = 1) := by
    intro t ht
    rcases (show t = 0 ∨ t = 1 ∨ t = 2 ∨ t = 3 by omega) with rfl | rfl | rfl | rfl <;> simp only [gb_k, z_b1, decide_eq_true_eq]
  rw [z_food_congr n hc, z_hf_congr n hc]
  exact gb_fh _ _ _ _ x hx n (by omega)
theorem z_well_mw {k o f : Int32} {hf : Bool} (hk : k = 0 ∨ k = 1 ∨ k = 2) (hh : decide (f = 0) = !hf) : z_well k o f = z_mw k o hf := by
  unfold z_well z_mw
  rw [hh]
  rcases hk with rfl | rfl | rfl <;> simp
/-- class and model agree on who is well -/
theorem z_wo_wm {k : Nat → Int32} {x K : Nat} (hx : x < 16) (hK : K ≤ 4) (hk : ∀ t, t < K → k t = 0 ∨ k t = 1 ∨ k t = 2) : ∀ n ≤ K, z_wo k (nI x) (nI x &&& z_food k K) n = z_wm k (nI x) K n
  | 0, _ => rfl
  | n + 1, h => by
    rw [z_wo, z_wm, z_wo_wm hx hK hk n (by omega), z_well_mw (hk n (by omega)) (z_food_hf k hx hK)]
theorem z_wm_congr {k k' : Nat → Int32} {x : Int32} {K : Nat} (h : ∀ t, t < K → k t = k' t) : ∀ n ≤ K, z_wm k x K n = z_wm k' x K n
  | 0, _ => rfl
  | n + 1, hn => by
    rw [z_wm, z_wm, z_wm_congr h n (by omega), h n (by omega), z_hf_congr K (fun t ht => by rw [h t ht])]
theorem z_ld_congr {P P' : Nat → Int32} {x : Int32} : ∀ n, (∀ t, t < n → P t = P' t) → z_ld P x n = z_ld P' x n
  | 0, _ => rfl
  | n + 1, h => by
    rw [z_ld, z_ld, z_ld_congr n (fun t ht => h t (by omega)), h n (by omega)]
/-- loads as numbers -/
def gL (P : Nat → Nat) (x : Nat) : Nat → Nat
  | 0 => 0
  | n + 1 => if x.testBit n then gL P x n + P n else gL P x n
theorem gL_le {P : Nat → Nat} {x : Nat} : ∀ n, (∀ t, t < n → P t ≤ 9) → gL P x n ≤ 9 * n
  | 0, _ => by simp [gL]
  | n + 1, h => by
    have h1 := gL_le (P := P) (x := x) n (fun t ht => h t (by omega))
    have h2 := h n (by omega)
    rw [gL]
    split <;> omega
theorem z_ld_nat {P : Nat → Int32} {p : Nat → Nat} {x : Nat} (hx : x < 16) : ∀ n ≤ 4, (∀ t, t < n → P t = nI (p t) ∧ p t ≤ 9) → z_ld P (nI x) n = nI (gL p x n)
  | 0, _, _ => rfl
  | n + 1, hn, h => by
    rw [z_ld, gL, z_ld_nat hx n (by omega) (fun t ht => h t (by omega)), gb_bit x hx n (by omega), (h n (by omega)).1, z_nIadd]
    split <;> rfl
theorem gL_pos {P : Nat → Nat} {x : Nat} : ∀ n, (∀ t, t < n → 1 ≤ P t) → (gL P x n = 0 ↔ ∀ t, t < n → x.testBit t = false)
  | 0, _ => by simp [gL]
  | n + 1, h => by
    have h1 := gL_pos (P := P) (x := x) n (fun t ht => h t (by omega))
    have h2 := h n (by omega)
    rw [gL]
    by_cases c : x.testBit n
    · rw [if_pos c]
      constructor
      · intro e; omega
      · intro q; rw [q n (by omega)] at c; cases c
    · rw [if_neg c, h1]
      constructor
      · intro q t ht
        by_cases e : t = n
        · subst e; simpa using c
        · exact q t (by omega)
      · intro q t ht
        exact q t (by omega)
theorem gb_zero : ∀ n < 5, ∀ x < 2 ^ n, (∀ t < n, x.testBit t = false) → x = 0 := by decide +kernel
