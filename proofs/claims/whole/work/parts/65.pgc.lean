/-! the class's portage() -/
/-- what has been read is as a text has it -/
def pV (s : zP) : Prop := (3 ≤ s.1 → ∃ b, (1 ≤ b ∧ b ≤ 9) ∧ s.2.1 = nI b) ∧ (∀ j, j < s.2.2.1 → (∃ l, (1 ≤ l ∧ l ≤ 9) ∧ s.2.2.2.2.1 j = nI l) ∧ ∃ m, m ≤ 4 ∧ s.2.2.2.2.2.1 j = nI m) ∧ (s.1 = 5 → ∃ l, (1 ≤ l ∧ l ≤ 9) ∧ s.2.2.2.2.1 s.2.2.1 = nI l) ∧ (∀ t, t < s.2.2.2.1 → (s.2.2.2.2.2.2.1 t = 0 ∨ s.2.2.2.2.2.2.1 t = 1 ∨ s.2.2.2.2.2.2.1 t = 2) ∧ ∃ p, (1 ≤ p ∧ p ≤ 9) ∧ s.2.2.2.2.2.2.2 t = nI p) ∧ (s.1 = 7 → (s.2.2.2.2.2.2.1 s.2.2.2.1 = 0 ∨ s.2.2.2.2.2.2.1 s.2.2.2.1 = 1 ∨ s.2.2.2.2.2.2.1 s.2.2.2.1 = 2)) ∧ (0 < s.2.2.2.1 ∨ s.1 = 6 ∨ s.1 = 7 → 0 < s.2.2.1)
theorem pDigit {d : Int32} {lo hi : Nat} (hhi : hi < 2 ^ 31) (h : ¬ (d < nI lo ∨ ¬ d ≤ nI hi)) (hlo : lo ≤ hi) : ∃ l, (lo ≤ l ∧ l ≤ hi) ∧ d = nI l := by
  have h1 : ¬ d < nI lo := fun q => h (Or.inl q)
  have h2 : d ≤ nI hi := Classical.not_not.mp fun q => h (Or.inr q)
  have h0 : ¬ d < 0 := fun q => h1 (by
    rw [Int32.lt_iff_toInt_lt] at q ⊢
    rw [nI_toInt (by omega)]
    have : (0 : Int32).toInt = 0 := rfl
    omega)
  obtain ⟨l, e1, e2, e3⟩ := z_999 h0
  rw [e1, nI_lt_iff e3 (by omega)] at h1
  rw [e1, nI_le_iff e3 hhi] at h2
  exact ⟨l, by omega, e1⟩
theorem pKd_ok {code : Int32} (h : ¬ pKd code = -9) : pKd code = 0 ∨ pKd code = 1 ∨ pKd code = 2 := by
  unfold pKd at h ⊢
  split
  · exact Or.inl rfl
  · split
    · exact Or.inr (Or.inl rfl)
    · split
      · exact Or.inr (Or.inr rfl)
      · rename_i a b c; simp [a, b, c] at h
theorem pV_step {s : zP} (hI : pInv s) (h : pV s) (code : Int32) (h0 : (pStep s code).1 ≠ 0) : pV (pStep s code) := by
  obtain ⟨due, B, N, K, ln, md, kd, pd⟩ := s
  obtain ⟨v1, v2, v3, v4, v5, v6⟩ := h
  obtain ⟨⟨i1, i2⟩, -⟩ := hI
  simp only at v1 v2 v3 v4 v5 v6 i1 i2
  unfold pStep at h0 ⊢
  simp only at h0 ⊢
  rcases (show due = 1 ∨ due = 2 ∨ due = 3 ∨ due = 4 ∨ due = 5 ∨ due = 6 ∨ due = 7 by omega) with rfl | rfl | rfl | rfl | rfl | rfl | rfl
  · simp only [if_true] at h0 ⊢
    by_cases e : code = 103
    · simp only [if_pos e]; exact ⟨by simp, v2, by simp, v4, by simp, fun q => v6 (by simpa using q)⟩
    · simp only [if_neg e] at h0; exact absurd rfl h0
  · simp only [Nat.reduceEqDiff, if_false, if_true] at h0 ⊢
    by_cases e : code - 48 < 1 ∨ ¬ code - 48 ≤ 9
    · simp only [if_pos e] at h0; exact absurd rfl h0
    · simp only [if_neg e]; exact ⟨fun _ => pDigit (lo := 1) (hi := 9) (by decide) e (by decide), v2, by simp, v4, by simp, fun q => v6 (by simpa using q)⟩
  · simp only [Nat.reduceEqDiff, if_false, if_true] at h0 ⊢
    by_cases e : code = 59 ∧ K = 0 ∧ N < 3
    · simp only [if_pos e]; exact ⟨fun _ => v1 (by decide), v2, by simp, v4, by simp, fun q => v6 (by simpa using q)⟩
    · simp only [if_neg e] at h0 ⊢
      by_cases e2 : code = 44 ∧ 0 < N ∧ K < 4
      · simp only [if_pos e2]; exact ⟨fun _ => v1 (by decide), v2, by simp, v4, by simp, fun _ => e2.2.1⟩
      · simp only [if_neg e2] at h0; exact absurd rfl h0
  · simp only [Nat.reduceEqDiff, if_false, if_true] at h0 ⊢
    by_cases e : code - 48 < 1 ∨ ¬ code - 48 ≤ 9
    · simp only [if_pos e] at h0; exact absurd rfl h0
    · simp only [if_neg e]
      refine ⟨fun _ => v1 (by decide), fun j hj => ?_, fun _ => ?_, v4, by simp, fun q => v6 (by simpa using q)⟩
      · show (∃ l, (1 ≤ l ∧ l ≤ 9) ∧ upd ln N (code - 48) j = nI l) ∧ _
        have hj : j < N := hj
        unfold upd
        rw [if_neg (by omega)]
        exact v2 j hj
      · show ∃ l, (1 ≤ l ∧ l ≤ 9) ∧ upd ln N (code - 48) N = nI l
        unfold upd
        rw [if_pos rfl]
        exact pDigit (lo := 1) (hi := 9) (by decide) e (by decide)
  · simp only [Nat.reduceEqDiff, if_false, if_true] at h0 ⊢
    by_cases e : code - 48 < 0 ∨ ¬ code - 48 ≤ 4
    · simp only [if_pos e] at h0; exact absurd rfl h0
    · simp only [if_neg e]
      refine ⟨fun _ => v1 (by decide), fun j hj => ?_, by simp, v4, by simp, fun _ => Nat.succ_pos _⟩
      have hj : j < N + 1 := hj
      show _ ∧ ∃ m, m ≤ 4 ∧ upd md N (code - 48) j = nI m
      unfold upd
      by_cases q : j = N
      · subst q
        rw [if_pos rfl]
        obtain ⟨l, l1, l2⟩ := pDigit (lo := 0) (hi := 4) (by decide) e (by decide)
        exact ⟨v3 rfl, l, l1.2, l2⟩
      · rw [if_neg q]
        exact v2 j (by omega)
  · simp only [Nat.reduceEqDiff, if_false, if_true] at h0 ⊢
    by_cases e : pKd code = -9
    · simp only [if_pos e] at h0; exact absurd rfl h0
    · simp only [if_neg e]
      refine ⟨fun _ => v1 (by decide), v2, by simp, fun t ht => ?_, fun _ => ?_, fun _ => v6 (by simp)⟩
      · have ht : t < K := ht
        show (upd kd K (pKd code) t = 0 ∨ upd kd K (pKd code) t = 1 ∨ upd kd K (pKd code) t = 2) ∧ _
        unfold upd
        rw [if_neg (by omega)]
        exact v4 t ht
      · show upd kd K (pKd code) K = 0 ∨ upd kd K (pKd code) K = 1 ∨ upd kd K (pKd code) K = 2
        unfold upd
        rw [if_pos rfl]
        exact pKd_ok e
  · simp only [Nat.reduceEqDiff, if_false, if_true] at h0 ⊢
    by_cases e : code - 48 < 1 ∨ ¬ code - 48 ≤ 9
    · simp only [if_pos e] at h0; exact absurd rfl h0
    · simp only [if_neg e]
      refine ⟨fun _ => v1 (by decide), v2, by simp, fun t ht => ?_, by simp, fun _ => v6 (by simp)⟩
      have ht : t < K + 1 := ht
      show _ ∧ ∃ p, (1 ≤ p ∧ p ≤ 9) ∧ upd pd K (code - 48) t = nI p
      unfold upd
      by_cases q : t = K
      · subst q
        rw [if_pos rfl]
        exact ⟨v5 rfl, pDigit (lo := 1) (hi := 9) (by decide) e (by decide)⟩
      · rw [if_neg q]
        exact v4 t (by omega)
theorem pLoop_ok (f : Nat → Int32) (n : Nat) : ∀ m p s, pInv s → pV s → (pLoop f n m p s).1 = none → pInv (pLoop f n m p s).2 ∧ pV (pLoop f n m p s).2 ∧ 0 < (pLoop f n m p s).2.2.2.2.1
  | 0, p, s, hI, hV, h => by
    rw [pLoop] at h ⊢
    refine ⟨hI, hV, ?_⟩
    by_cases e : s.1 = 3 ∧ 0 < s.2.2.2.1
    · exact e.2
    · simp only [if_neg e] at h; cases h
  | m + 1, p, s, hI, hV, h => by
    rw [pLoop] at h ⊢
    by_cases e : (pStep s (f p)).1 = 0
    · rw [if_pos e] at h; cases h
    · rw [if_neg e] at h ⊢
      exact pLoop_ok f n m (p + 1) _ (pInv_step hI _ e) (pV_step hI hV _ e) h
theorem pLoop_le (f : Nat → Int32) (n : Nat) : ∀ m p s q, p + m = n → (pLoop f n m p s).1 = some q → q ≤ n
  | 0, p, s, q, hp, h => by
    rw [pLoop] at h
    by_cases e : s.1 = 3 ∧ 0 < s.2.2.2.1
    · simp only [if_pos e] at h; cases h
    · simp only [if_neg e] at h; cases h; omega
  | m + 1, p, s, q, hp, h => by
    rw [pLoop] at h
    by_cases e : (pStep s (f p)).1 = 0
    · rw [if_pos e] at h; cases h; omega
    · rw [if_neg e] at h
      exact pLoop_le f n m (p + 1) _ q (by omega) h
