/-! told trips, purely: states, minutes, likelihoods, the first wrong one -/
section ZWALK
variable (c : zG) (to x : Nat → Nat)
def wS : Nat → Nat
  | 0 => 0
  | k + 1 => gG (wS k) (to k) (x k) 4
def wK (k : Nat) : Nat := min (wS to x k % 4) (to k)
def wT : Nat → Nat
  | 0 => 0
  | k + 1 => wT k + gTk c (wK to x k) (x k) (gWet c (wT k))
def wU : Nat → Nat
  | 0 => 1
  | k + 1 => if x k = 0 then wU k else wU k * (10 - gMu c (wK to x k) (gWet c (wT c to x k)))
def wL : Nat → Nat
  | 0 => 1
  | k + 1 => if x k = 0 then wL k else wL k * 10
def wOk (k : Nat) : Bool := gOk c (wS to x k) (to k) (x k)
def wW : Nat → Option Nat
  | 0 => none
  | n + 1 => match wW n with
    | some k => some k
    | none => if wOk c to x n then none else some n
end ZWALK
theorem wW_none {c : zG} {to x : Nat → Nat} : ∀ n, (∀ i, i < n → wOk c to x i = true) → wW c to x n = none
  | 0, _ => rfl
  | n + 1, h => by
    rw [wW, wW_none n (fun i hi => h i (by omega))]
    simp [h n (by omega)]
theorem wW_some {c : zG} {to x : Nat → Nat} {k : Nat} (h : ∀ i, i < k → wOk c to x i = true) (hk : wOk c to x k = false) : ∀ n, k < n → wW c to x n = some k
  | 0, hn => by omega
  | n + 1, hn => by
    rw [wW]
    by_cases e : k = n
    · subst e
      rw [wW_none k h]
      simp [hk]
    · rw [wW_some h hk n (by omega)]
theorem wW_ok {c : zG} {to x : Nat → Nat} : ∀ n, wW c to x n = none → ∀ i, i < n → wOk c to x i = true
  | 0, _, i, hi => by omega
  | n + 1, h, i, hi => by
    rw [wW] at h
    cases e : wW c to x n with
    | some k => rw [e] at h; cases h
    | none =>
      rw [e] at h
      by_cases e2 : wOk c to x n = true
      · by_cases e3 : i = n
        · subst e3; exact e2
        · exact wW_ok n e i (by omega)
      · simp [e2] at h
theorem gOk_v {c : zG} {s v x : Nat} (h : gOk c s v x = true) : v ≤ cN c ∧ (v = s % 4 + 1 ∨ v + 1 = s % 4) := by
  unfold gOk at h
  simp only [Bool.and_eq_true, Bool.or_eq_true, decide_eq_true_eq] at h
  exact ⟨h.1, h.2.1⟩
theorem wS_ok {c : zG} {to x : Nat → Nat} (hN : cN c ≤ 3) : ∀ k, (∀ i, i < k → wOk c to x i = true) → wS to x k < 1024 ∧ wS to x k % 4 ≤ cN c
  | 0, _ => by simp [wS]
  | k + 1, h => by
    have h1 := wS_ok hN k (fun i hi => h i (by omega))
    have h2 := gOk_v (h k (by omega))
    rw [wS]
    exact ⟨gG_lt h1.1 (by omega) 4 (by omega), by rw [gG_mod (by omega) 4 (by omega)]; exact h2.1⟩
theorem wK_lt {c : zG} {to x : Nat → Nat} (hN : cN c ≤ 3) {k : Nat} (h : ∀ i, i < k + 1 → wOk c to x i = true) : wK to x k < cN c := by
  have h1 := wS_ok hN k (fun i hi => h i (by omega))
  have h2 := gOk_v (h k (by omega))
  unfold wK
  omega
theorem wT_le {c : zG} {to x : Nat → Nat} (hc : gWf c) (hx : ∀ k, x k < 16) : ∀ k, (∀ i, i < k → wOk c to x i = true) → wT c to x k ≤ 29 * k
  | 0, _ => by simp [wT]
  | k + 1, h => by
    have h1 := wT_le hc hx k (fun i hi => h i (by omega))
    have h2 := (gTk_nat hc (wK_lt hc.2.1.1 h) (hx k) (gWet c (wT c to x k))).2.2
    rw [wT]
    omega
/-- the model's rows hold a portage -/
def gM (σ : zS) (c : zG) : Prop := (σ.1 43 7 = nI (cK c) ∧ σ.1 43 6 = nI (cN c) ∧ σ.1 43 14 = gms (cM c)) ∧ (σ.1 50 = cKd c ∧ σ.1 51 = cPd c) ∧ (σ.1 47 = cLn c ∧ σ.1 48 = cMd c ∧ σ.1 49 = cBd c) ∧ σ.1 43 5 = cB c ∧ σ.1 43 8 = cR c
/-- the class's rows hold a portage, at r -/
def gC (r : Nat) (σ : zS) (c : zG) : Prop := (σ.1 r 6 = nI (cK c) ∧ σ.1 r 2 = nI (cN c) ∧ 4 ≤ cM c) ∧ (σ.1 (r + 4) = cKd c ∧ σ.1 (r + 5) = cPd c) ∧ (σ.1 (r + 1) = cLn c ∧ σ.1 (r + 2) = cMd c ∧ σ.1 (r + 3) = cBd c) ∧ σ.1 r 0 = cB c ∧ σ.1 r 1 = cR c
theorem z_minI {a b : Nat} (ha : a < 2 ^ 31) (hb : b < 2 ^ 31) : (if nI b ≤ nI a then nI b else nI a) = nI (min a b) := by
  by_cases h : b ≤ a
  · rw [if_pos ((nI_le_iff hb ha).mpr h), Nat.min_eq_right h]
  · rw [if_neg (fun q => h ((nI_le_iff hb ha).mp q)), Nat.min_eq_left (by omega)]
/-- trips laid in the model -/
def gTm (σ : zS) (n : Nat) (to x : Nat → Nat) : Prop := σ.1 43 21 = nI n ∧ n ≤ 18 ∧ ∀ k, k < n → σ.1 54 k = nI (to k) ∧ to k < 4 ∧ σ.1 55 k = nI (x k)
/-- what the model's go() may write -/
def gFm (σ τ : zS) : Prop := (∀ q, q ≠ 43 → q ≠ 56 → q ≠ 57 → τ.1 q = σ.1 q) ∧ (∀ j, j ≠ 26 → j ≠ 27 → τ.1 43 j = σ.1 43 j) ∧ (∀ q, q ≠ 43 → τ.2 q = σ.2 q)
/-- how far the model's go() is -/
def gJm (σ : zS) (c : zG) (to x : Nat → Nat) (k : Nat) (τ : zS) : Prop :=
  gFm σ τ ∧ (τ.1 43 26 = nI (wS to x k) ∧ τ.1 43 27 = nI (wT c to x k) ∧ τ.2 43 28 = lN (wU c to x k) ∧ τ.2 43 29 = lN (wL x k)) ∧ ∀ i, i < k → τ.1 56 i = nI (wT c to x i) ∧ τ.1 57 i = nI (wT c to x (i + 1))
def wR (o : Option Nat) : Int32 := match o with
  | none => -9
  | some k => nI k
theorem gM.of {σ τ : zS} {c : zG} (h : gM σ c) (hf : gFm σ τ) : gM τ c := by
  obtain ⟨⟨a1, a2, a3⟩, ⟨b1, b2⟩, ⟨c1, c2, c3⟩, d1, e1⟩ := h
  obtain ⟨f1, f2, -⟩ := hf
  exact ⟨⟨(f2 7 (by decide) (by decide)).trans a1, (f2 6 (by decide) (by decide)).trans a2, (f2 14 (by decide) (by decide)).trans a3⟩, ⟨(f1 50 (by decide) (by decide) (by decide)).trans b1, (f1 51 (by decide) (by decide) (by decide)).trans b2⟩, ⟨(f1 47 (by decide) (by decide) (by decide)).trans c1, (f1 48 (by decide) (by decide) (by decide)).trans c2, (f1 49 (by decide) (by decide) (by decide)).trans c3⟩, (f2 5 (by decide) (by decide)).trans d1, (f2 8 (by decide) (by decide)).trans e1⟩
theorem gTm.of {σ τ : zS} {n : Nat} {to x : Nat → Nat} (h : gTm σ n to x) (hf : gFm σ τ) : gTm τ n to x := by
  obtain ⟨a, b, e⟩ := h
  refine ⟨(hf.2.1 21 (by decide) (by decide)).trans a, b, fun k hk => ?_⟩
  rw [hf.1 54 (by decide) (by decide) (by decide), hf.1 55 (by decide) (by decide) (by decide)]
  exact e k hk
theorem z_stL_at (σ : zS) (r j : Nat) (v : Int64) : (z_stL σ r j v).2 r j = v := by simp [z_stL, z_upL, vp_updL]

theorem z_i2l_nat {a : Nat} (h : a < 2 ^ 31) : (nI a).toInt64 = lN a := by
  apply Int64.toInt_inj.mp
  rw [Int32.toInt_toInt64, nI_toInt h]
  exact (Int64.toInt_ofNat_of_lt (by omega)).symm
theorem gb_10 : ∀ m < 9, (10 : Int32) - nI m = nI (10 - m) := by decide +kernel
