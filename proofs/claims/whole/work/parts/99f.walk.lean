/-! told trips of both: the same walk -/
section ZC
variable {c c' : zG} {to x to' x' : Nat → Nat} {n : Nat}
theorem wS_c (h : ∀ i, i < n → to i = to' i ∧ x i = x' i) : ∀ k, k ≤ n → wS to x k = wS to' x' k
  | 0, _ => rfl
  | k + 1, hk => by
    rw [wS, wS, wS_c h k (by omega), (h k (by omega)).1, (h k (by omega)).2]
theorem wOk_c (h : ∀ i, i < n → to i = to' i ∧ x i = x' i) (he : gEq c c') {k : Nat} (hk : k < n) : wOk c to x k = wOk c' to' x' k := by
  unfold wOk
  rw [wS_c h k (by omega), (h k hk).1, (h k hk).2, he.ok]
theorem wW_c (h : ∀ i, i < n → to i = to' i ∧ x i = x' i) (he : gEq c c') : ∀ k, k ≤ n → wW c to x k = wW c' to' x' k
  | 0, _ => rfl
  | k + 1, hk => by
    rw [wW, wW, wW_c h he k (by omega), wOk_c h he (by omega)]
theorem wT_c (h : ∀ i, i < n → to i = to' i ∧ x i = x' i) (he : gEq c c') (hN : cN c ≤ 3) (ho : ∀ i, i < n → wOk c to x i = true) : ∀ k, k ≤ n → wT c to x k = wT c' to' x' k
  | 0, _ => rfl
  | k + 1, hk => by
    have hK : wK to x k < cN c := wK_lt hN (fun i hi => ho i (by omega))
    have e : wK to x k = wK to' x' k := by unfold wK; rw [wS_c h k (by omega), (h k (by omega)).1]
    rw [wT, wT, ← wT_c h he hN ho k (by omega), he.wet, he.tk hK, e, (h k (by omega)).2]
theorem wL_c (h : ∀ i, i < n → to i = to' i ∧ x i = x' i) : ∀ k, k ≤ n → wL x k = wL x' k
  | 0, _ => rfl
  | k + 1, hk => by rw [wL, wL, wL_c h k (by omega), (h k (by omega)).2]
theorem wU_c (h : ∀ i, i < n → to i = to' i ∧ x i = x' i) (he : gEq c c') (hN : cN c ≤ 3) (ho : ∀ i, i < n → wOk c to x i = true) : ∀ k, k ≤ n → wU c to x k = wU c' to' x' k
  | 0, _ => rfl
  | k + 1, hk => by
    have hK : wK to x k < cN c := wK_lt hN (fun i hi => ho i (by omega))
    have e : wK to x k = wK to' x' k := by unfold wK; rw [wS_c h k (by omega), (h k (by omega)).1]
    rw [wU, wU, ← wU_c h he hN ho k (by omega), ← wT_c h he hN ho k (by omega), he.wet, he.mu hK, e, (h k (by omega)).2]
theorem wA_c (h : ∀ i, i < n → to i = to' i ∧ x i = x' i) (he : gEq c c') (hN : cN c ≤ 3) (ho : ∀ i, i < n → wOk c to x i = true) (t m : Nat) : ∀ k, k ≤ n → wA c to x t m k = wA c' to' x' t m k
  | 0, _ => rfl
  | k + 1, hk => by
    rw [wA, wA, wA_c h he hN ho t m k (by omega), wT_c h he hN ho k (by omega), wT_c h he hN ho (k + 1) hk, (h k (by omega)).1, (h k (by omega)).2]
theorem z_trO_c (h : ∀ i, i < n → to i = to' i ∧ x i = x' i) (he : gEq c c') (hN : cN c ≤ 3) (w : Int32) : z_trO c n to x w = z_trO c' n to' x' w := by
  unfold z_trO
  rw [← wW_c h he n (Nat.le_refl _)]
  by_cases c1 : w = 1
  · rw [if_pos c1, if_pos c1]
  · rw [if_neg c1, if_neg c1]
    cases e : wW c to x n with
    | some k => rfl
    | none =>
      have ho := wW_ok n e
      show (if w = 0 then _ else _) = (if w = 0 then _ else _)
      rw [wT_c h he hN ho n (Nat.le_refl _), wS_c h n (Nat.le_refl _), he.1, he.2.1, he.2.2.1]
theorem z_atO_c (h : ∀ i, i < n → to i = to' i ∧ x i = x' i) (he : gEq c c') (hN : cN c ≤ 3) (t m : Nat) : z_atO c n to x t m = z_atO c' n to' x' t m := by
  unfold z_atO
  rw [← wW_c h he n (Nat.le_refl _)]
  cases e : wW c to x n with
  | some k => rfl
  | none => exact wA_c h he hN (wW_ok n e) t m n (Nat.le_refl _)
theorem z_dryO_s {k : Nat} {w : Int32} (h : wW c to x n = some k) : z_dryO c n to x w = -9223372036854775808 := by
  unfold z_dryO
  rw [h]
theorem z_dryO_n {w : Int32} (h : wW c to x n = none) : z_dryO c n to x w = lN (if w = 0 then wU c to x n / Nat.gcd (wL x n) (wU c to x n) else wL x n / Nat.gcd (wL x n) (wU c to x n)) := by
  unfold z_dryO
  rw [h]
theorem z_dryO_c (h : ∀ i, i < n → to i = to' i ∧ x i = x' i) (he : gEq c c') (hN : cN c ≤ 3) (w : Int32) : z_dryO c n to x w = z_dryO c' n to' x' w := by
  have hw := wW_c h he n (Nat.le_refl _)
  cases e : wW c to x n with
  | some k => exact (z_dryO_s e).trans (z_dryO_s (hw.symm.trans e)).symm
  | none =>
    rw [z_dryO_n e, z_dryO_n (hw.symm.trans e), wU_c h he hN (wW_ok n e) n (Nat.le_refl _), wL_c h n (Nat.le_refl _)]
theorem wRd_c (h : ∀ i, i < n → to i = to' i ∧ x i = x' i) (he : gEq c c') (hN : cN c ≤ 3) (ho : ∀ i, i < n → wOk c to x i = true) (rt rm : Nat → Nat) (rs : Nat → Int32) : ∀ q, wRd c to x n rt rm rs q = wRd c' to' x' n rt rm rs q
  | 0 => rfl
  | q + 1 => by rw [wRd, wRd, wRd_c h he hN ho rt rm rs q, wA_c h he hN ho _ _ n (Nat.le_refl _)]
theorem wAs_c (h : ∀ i, i < n → to i = to' i ∧ x i = x' i) (he : gEq c c') (hN : cN c ≤ 3) (rt rm : Nat → Nat) (rs : Nat → Int32) (q : Nat) : wAs c to x n rt rm rs q = wAs c' to' x' n rt rm rs q := by
  unfold wAs
  rw [← wW_c h he n (Nat.le_refl _)]
  cases e : wW c to x n with
  | some k => rw [Option.isNone_some, Bool.false_and, Bool.false_and]
  | none => rw [wRd_c h he hN (wW_ok n e)]
end ZC
theorem z_sn_c {f g : Nat → Bool} : ∀ n, (∀ v, v < n → f v = g v) → z_sn f n = z_sn g n
  | 0, _ => rfl
  | n + 1, h => by rw [z_sn, z_sn, z_sn_c n (fun v hv => h v (by omega)), h n (by omega)]
theorem gEq.kind {c c' : zG} (h : gEq c c') (t : Nat) (v : Int32) : gEq (cKind c t v) (cKind c' t v) := by
  obtain ⟨h1, h2, h3, h4, h5, h6, h7⟩ := h
  refine ⟨h1, h2, h3, fun j hj => ⟨?_, (h4 j hj).2⟩, h5, h6, h7⟩
  show upd (cKd c) t v j = upd (cKd c') t v j
  unfold upd
  rw [(h4 j hj).1]
theorem z_ck_c {f g : Nat → Int32} {b : Nat} {N K : Int32} : ∀ n, (∀ p, p < 2 * n → f (b + p) = g (b + p)) → z_ck f b N K n = z_ck g b N K n
  | 0, _ => rfl
  | n + 1, h => by
    have e1 := h (2 * n) (by omega)
    have e2 := h (2 * n + 1) (by omega)
    rw [z_ck, z_ck, z_ck_c n (fun p hp => h p (by omega)), e1, show b + 2 * n + 1 = b + (2 * n + 1) by omega, e2]
/-- the answers in the stead of trips agree -/
theorem z_ag_fa {lane la i n size : Int32} : z_ag lane la i n size = if ¬ z_fa lane la = 0 then z_fa lane la else if ¬ 0 ≤ n then 4 else if z_hc i n size = false then 3 else 0 := by
  unfold z_ag z_fa z_hc
  by_cases c1 : lane = -9
  · simp [c1]
  · by_cases c2 : lane = la
    · subst c2
      by_cases c3 : 0 ≤ n
      · have c4 : ¬ n < 0 := Int32.not_lt.mpr c3
        by_cases d1 : i < 0 <;> by_cases d2 : size < i <;> by_cases d3 : size - i < n <;> simp [c1, c3, c4, d1, d2, d3, Int32.not_le]
      · simp [c1, c3]
    · simp [c1, c2]
theorem z_two18 {n : Int32} (h : z_wi n 0 18 = true) : 0 ≤ 2 * n := by
  obtain ⟨m, rfl, -, hm⟩ := z_wi18 h
  rw [gb_two m (by omega)]
  exact nI_pos' (by omega)
theorem i_tC {σ τ : zS} {a b : zI} (ho : aOk a) (hC : iC σ a) (hM : iM τ b) (hG : aG b = aG a) (hL : aL b = aL a) (hZ : aZ b = aZ a) (hcl : aC b = aC a) (hf : aF b = aF a) (sh la i n v : Int32) : z_mC τ sh la i n v = z_tC σ sh la i n v ∧ (z_mF τ sh la i n v).1 43 0 = (z_tF σ sh la i n v).1 0 13 ∧ (z_tC σ sh la i n v = 0 → ∀ k, k < n.toNatClampNeg → z_to (σ.1 (14 + sh.toNatClampNeg + 4)) i.toNatClampNeg k = z_to (z_row τ sh.toNatClampNeg) i.toNatClampNeg k ∧ z_xs (σ.1 (14 + sh.toNatClampNeg + 4)) i.toNatClampNeg k = z_xs (z_row τ sh.toNatClampNeg) i.toNatClampNeg k) := by
  have hfl : τ.1 43 0 = σ.1 0 13 := by rw [hM.1.1, hC.1.1, hf]
  have hnM := hM.n
  rw [hG] at hnM
  unfold z_mC z_tC z_mF z_tF
  by_cases c1 : z_wi sh 0 3 = false
  · rw [if_pos c1, if_pos c1, if_pos c1, if_pos c1]
    exact ⟨rfl, hfl, fun q => absurd q (by decide)⟩
  rw [if_neg c1, if_neg c1, if_neg c1, if_neg c1]
  have cc : ((z_wi la 0 2 && z_wi n 0 18) = false ∨ v = 0) ↔ (z_wi la 0 2 = false ∨ n < 0 ∨ 18 < n ∨ v = 0) := by
    have e := z_wi_or (v := n) 0 18
    rw [Int32.not_le] at e
    rw [Bool.and_eq_false_iff, e]
    constructor
    · rintro ((q | q | q) | q)
      · exact Or.inl q
      · exact Or.inr (Or.inl q)
      · exact Or.inr (Or.inr (Or.inl q))
      · exact Or.inr (Or.inr (Or.inr q))
    · rintro (q | q | q | q)
      · exact Or.inl (Or.inl q)
      · exact Or.inl (Or.inr (Or.inl q))
      · exact Or.inl (Or.inr (Or.inr q))
      · exact Or.inr q
  by_cases c2 : z_wi la 0 2 = false ∨ n < 0 ∨ 18 < n ∨ v = 0
  · rw [if_pos (cc.mpr c2), if_pos (cc.mpr c2), if_pos c2, if_pos c2]
    exact ⟨rfl, hfl, fun q => absurd q (by decide)⟩
  rw [if_neg (fun q => c2 (cc.mp q)), if_neg (fun q => c2 (cc.mp q)), if_neg c2, if_neg c2]
  have hn18 : z_wi n 0 18 = true := by
    cases e : z_wi n 0 18 with
    | true => rfl
    | false => exact absurd (cc.mp (Or.inl (by rw [e]; simp))) c2
  obtain ⟨kn, hkn, -, ek⟩ := z_wi4 c1
  have sC := hC.2.2.1 kn hkn
  have sM := hM.2.2.1 kn hkn
  rw [hL, hZ, hcl] at sM
  unfold z_lC z_lF
  rw [ek, sC.1, sC.2.1, sM.1]
  by_cases c3 : z_fa (aL a kn) la = 0
  rotate_left
  · have e1 : ∀ s, z_ag (aL a kn) la i (2 * n) s = z_fa (aL a kn) la := fun s => by rw [z_ag_fa, if_pos c3]
    rw [e1, if_pos c3, if_pos c3, if_pos c3, if_pos c3, z_st_at, z_st_at]
    refine ⟨rfl, rfl, fun q => ?_⟩
    exfalso
    revert q
    unfold z_fa at c3 ⊢
    split
    · decide
    · split
      next h1 h2 => rw [if_neg h1, if_pos h2] at c3; exact absurd rfl c3
      · decide
  have hne : aL a kn ≠ -9 := fun q => by
    unfold z_fa at c3
    rw [if_pos q] at c3
    exact absurd c3 (by decide)
  have c3' : ¬ ¬ z_fa (aL a kn) la = 0 := fun q => q c3
  rw [(sM.2.2 hne).1, if_neg c3', if_neg c3']
  have e2 : z_ag (aL a kn) la i (2 * n) (nI (aZ a kn)) = if z_hc i (2 * n) (nI (aZ a kn)) = false then 3 else 0 := by
    rw [z_ag_fa, if_neg c3', if_neg (fun q => q (z_two18 hn18))]
  rw [e2]
  by_cases c4 : z_hc i (2 * n) (nI (aZ a kn)) = false
  · have z3 : ¬ (3 : Int32) = 0 := by decide
    rw [if_pos c4, if_pos c4, if_pos c4, if_pos z3, if_pos z3, z_st_at, z_st_at]
    exact ⟨rfl, rfl, fun q => absurd q (by decide)⟩
  have z0 : ¬ ¬ (0 : Int32) = 0 := fun q => q rfl
  rw [if_neg c4, if_neg c4, if_neg c4, if_neg z0, if_neg z0, hC.n.1, hC.n.2, hnM.1, hnM.2]
  have c4' : z_hc i (2 * n) (nI (aZ a kn)) = true := by
    cases e : z_hc i (2 * n) (nI (aZ a kn)) with
    | true => rfl
    | false => exact absurd e c4
  obtain ⟨m, rfl, em, hm⟩ := z_wi18 hn18
  rw [gb_two m (by omega)] at c4'
  have hz60 := (ho.2.2.2 kn hkn).2
  obtain ⟨bi, -, ei, hb⟩ := z_hc_nat hm hz60 c4'
  rw [em, ei]
  have hrow : ∀ p, p < 2 * m → σ.1 (14 + kn + 4) (bi + p) = z_row τ kn (bi + p) := fun p hp => by
    unfold z_row
    rw [sC.2.2 _ (by omega), (sM.2.2 hne).2 _ (by omega)]
  refine ⟨?_, hfl, fun _ k hk => ?_⟩
  · by_cases c5 : nI (cN (aG a)) = 0
    · rw [if_pos c5, if_pos ((z_there ho.1.1.1).mpr c5)]
    · rw [if_neg c5, if_neg (fun q => c5 ((z_there ho.1.1.1).mp q)), z_ck_c m hrow]
  · unfold z_to z_xs
    rw [hrow (2 * k) (by omega), show bi + 2 * k + 1 = bi + (2 * k + 1) by omega, hrow (2 * k + 1) (by omega)]
    exact ⟨rfl, rfl⟩
