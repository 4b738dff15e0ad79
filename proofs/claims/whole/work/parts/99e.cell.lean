/-! cell and copy of both -/
theorem i_cell {σ : zS} (h : iN σ) (k i l : Int32) : iOp true mX5_cell mX6_cell 7 7 [.ref 0, .int k, .int i, .int l] [.ref 43, .int k, .int i, .int l] σ := by
  obtain ⟨a, ho, hC, hM⟩ := h
  have hC0 := hC.f0
  have ho0 : aOk (aSF a 0) := ho
  have hM0 : iM (z_f0 σ) a := hM.lo (by decide) _ _
  have h1 := s_cellC 5 σ (z_f0 σ) rfl k i l (hC0.hz ho0 k)
  by_cases c1 : z_wi k 0 3 = false ∨ z_wi l 0 2 = false
  · have h2 := s_cellM 5 (z_f0 σ) (z_g0 (z_f0 σ)) rfl k i l (hM0.g0.hz k i)
    rw [if_pos c1, if_pos c1] at h1 h2
    exact iOp_fn h1 h2 rfl (iN_mk (hC0.hi (by decide) _ _) hM0.g0 ho) ((iS.rf.st (by decide) _ _).st (by decide) _ _)
  obtain ⟨kn, hkn, ek0, ek⟩ := z_wi4 (fun q => c1 (Or.inl q))
  have hz60 := (ho.2.2.2 kn hkn).2
  have sC := hC0.2.2.1 kn hkn
  have sC1 : (z_f0 σ).1 (14 + kn) 0 = aL a kn := sC.1
  have sC2 : (z_f0 σ).1 (14 + kn) 1 = nI (aZ a kn) := sC.2.1
  rw [if_neg c1, if_neg c1, ek, sC1, sC2] at h1
  by_cases c2 : z_fa (aL a kn) l = 0
  · have hne : aL a kn ≠ -9 := fun q => by
      unfold z_fa at c2
      rw [if_pos q] at c2
      exact absurd c2 (by decide)
    by_cases c3 : z_rng i (nI (aZ a kn)) = false
    · have hMτ : iM (z_st (z_f0 σ) 0 13 3) a := hM0.lo (by decide) _ _
      have h2 := s_cellM 5 (z_st (z_f0 σ) 0 13 3) (z_g0 (z_st (z_f0 σ) 0 13 3)) rfl k i l (hMτ.g0.hz k i)
      have sM := hMτ.g0.2.2.1 kn hkn
      have c3' : ¬ z_rng i (nI (aZ a kn)) = true := by rw [c3]; decide
      rw [if_neg c1, if_neg c1, ek, show (z_g0 (z_st (z_f0 σ) 0 13 3)).1 44 kn = aL a kn from sM.1, show (z_g0 (z_st (z_f0 σ) 0 13 3)).1 45 kn = nI (aZ a kn) from (sM.2.2 hne).1, z_wi_rng rfl (by omega), if_neg (fun q => c3' q.2), if_pos c2, if_pos c3] at h2
      rw [if_neg (fun q => c3' q.2), if_pos c2, if_pos c3] at h1
      exact iOp_fn h1 h2 rfl (iN_mk (((hC0.flt 3).hi (by decide) _ _).hi (by decide) _ _) (hMτ.g0.flt 3) ho) ((((iS.rf.st (by decide) _ _).st (by decide) _ _).st (by decide) _ _).st (by decide) _ _)
    · have c3' : z_rng i (nI (aZ a kn)) = true := by
        cases e : z_rng i (nI (aZ a kn)) with
        | true => rfl
        | false => exact absurd e c3
      have hi60 : vp_in i 60 := z_in_b (by rw [z_b0]; exact c3) (nI_le hz60 (by decide))
      have hi : i.toNatClampNeg < 60 := Nat.not_le.mp fun q => hi60 (Or.inr q)
      have hk4 : vp_in k 4 := z_in_sh (by rw [z_b0]; exact fun q => c1 (Or.inl q))
      have h2 := s_cellM 5 (z_f0 σ) (z_g0 (z_f0 σ)) rfl k i l (hM0.g0.hz k i)
      have sM := hM0.g0.2.2.1 kn hkn
      rw [if_neg c1, if_neg c1, ek, show (z_g0 (z_f0 σ)).1 44 kn = aL a kn from sM.1, show (z_g0 (z_f0 σ)).1 45 kn = nI (aZ a kn) from (sM.2.2 hne).1, z_wi_rng rfl (by omega), if_pos ⟨c2, c3'⟩, if_pos c2, if_neg c3, z_cellNat hk4 hi60, ek, show (z_g0 (z_f0 σ)).1 46 (60 * kn + i.toNatClampNeg) = aC a kn i.toNatClampNeg from (sM.2.2 hne).2 _ hi] at h2
      rw [if_pos ⟨c2, c3'⟩, if_pos c2, if_neg c3, show (z_f0 σ).1 (14 + kn + 4) i.toNatClampNeg = aC a kn i.toNatClampNeg from sC.2.2 _ hi] at h1
      exact iOp_fn h1 h2 rfl (iN_mk (hC0.hi (by decide) _ _) hM0.g0 ho) ((iS.rf.st (by decide) _ _).st (by decide) _ _)
  · have hMτ : iM (z_st (z_f0 σ) 0 13 (z_fa (aL a kn) l)) a := hM0.lo (by decide) _ _
    have h2 := s_cellM 5 (z_st (z_f0 σ) 0 13 (z_fa (aL a kn) l)) (z_g0 (z_st (z_f0 σ) 0 13 (z_fa (aL a kn) l))) rfl k i l (hMτ.g0.hz k i)
    have sM := hMτ.g0.2.2.1 kn hkn
    rw [if_neg c1, if_neg c1, ek, show (z_g0 (z_st (z_f0 σ) 0 13 (z_fa (aL a kn) l))).1 44 kn = aL a kn from sM.1, if_neg (fun q => c2 q.1), if_neg c2] at h2
    rw [if_neg (fun q => c2 q.1), if_neg c2] at h1
    exact iOp_fn h1 h2 rfl (iN_mk (((hC0.flt _).hi (by decide) _ _).hi (by decide) _ _) (hMτ.g0.flt _) ho) ((((iS.rf.st (by decide) _ _).st (by decide) _ _).st (by decide) _ _).st (by decide) _ _)
theorem z_cp_row (σ : zS) (r0 r1 sp dp n : Nat) {q : Nat} (h : q ≠ r1) : (z_cp σ r0 r1 sp dp n).1 q = σ.1 q := by simp [z_cp, z_up, h]
theorem z_cp_at (σ : zS) (r0 r1 sp dp n j : Nat) : (z_cp σ r0 r1 sp dp n).1 r1 j = if dp ≤ j ∧ j < dp + n then σ.1 r0 (sp + (j - dp)) else σ.1 r1 j := by simp [z_cp, z_up, va_cpy]
theorem z_cq_row (σ : zS) (src dst lo hi : Nat) {q : Nat} (h : q ≠ 46) : (z_cq σ src dst lo hi).1 q = σ.1 q := by simp [z_cq, z_up, h]
theorem i_copy {σ : zS} (h : iN σ) (k i o j n : Int32) : iOp false mX5_copy mX6_copy 7 7 [.ref 0, .int k, .int i, .int o, .int j, .int n] [.ref 43, .int k, .int i, .int o, .int j, .int n] σ := by
  obtain ⟨a, ho, hC, hM⟩ := h
  have hC0 := hC.f0
  have ho0 : aOk (aSF a 0) := ho
  have hM0 : iM (z_f0 σ) a := hM.lo (by decide) _ _
  have h1 := s_copyC 5 σ (z_f0 σ) rfl k i o j n (fun q => hC0.hz ho0 q)
  have key : ∀ τ : zS, iM τ a → _ := fun τ hMτ => s_copyM 5 τ (z_g0 τ) rfl k i o j n (fun q => hMτ.g0.hz2 q)
  unfold z_cpV at h1 key
  by_cases c1 : z_wi k 0 3 = false ∨ z_wi o 0 3 = false
  · have h2 := key (z_f0 σ) hM0
    rw [if_pos c1, if_pos c1] at h1 h2
    exact iOp_fn h1 h2 rfl (iN_mk (hC0.hi (by decide) _ _) hM0.g0 ho) ((iS.rf.st (by decide) _ _).st (by decide) _ _)
  obtain ⟨kn, hkn, -, ek⟩ := z_wi4 (fun q => c1 (Or.inl q))
  obtain ⟨on, hon, -, eo⟩ := z_wi4 (fun q => c1 (Or.inr q))
  have s1 := hC0.2.2.1 kn hkn
  have s2 := hC0.2.2.1 on hon
  rw [if_neg c1, if_neg c1, ek, eo, show (z_f0 σ).1 (14 + kn) 0 = aL a kn from s1.1, show (z_f0 σ).1 (14 + on) 0 = aL a on from s2.1, show (z_f0 σ).1 (14 + kn) 1 = nI (aZ a kn) from s1.2.1, show (z_f0 σ).1 (14 + on) 1 = nI (aZ a on) from s2.2.1] at h1
  by_cases c2 : aL a kn = -9 ∨ aL a on = -9
  · have hMτ : iM (z_st (z_f0 σ) 0 13 1) a := hM0.lo (by decide) _ _
    have h2 := key _ hMτ
    have m1 := hMτ.g0.2.2.1 kn hkn
    have m2 := hMτ.g0.2.2.1 on hon
    rw [if_neg c1, if_neg c1, ek, eo, show (z_g0 (z_st (z_f0 σ) 0 13 1)).1 44 kn = aL a kn from m1.1, show (z_g0 (z_st (z_f0 σ) 0 13 1)).1 44 on = aL a on from m2.1, if_pos c2, if_pos c2] at h2
    rw [if_pos c2, if_pos c2] at h1
    exact iOp_fn h1 h2 rfl (iN_mk (((hC0.flt 1).hi (by decide) _ _).hi (by decide) _ _) (hMτ.g0.flt 1) ho) ((((iS.rf.st (by decide) _ _).st (by decide) _ _).st (by decide) _ _).st (by decide) _ _)
  rw [if_neg c2, if_neg c2] at h1
  have nk : aL a kn ≠ -9 := fun q => c2 (Or.inl q)
  have no : aL a on ≠ -9 := fun q => c2 (Or.inr q)
  by_cases c3 : ¬ aL a kn = aL a on
  · have hMτ : iM (z_st (z_f0 σ) 0 13 2) a := hM0.lo (by decide) _ _
    have h2 := key _ hMτ
    have m1 := hMτ.g0.2.2.1 kn hkn
    have m2 := hMτ.g0.2.2.1 on hon
    rw [if_neg c1, if_neg c1, ek, eo, show (z_g0 (z_st (z_f0 σ) 0 13 2)).1 44 kn = aL a kn from m1.1, show (z_g0 (z_st (z_f0 σ) 0 13 2)).1 44 on = aL a on from m2.1, if_neg c2, if_neg c2, if_pos c3, if_pos c3] at h2
    rw [if_pos c3, if_pos c3] at h1
    exact iOp_fn h1 h2 rfl (iN_mk (((hC0.flt 2).hi (by decide) _ _).hi (by decide) _ _) (hMτ.g0.flt 2) ho) ((((iS.rf.st (by decide) _ _).st (by decide) _ _).st (by decide) _ _).st (by decide) _ _)
  rw [if_neg c3, if_neg c3] at h1
  by_cases c4 : z_hc i n (nI (aZ a kn)) = false ∨ z_hc j n (nI (aZ a on)) = false
  · have hMτ : iM (z_st (z_f0 σ) 0 13 3) a := hM0.lo (by decide) _ _
    have h2 := key _ hMτ
    have m1 := hMτ.g0.2.2.1 kn hkn
    have m2 := hMτ.g0.2.2.1 on hon
    rw [if_neg c1, if_neg c1, ek, eo, show (z_g0 (z_st (z_f0 σ) 0 13 3)).1 44 kn = aL a kn from m1.1, show (z_g0 (z_st (z_f0 σ) 0 13 3)).1 44 on = aL a on from m2.1, show (z_g0 (z_st (z_f0 σ) 0 13 3)).1 45 kn = nI (aZ a kn) from (m1.2.2 nk).1, show (z_g0 (z_st (z_f0 σ) 0 13 3)).1 45 on = nI (aZ a on) from (m2.2.2 no).1, if_neg c2, if_neg c2, if_neg c3, if_neg c3, if_pos c4, if_pos c4] at h2
    rw [if_pos c4, if_pos c4] at h1
    exact iOp_fn h1 h2 rfl (iN_mk (((hC0.flt 3).hi (by decide) _ _).hi (by decide) _ _) (hMτ.g0.flt 3) ho) ((((iS.rf.st (by decide) _ _).st (by decide) _ _).st (by decide) _ _).st (by decide) _ _)
  rw [if_neg c4, if_neg c4] at h1
  have hz1 := (ho.2.2.2 kn hkn).2
  have hz2 := (ho.2.2.2 on hon).2
  obtain ⟨bi, m, -, ei, -, en, hb1⟩ := z_hc_nat2 hz1 (show z_hc i n (nI (aZ a kn)) = true by
    cases e : z_hc i n (nI (aZ a kn)) with
    | true => rfl
    | false => exact absurd (Or.inl e) c4)
  obtain ⟨bj, m', -, ej, -, en', hb2⟩ := z_hc_nat2 hz2 (show z_hc j n (nI (aZ a on)) = true by
    cases e : z_hc j n (nI (aZ a on)) with
    | true => rfl
    | false => exact absurd (Or.inr e) c4)
  have hmm : m' = m := en'.symm.trans en
  subst hmm
  rw [ei, ej, en] at h1
  generalize hτ : z_cp (z_f0 σ) (14 + kn + 4) (14 + on + 4) bi bj m' = τ at h1
  have r : ∀ p, p ≠ 14 + on + 4 → τ.1 p = (z_f0 σ).1 p := fun p hp => by rw [← hτ, z_cp_row _ _ _ _ _ _ hp]
  have hMτ : iM τ a := hM0.same (fun p hp => r p (by omega))
  have h2 := key _ hMτ
  have m1 := hMτ.g0.2.2.1 kn hkn
  have m2 := hMτ.g0.2.2.1 on hon
  rw [if_neg c1, if_neg c1, ek, eo, show (z_g0 τ).1 44 kn = aL a kn from m1.1, show (z_g0 τ).1 44 on = aL a on from m2.1, show (z_g0 τ).1 45 kn = nI (aZ a kn) from (m1.2.2 nk).1, show (z_g0 τ).1 45 on = nI (aZ a on) from (m2.2.2 no).1, if_neg c2, if_neg c2, if_neg c3, if_neg c3, if_neg c4, if_neg c4, ei, ej, en] at h2
  have hMg := hMτ.g0
  have hok : aOk (aSS (aSF a 0) (aL a) (aZ a) (fun k' p => if k' = on ∧ bj ≤ p ∧ p < bj + m' then aC a kn (bi + (p - bj)) else aC a k' p)) := ho
  refine iOp_fn h1 h2 rfl ⟨_, hok, ?_, ?_⟩ ⟨?_, ?_⟩ ⟨by rw [r 63 (by omega), z_f0_row _ (by decide)], by rw [r 64 (by omega), z_f0_row _ (by decide)]⟩
  · refine iC.same (σ := τ) (hC0.sht (fun p _ hp => r p (by omega)) (fun k' hk' => ?_)) (fun p hp => ?_)
    · have := hC0.2.2.1 k' hk'
      rw [r (14 + k') (by omega)]
      refine ⟨this.1, this.2.1, fun p hp => ?_⟩
      by_cases e : k' = on
      · subst e
        rw [← hτ, z_cp_at]
        by_cases e2 : bj ≤ p ∧ p < bj + m'
        · rw [if_pos e2, if_pos ⟨rfl, e2⟩]; exact s1.2.2 _ (by omega)
        · rw [if_neg e2, if_neg (fun q => e2 q.2)]; exact this.2.2 p hp
      · rw [r (14 + k' + 4) (by omega), if_neg (fun q => e q.1)]; exact this.2.2 p hp
    · rw [z_cq_row _ _ _ _ _ (by omega), z_g0_row _ (by omega)]
  · refine hMg.sht (fun p hp => z_cq_row _ _ _ _ _ (by omega)) (fun k' hk' => ?_)
    have := hMg.2.2.1 k' hk'
    rw [z_cq_row _ _ _ _ _ (by decide), z_cq_row _ _ _ _ _ (by decide)]
    refine ⟨this.1, this.2.1, fun hne => ⟨(this.2.2 hne).1, fun p hp => ?_⟩⟩
    rw [z_cq_at]
    by_cases e : k' = on ∧ bj ≤ p ∧ p < bj + m'
    · rw [if_pos (by omega), if_pos e, show 60 * kn + bi + (60 * k' + p - (60 * on + bj)) = 60 * kn + (bi + (p - bj)) by omega]
      exact (m1.2.2 nk).2 _ (by omega)
    · rw [if_neg (by omega), if_neg e]
      exact (this.2.2 hne).2 p hp
  · rw [z_cq_row _ _ _ _ _ (by decide), z_g0_row _ (by decide), r 63 (by omega), z_f0_row _ (by decide)]
  · rw [z_cq_row _ _ _ _ _ (by decide), z_g0_row _ (by decide), r 64 (by omega), z_f0_row _ (by decide)]
