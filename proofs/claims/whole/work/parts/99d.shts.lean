/-! sheets of both: sheet, lose, put, cell, copy -/
theorem iC.sht {σ τ : zS} {a : zI} {l : Nat → Int32} {z : Nat → Nat} {cl : Nat → Nat → Int32} (h : iC σ a) (hr : ∀ p, p < 43 → p < 14 ∨ 21 < p → τ.1 p = σ.1 p) (hs : ∀ k, k < 4 → τ.1 (14 + k) 0 = l k ∧ τ.1 (14 + k) 1 = nI (z k) ∧ ∀ j, j < 60 → τ.1 (14 + k + 4) j = cl k j) : iC τ (aSS a l z cl) := by
  obtain ⟨⟨a1, a2⟩, ⟨b1, b2⟩, -, ⟨d1, d2⟩, e1, f1⟩ := h
  refine ⟨⟨by rw [hr 0 (by decide) (by omega)]; exact a1, by rw [hr 0 (by decide) (by omega)]; exact a2⟩, ⟨?_, fun j hj => by rw [hr 4 (by decide) (by omega)]; exact b2 j hj⟩, hs, ⟨by rw [hr 22 (by decide) (by omega)]; exact d1, d2.rows (hr 23 (by decide) (by omega)) (hr 24 (by decide) (by omega)) (hr 25 (by decide) (by omega))⟩, by rw [hr 29 (by decide) (by omega)]; exact e1, fun hN => ?_⟩
  · show gC 1 τ (aG a)
    unfold gC
    rw [hr 1 (by omega) (by omega), hr (1 + 1) (by omega) (by omega), hr (1 + 2) (by omega) (by omega), hr (1 + 3) (by omega) (by omega), hr (1 + 4) (by omega) (by omega), hr (1 + 5) (by omega) (by omega)]
    exact b1
  · have := f1 hN
    show gCh τ (aG a) ∧ gCf τ (aG a)
    unfold gCh gCf
    rw [hr 0 (by decide) (by omega), hr 42 (by decide) (by omega)]
    exact this
theorem iM.sht {σ τ : zS} {a : zI} {l : Nat → Int32} {z : Nat → Nat} {cl : Nat → Nat → Int32} (h : iM σ a) (hr : ∀ p, p = 43 ∨ 47 ≤ p → τ.1 p = σ.1 p) (hs : ∀ k, k < 4 → τ.1 44 k = l k ∧ (∃ z, z ≤ 60 ∧ τ.1 45 k = nI z) ∧ (l k ≠ -9 → τ.1 45 k = nI (z k) ∧ ∀ j, j < 60 → τ.1 46 (60 * k + j) = cl k j)) : iM τ (aSS a l z cl) := by
  obtain ⟨⟨a1, a2⟩, ⟨c', b1, b2⟩, -, ⟨d1, d2⟩⟩ := h
  refine ⟨⟨by rw [hr 43 (by omega)]; exact a1, by rw [hr 43 (by omega)]; exact a2⟩, ⟨c', ?_, b2⟩, hs, ⟨by rw [hr 43 (by omega)]; exact d1, d2.rows (hr 60 (by omega)) (hr 61 (by omega)) (hr 62 (by omega))⟩⟩
  unfold gM
  rw [hr 43 (by omega), hr 47 (by omega), hr 48 (by omega), hr 49 (by omega), hr 50 (by omega), hr 51 (by omega)]
  exact b1
theorem z_wi4 {k : Int32} (h : ¬ z_wi k 0 3 = false) : ∃ n, n < 4 ∧ k = nI n ∧ k.toNatClampNeg = n := z_sh_nat (z_in_sh (by rw [z_b0]; exact h))
theorem z_wi_3 {l : Int32} (h : ¬ z_wi l 0 2 = false) : l = 0 ∨ l = 1 ∨ l = 2 := by
  rw [z_wi_or] at h
  have h1 : ¬ l < 0 := fun q => h (Or.inl q)
  have h2 : l ≤ 2 := Classical.not_not.mp (fun q => h (Or.inr q))
  obtain ⟨j, hj, rfl⟩ := nI_of h1
  rw [show (2 : Int32) = nI 2 from rfl, nI_le_iff hj (by decide)] at h2
  rcases (show j = 0 ∨ j = 1 ∨ j = 2 by omega) with rfl | rfl | rfl
  · exact Or.inl rfl
  · exact Or.inr (Or.inl rfl)
  · exact Or.inr (Or.inr rfl)
theorem z_fillAt_row (σ : zS) (a b n : Nat) {q : Nat} (h : q ≠ a) : (z_fillAt σ a b n).1 q = σ.1 q := by simp [z_fillAt, z_up, h]
theorem z_fillAt_at (σ : zS) (a b n j : Nat) : (z_fillAt σ a b n).1 a j = if b ≤ j ∧ j < b + n then 0 else σ.1 a j := by simp [z_fillAt, z_up]
theorem i_sheet {σ : zS} (h : iN σ) (k l n : Int32) : iOp false mX5_sheet mX6_sheet 7 7 [.ref 0, .int k, .int l, .int n] [.ref 43, .int k, .int l, .int n] σ := by
  obtain ⟨a, ho, hC, hM⟩ := h
  have hC0 := hC.f0
  have hM0 : iM (z_f0 σ) a := hM.lo (by decide) _ _
  have h1 := s_sheetC 5 σ (z_f0 σ) rfl k l n
  by_cases c1 : z_wi k 0 3 = false
  · have h2 := s_sheetM 5 (z_f0 σ) (z_g0 (z_f0 σ)) rfl k l n
    rw [if_pos c1, if_pos c1] at h1 h2
    exact iOp_fn h1 h2 rfl (iN_mk (hC0.hi (by decide) _ _) hM0.g0 ho) ((iS.rf.st (by decide) _ _).st (by decide) _ _)
  rw [if_neg c1, if_neg c1] at h1
  by_cases c2 : z_wi l 0 2 = false ∨ ¬ n ≤ 60
  · have h2 := s_sheetM 5 (z_f0 σ) (z_g0 (z_f0 σ)) rfl k l n
    rw [if_neg c1, if_neg c1] at h2
    rw [if_pos c2, if_pos c2] at h1 h2
    exact iOp_fn h1 h2 rfl (iN_mk (hC0.hi (by decide) _ _) hM0.g0 ho) ((iS.rf.st (by decide) _ _).st (by decide) _ _)
  rw [if_neg c2, if_neg c2] at h1
  by_cases c3 : ¬ 0 ≤ n
  · have h2 := s_sheetM 5 (z_st (z_f0 σ) 0 13 4) (z_g0 (z_st (z_f0 σ) 0 13 4)) rfl k l n
    rw [if_neg c1, if_neg c1, if_neg c2, if_neg c2, if_pos c3, if_pos c3] at h2
    rw [if_pos c3, if_pos c3] at h1
    exact iOp_fn h1 h2 rfl (iN_mk (((hC0.flt 4).hi (by decide) _ _).hi (by decide) _ _) ((hM0.lo (by decide) _ _).g0.flt 4) ho) ((((iS.rf.st (by decide) _ _).st (by decide) _ _).st (by decide) _ _).st (by decide) _ _)
  rw [if_neg c3, if_neg c3] at h1
  obtain ⟨kn, hkn, -, ek⟩ := z_wi4 c1
  have hl := z_wi_3 (fun q => c2 (Or.inl q))
  obtain ⟨nn, hnn, rfl⟩ : ∃ nn, nn ≤ 60 ∧ n = nI nn := by
    have x1 : ¬ n < 0 := Int32.not_lt.mpr (Classical.not_not.mp c3)
    have x2 : n ≤ 60 := Classical.not_not.mp (fun q => c2 (Or.inr q))
    obtain ⟨j, hj, rfl⟩ := nI_of x1
    rw [show (60 : Int32) = nI 60 from rfl, nI_le_iff hj (by decide)] at x2
    exact ⟨j, x2, rfl⟩
  rw [ek] at h1
  generalize hτ : z_fill (z_st (z_st (z_f0 σ) (14 + kn) 0 l) (14 + kn) 1 (nI nn)) (14 + kn + 4) 60 0 = τ at h1
  have r : ∀ p, p < 14 ∨ 21 < p → τ.1 p = (z_f0 σ).1 p := fun p hp => by rw [← hτ, z_fill_row _ _ _ _ (by omega), z_st_row _ _ _ (by omega), z_st_row _ _ _ (by omega)]
  have h2 := s_sheetM 5 τ (z_g0 τ) rfl k l (nI nn)
  rw [if_neg c1, if_neg c1, if_neg c2, if_neg c2, if_neg c3, if_neg c3, ek] at h2
  have hMτ : iM τ a := hM0.same (fun p hp => r p (by omega))
  have hMg := hMτ.g0
  have hok : aOk (aSS (aSF a 0) (upd (aL a) kn l) (pU (aZ a) kn nn) (fun k' j => if k' = kn then 0 else aC a k' j)) := by
    refine ⟨ho.1, ho.2.1, ho.2.2.1, fun k' hk' => ?_⟩
    show (upd (aL a) kn l k' = -9 ∨ upd (aL a) kn l k' = 0 ∨ upd (aL a) kn l k' = 1 ∨ upd (aL a) kn l k' = 2) ∧ pU (aZ a) kn nn k' ≤ 60
    unfold upd pU
    by_cases e : k' = kn
    · rw [if_pos e, if_pos e]
      exact ⟨Or.inr hl, hnn⟩
    · rw [if_neg e, if_neg e]
      exact ho.2.2.2 k' hk'
  refine iOp_fn h1 h2 rfl ⟨_, hok, ?_, ?_⟩ ⟨?_, ?_⟩ ⟨by rw [r 63 (by omega), z_f0_row _ (by decide)], by rw [r 64 (by omega), z_f0_row _ (by decide)]⟩
  · refine iC.same (σ := τ) (hC0.sht (fun p _ hp => r p hp) (fun k' hk' => ?_)) (fun p hp => ?_)
    · rw [← hτ]
      unfold upd pU
      have := hC0.2.2.1 k' hk'
      by_cases e : k' = kn
      · subst e
        rw [if_pos rfl, if_pos rfl, z_fill_row _ _ _ _ (by omega), z_st_fld _ _ _ (by decide), z_st_at, z_st_at]
        refine ⟨rfl, rfl, fun j hj => ?_⟩
        rw [z_fill_at _ _ _ _ hj, if_pos rfl]
      · rw [if_neg e, if_neg e, z_fill_row _ _ _ _ (by omega), z_st_row _ _ _ (by omega), z_st_row _ _ _ (by omega), z_fill_row _ _ _ _ (by omega), z_st_row _ _ _ (by omega), z_st_row _ _ _ (by omega)]
        refine ⟨this.1, this.2.1, fun j hj => ?_⟩
        rw [if_neg e]
        exact this.2.2 j hj
    · rw [z_fillAt_row _ _ _ _ (by omega), z_st_row _ _ _ (by omega), z_st_row _ _ _ (by omega), z_g0_row _ (by omega)]
  · refine hMg.sht (fun p hp => ?_) (fun k' hk' => ?_)
    · rw [z_fillAt_row _ _ _ _ (by omega), z_st_row _ _ _ (by omega), z_st_row _ _ _ (by omega)]
    · have := hMg.2.2.1 k' hk'
      rw [z_fillAt_row _ _ _ _ (by decide), z_fillAt_row _ _ _ _ (by decide), z_st_row _ _ _ (by decide)]
      unfold upd pU
      by_cases e : k' = kn
      · subst e
        rw [if_pos rfl, if_pos rfl, z_st_at, z_st_at]
        refine ⟨rfl, ⟨nn, hnn, rfl⟩, fun _ => ⟨rfl, fun j hj => ?_⟩⟩
        rw [z_fillAt_at, if_pos (by omega), if_pos rfl]
      · rw [if_neg e, if_neg e, z_st_fld _ _ _ e, z_st_fld _ _ _ e, z_st_row _ _ _ (by decide)]
        refine ⟨this.1, this.2.1, fun hne => ⟨(this.2.2 hne).1, fun j hj => ?_⟩⟩
        rw [z_fillAt_at, if_neg (by omega), if_neg e, z_st_row _ _ _ (by decide), z_st_row _ _ _ (by decide)]
        exact (this.2.2 hne).2 j hj
  · rw [z_fillAt_row _ _ _ _ (by decide), z_st_row _ _ _ (by decide), z_st_row _ _ _ (by decide), z_g0_row _ (by decide), r 63 (by omega), z_f0_row _ (by decide)]
  · rw [z_fillAt_row _ _ _ _ (by decide), z_st_row _ _ _ (by decide), z_st_row _ _ _ (by decide), z_g0_row _ (by decide), r 64 (by omega), z_f0_row _ (by decide)]
theorem i_lose {σ : zS} (h : iN σ) (k : Int32) : iOp false mX5_lose mX6_lose 7 7 [.ref 0, .int k] [.ref 43, .int k] σ := by
  have hI := h
  obtain ⟨a, ho, hC, hM⟩ := h
  have h1 := s_loseC 5 σ k
  by_cases c1 : z_wi k 0 3 = false
  · have h2 := s_loseM 5 σ k
    rw [if_pos c1, if_pos c1] at h1 h2
    exact iOp_fn h1 h2 rfl hI iS.rf
  obtain ⟨kn, hkn, -, ek⟩ := z_wi4 c1
  have sC := hC.2.2.1 kn hkn
  have sM := hM.2.2.1 kn hkn
  rw [if_neg c1, if_neg c1, ek, sC.1] at h1
  by_cases c2 : aL a kn = -9
  · have h2 := s_loseM 5 σ k
    rw [if_neg c1, if_neg c1, ek, sM.1, if_pos c2, z_st_id (by rw [sM.1]; exact c2)] at h2
    rw [if_pos c2, if_pos c2] at h1
    exact iOp_fn h1 h2 rfl hI iS.rf
  rw [if_neg c2, if_neg c2] at h1
  generalize hτ : z_fill (z_st (z_st σ (14 + kn) 0 (-9)) (14 + kn) 1 0) (14 + kn + 4) 60 0 = τ at h1
  have r : ∀ p, p < 14 ∨ 21 < p → τ.1 p = σ.1 p := fun p hp => by rw [← hτ, z_fill_row _ _ _ _ (by omega), z_st_row _ _ _ (by omega), z_st_row _ _ _ (by omega)]
  have h2 := s_loseM 5 τ k
  rw [if_neg c1, if_neg c1, ek, r 44 (by omega), sM.1, if_neg c2] at h2
  have hMτ : iM τ a := hM.same (fun p hp => r p (by omega))
  have hok : aOk (aSS a (upd (aL a) kn (-9)) (pU (aZ a) kn 0) (fun k' j => if k' = kn then 0 else aC a k' j)) := by
    refine ⟨ho.1, ho.2.1, ho.2.2.1, fun k' hk' => ?_⟩
    show (upd (aL a) kn (-9) k' = -9 ∨ upd (aL a) kn (-9) k' = 0 ∨ upd (aL a) kn (-9) k' = 1 ∨ upd (aL a) kn (-9) k' = 2) ∧ pU (aZ a) kn 0 k' ≤ 60
    unfold upd pU
    by_cases e : k' = kn
    · rw [if_pos e, if_pos e]
      exact ⟨Or.inl rfl, by omega⟩
    · rw [if_neg e, if_neg e]
      exact ho.2.2.2 k' hk'
  refine iOp_fn h1 h2 rfl ⟨_, hok, ?_, ?_⟩ ⟨?_, ?_⟩ ⟨r 63 (by omega), r 64 (by omega)⟩
  · refine iC.hi (hC.sht (fun p _ hp => r p hp) (fun k' hk' => ?_)) (by decide) _ _
    rw [← hτ]
    unfold upd pU
    have := hC.2.2.1 k' hk'
    by_cases e : k' = kn
    · subst e
      rw [if_pos rfl, if_pos rfl, z_fill_row _ _ _ _ (by omega), z_st_fld _ _ _ (by decide), z_st_at, z_st_at]
      refine ⟨rfl, rfl, fun j hj => ?_⟩
      rw [z_fill_at _ _ _ _ hj, if_pos rfl]
    · rw [if_neg e, if_neg e, z_fill_row _ _ _ _ (by omega), z_st_row _ _ _ (by omega), z_st_row _ _ _ (by omega), z_fill_row _ _ _ _ (by omega), z_st_row _ _ _ (by omega), z_st_row _ _ _ (by omega)]
      refine ⟨this.1, this.2.1, fun j hj => ?_⟩
      rw [if_neg e]
      exact this.2.2 j hj
  · refine hMτ.sht (fun p hp => z_st_row _ _ _ (by omega)) (fun k' hk' => ?_)
    have := hMτ.2.2.1 k' hk'
    rw [z_st_row _ _ _ (by decide : 45 ≠ 44), z_st_row _ _ _ (by decide : 46 ≠ 44)]
    unfold upd pU
    by_cases e : k' = kn
    · subst e
      rw [if_pos rfl, if_pos rfl, z_st_at]
      exact ⟨rfl, this.2.1, fun q => absurd rfl q⟩
    · rw [if_neg e, if_neg e, z_st_fld _ _ _ e]
      refine ⟨this.1, this.2.1, fun hne => ⟨(this.2.2 hne).1, fun j hj => ?_⟩⟩
      rw [if_neg e]
      exact (this.2.2 hne).2 j hj
  · rw [z_st_row _ _ _ (by decide), r 63 (by omega)]
  · rw [z_st_row _ _ _ (by decide), r 64 (by omega)]
/-- the model's bounds of a sheet -/
theorem iM.hz {σ : zS} {a : zI} (h : iM σ a) (k i : Int32) : vp_in k 4 → ¬ z_b (z_wi i 0 (σ.1 45 k.toNatClampNeg - 1)) = 0 → vp_in i 60 := by
  intro hk hi
  obtain ⟨kn, hkn, -, ek⟩ := z_sh_nat hk
  obtain ⟨z, hz, ez⟩ := (h.2.2.1 kn hkn).2.1
  rw [ek, ez, z_wi_rng rfl (by omega)] at hi
  exact z_in_b hi (nI_le hz (by decide))
theorem iM.hz2 {σ : zS} {a : zI} (h : iM σ a) (k : Int32) : vp_in k 4 → σ.1 44 k.toNatClampNeg ≠ -9 → ∃ z : Nat, σ.1 45 k.toNatClampNeg = nI z ∧ z ≤ 60 := by
  intro hk _
  obtain ⟨kn, hkn, -, ek⟩ := z_sh_nat hk
  obtain ⟨z, hz, ez⟩ := (h.2.2.1 kn hkn).2.1
  exact ⟨z, by rw [ek]; exact ez, hz⟩
theorem iC.hz {σ : zS} {a : zI} (h : iC σ a) (ho : aOk a) (k : Int32) : vp_in k 4 → ∃ z : Nat, σ.1 (14 + k.toNatClampNeg) 1 = nI z ∧ z ≤ 60 := by
  intro hk
  obtain ⟨kn, hkn, -, ek⟩ := z_sh_nat hk
  rw [ek]
  exact ⟨_, (h.2.2.1 kn hkn).2.1, (ho.2.2.2 kn hkn).2⟩
theorem i_put {σ : zS} (h : iN σ) (k i v : Int32) : iOp false mX5_put mX6_put 7 7 [.ref 0, .int k, .int i, .int v] [.ref 43, .int k, .int i, .int v] σ := by
  obtain ⟨a, ho, hC, hM⟩ := h
  have hC0 := hC.f0
  have ho0 : aOk (aSF a 0) := ho
  have hM0 : iM (z_f0 σ) a := hM.lo (by decide) _ _
  have h1 := s_putC 5 σ (z_f0 σ) rfl k i v (hC0.hz ho0 k)
  by_cases c1 : z_wi k 0 3 = false
  · have h2 := s_putM 5 (z_f0 σ) (z_g0 (z_f0 σ)) rfl k i v (hM0.g0.hz k i)
    rw [if_pos c1, if_pos c1] at h1 h2
    exact iOp_fn h1 h2 rfl (iN_mk (hC0.hi (by decide) _ _) hM0.g0 ho) ((iS.rf.st (by decide) _ _).st (by decide) _ _)
  obtain ⟨kn, hkn, ek0, ek⟩ := z_wi4 c1
  have hz60 := (ho.2.2.2 kn hkn).2
  have sC := hC0.2.2.1 kn hkn
  have sC1 : (z_f0 σ).1 (14 + kn) 0 = aL a kn := sC.1
  have sC2 : (z_f0 σ).1 (14 + kn) 1 = nI (aZ a kn) := sC.2.1
  rw [if_neg c1, if_neg c1, ek, sC1, sC2] at h1
  have key : ∀ τ : zS, iM τ a → ∀ w υ, w = (if aL a kn = -9 then -10 - 1 else if z_rng i (nI (aZ a kn)) = false then -10 - 3 else 1) → υ = (if aL a kn = -9 then z_st (z_g0 τ) 43 0 1 else if z_rng i (nI (aZ a kn)) = false then z_st (z_g0 τ) 43 0 3 else z_st (z_g0 τ) 46 (60 * k + i).toNatClampNeg (z_cut (aL a kn) v)) → z_Fn mX6_put 7 [.ref 43, .int k, .int i, .int v] τ (.int w) υ := by
    intro τ hMτ w υ hw hu
    have h2 := s_putM 5 τ (z_g0 τ) rfl k i v (hMτ.g0.hz k i)
    have sM := hMτ.g0.2.2.1 kn hkn
    have sM1 : (z_g0 τ).1 44 kn = aL a kn := sM.1
    rw [if_neg c1, if_neg c1, ek, sM1] at h2
    by_cases c2 : aL a kn = -9
    · rw [if_pos c2, if_pos c2] at h2
      rw [hw, hu, if_pos c2, if_pos c2]
      exact h2
    · rw [if_neg c2, if_neg c2, show (z_g0 τ).1 45 kn = nI (aZ a kn) from (sM.2.2 c2).1, z_wi_rng rfl (by omega)] at h2
      rw [hw, hu, if_neg c2, if_neg c2]
      exact h2
  by_cases c2 : aL a kn = -9
  · have h2 := key (z_st (z_f0 σ) 0 13 1) (hM0.lo (by decide) _ _) _ _ rfl rfl
    rw [if_pos c2, if_pos c2] at h1 h2
    exact iOp_fn h1 h2 rfl (iN_mk (((hC0.flt 1).hi (by decide) _ _).hi (by decide) _ _) ((hM0.lo (by decide) _ _).g0.flt 1) ho) ((((iS.rf.st (by decide) _ _).st (by decide) _ _).st (by decide) _ _).st (by decide) _ _)
  rw [if_neg c2, if_neg c2] at h1
  by_cases c3 : z_rng i (nI (aZ a kn)) = false
  · have h2 := key (z_st (z_f0 σ) 0 13 3) (hM0.lo (by decide) _ _) _ _ rfl rfl
    rw [if_neg c2, if_neg c2, if_pos c3, if_pos c3] at h2
    rw [if_pos c3, if_pos c3] at h1
    exact iOp_fn h1 h2 rfl (iN_mk (((hC0.flt 3).hi (by decide) _ _).hi (by decide) _ _) ((hM0.lo (by decide) _ _).g0.flt 3) ho) ((((iS.rf.st (by decide) _ _).st (by decide) _ _).st (by decide) _ _).st (by decide) _ _)
  rw [if_neg c3, if_neg c3] at h1
  have hi60 : vp_in i 60 := z_in_b (by rw [z_b0]; exact c3) (nI_le hz60 (by decide))
  have hi : i.toNatClampNeg < 60 := Nat.not_le.mp fun q => hi60 (Or.inr q)
  have hk4 : vp_in k 4 := z_in_sh (by rw [z_b0]; exact c1)
  generalize hin : i.toNatClampNeg = jn at hi h1
  have hMτ : iM (z_st (z_f0 σ) (14 + kn + 4) jn (z_cut (aL a kn) v)) a := hM0.lo (by omega) _ _
  have h2 := key (z_st (z_f0 σ) (14 + kn + 4) jn (z_cut (aL a kn) v)) hMτ _ _ rfl rfl
  rw [if_neg c2, if_neg c2, if_neg c3, if_neg c3, z_cellNat hk4 hi60, ek, hin] at h2
  have hMg := hMτ.g0
  have hok : aOk (aSS (aSF a 0) (aL a) (aZ a) (fun k' j => if k' = kn ∧ j = jn then z_cut (aL a kn) v else aC a k' j)) := ho
  refine iOp_fn h1 h2 rfl ⟨_, hok, ?_, ?_⟩ ⟨?_, ?_⟩
  · refine iC.hi (iC.hi (hC0.sht (fun p _ hp => z_st_row _ _ _ (by omega)) (fun k' hk' => ?_)) (by decide) _ _) (by decide) _ _
    have := hC0.2.2.1 k' hk'
    rw [z_st_row _ _ _ (by omega)]
    refine ⟨this.1, this.2.1, fun j hj => ?_⟩
    by_cases e : k' = kn
    · subst e
      by_cases e2 : j = jn
      · subst e2; rw [z_st_at, if_pos ⟨rfl, rfl⟩]
      · rw [z_st_fld _ _ _ e2, if_neg (fun q => e2 q.2)]; exact this.2.2 j hj
    · rw [z_st_row _ _ _ (by omega), if_neg (fun q => e q.1)]; exact this.2.2 j hj
  · refine hMg.sht (fun p hp => z_st_row _ _ _ (by omega)) (fun k' hk' => ?_)
    have := hMg.2.2.1 k' hk'
    rw [z_st_row _ _ _ (by decide : 44 ≠ 46), z_st_row _ _ _ (by decide : 45 ≠ 46)]
    refine ⟨this.1, this.2.1, fun hne => ⟨(this.2.2 hne).1, fun j hj => ?_⟩⟩
    by_cases e : 60 * k' + j = 60 * kn + jn
    · rw [e, z_st_at, if_pos (by omega)]
    · rw [z_st_fld _ _ _ e, if_neg (by omega)]
      exact (this.2.2 hne).2 j hj
  · rw [z_st_row _ _ _ (by decide), z_g0_row _ (by decide), z_st_row _ _ _ (by omega), z_f0_row _ (by decide)]
  · rw [z_st_row _ _ _ (by decide), z_g0_row _ (by decide), z_st_row _ _ _ (by omega), z_f0_row _ (by decide)]
