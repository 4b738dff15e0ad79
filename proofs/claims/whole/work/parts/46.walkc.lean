/-! PortageTrips$Walk -/
theorem gb_abs : ∀ v < 4, ∀ p < 4, ((if (0 : Int32) ≤ nI v - nI p then nI v - nI p else 0 - (nI v - nI p)) = 1 ↔ (v = p + 1 ∨ v + 1 = p)) := by decide +kernel
theorem s_canGo (d : Nat) {σ : zS} {r : Nat} (hr : z_isP r) {c : zG} (hc : gWf c) (hC : gC r σ c) {s v x k : Nat} (hs : s < 1024) (h5 : σ.1 26 5 = nI (s % 4)) (hh : σ.1 30 (s % 4) = nI (gHr c s)) (hk : k < 18) (t1 : σ.1 27 k = nI v) (hv : v < 4) (hvN : v ≤ cN c) (t3 : σ.1 28 k = nI x) (hx : x < 16) : z_Fn mX4_canGo (d + 2) [.ref 26, .ref r, .int (nI k)] σ (.int (z_b (gOk c s v x))) σ := by
  refine x_enter (by decide) (Nat.le_of_ble_eq_true rfl) ?_
  show z_At _ _ _ [.ref 26, .ref r, .int (nI k), .null, .null] _ _ _
  have hK := hc.1
  have hh16 : gHr c s < 16 := gH_16 _ _ _ hK
  have hp4 : s % 4 < 4 := Nat.mod_lt _ (by decide)
  have hy : gHr c s &&& (15 - x) < 16 := gb_and15 _ hh16 x hx
  refine x_aload0 (pc2 := 1) dX4_canGo_0 rfl ?_
  refine x_getR (pc2 := 4) fX4_15 sh_26 rfl dX4_canGo_1 rfl ?_
  refine x_iload2 (pc2 := 5) dX4_canGo_4 rfl ?_
  refine x_iald (pc2 := 6) sh_28 (by exact z_in hk) dX4_canGo_5 rfl ?_
  refine x_istore3 (pc2 := 7) dX4_canGo_6 rfl rfl ?_
  refine x_aload0 (pc2 := 8) dX4_canGo_7 rfl ?_
  refine x_getR (pc2 := 11) fX4_21 sh_26 rfl dX4_canGo_8 rfl ?_
  refine x_aload0 (pc2 := 12) dX4_canGo_11 rfl ?_
  refine x_getI (pc2 := 15) fX4_38 sh_26 rfl dX4_canGo_12 rfl ?_
  rw [nI_clamp (by omega), t3, h5]
  refine x_iald (pc2 := 16) sh_30 (by exact z_in hp4) dX4_canGo_15 rfl ?_
  refine x_iload3 (pc2 := 17) dX4_canGo_16 rfl ?_
  refine x_iconst (v := -1) (pc2 := 18) dX4_canGo_17 rfl (by decide) ?_
  refine x_ixor (pc2 := 19) dX4_canGo_18 rfl ?_
  refine x_iand (pc2 := 20) dX4_canGo_19 rfl ?_
  refine x_istore4 (pc2 := 22) dX4_canGo_20 rfl rfl ?_
  refine x_aload0 (pc2 := 23) dX4_canGo_22 rfl ?_
  refine x_getR (pc2 := 26) fX4_9 sh_26 rfl dX4_canGo_23 rfl ?_
  refine x_iload2 (pc2 := 27) dX4_canGo_26 rfl ?_
  refine x_iald (pc2 := 28) sh_27 (by exact z_in hk) dX4_canGo_27 rfl ?_
  refine x_aload0 (pc2 := 29) dX4_canGo_28 rfl ?_
  refine x_getI (pc2 := 32) fX4_38 sh_26 rfl dX4_canGo_29 rfl ?_
  refine x_isub (pc2 := 33) dX4_canGo_32 rfl ?_
  rw [nI_clamp (by omega), nI_clamp (by omega), hh, t1, h5, z_an, gb_andn _ hh16 x hx]
  refine x_mabs (pc2 := 36) (by decide +kernel) (Nat.le_of_ble_eq_true rfl) dX4_canGo_33 rfl ?_
  refine x_iconst (v := 1) (pc2 := 37) dX4_canGo_36 rfl (by decide) ?_
  refine x_icmp_ne (pc2 := 40) (pc3 := 83) dX4_canGo_37 rfl rfl (fun h37 => ?_) (fun h37 => ?_)
  · rw [gb_abs v hv _ hp4] at h37
    refine x_iconst (v := 0) (pc2 := 84) dX4_canGo_83 rfl (by decide) ?_
    refine x_zret dX4_canGo_84 rfl (by first | assumption | exact z_b01 _ | exact Or.inl rfl | exact Or.inr rfl) ?_
    refine ⟨?_, rfl⟩
    have : gOk c s v x = false := by
      unfold gOk
      simp only [Bool.and_eq_false_iff, Bool.or_eq_false_iff, decide_eq_false_iff_not]
      exact Or.inr (Or.inl ⟨fun q => h37 (Or.inl q), fun q => h37 (Or.inr q)⟩)
    rw [this]; rfl
  · rw [gb_abs v hv _ hp4] at h37
    refine x_iload3 (pc2 := 41) dX4_canGo_40 rfl ?_
    refine x_aload0 (pc2 := 42) dX4_canGo_41 rfl ?_
    refine x_getR (pc2 := 45) fX4_21 sh_26 rfl dX4_canGo_42 rfl ?_
    refine x_aload0 (pc2 := 46) dX4_canGo_45 rfl ?_
    refine x_getI (pc2 := 49) fX4_38 sh_26 rfl dX4_canGo_46 rfl ?_
    rw [h5]
    refine x_iald (pc2 := 50) sh_30 (by exact z_in hp4) dX4_canGo_49 rfl ?_
    refine x_iconst (v := -1) (pc2 := 51) dX4_canGo_50 rfl (by decide) ?_
    refine x_ixor (pc2 := 52) dX4_canGo_51 rfl ?_
    refine x_iand (pc2 := 53) dX4_canGo_52 rfl ?_
    rw [nI_clamp (by omega), hh, z_an, gb_andn x hx _ hh16]
    refine x_if_ne (pc2 := 56) (pc3 := 83) dX4_canGo_53 rfl rfl (fun h53 => ?_) (fun h53 => ?_)
    · rw [gb_andn0 x hx _ hh16] at h53
      refine x_iconst (v := 0) (pc2 := 84) dX4_canGo_83 rfl (by decide) ?_
      refine x_zret dX4_canGo_84 rfl (by first | assumption | exact z_b01 _ | exact Or.inl rfl | exact Or.inr rfl) ?_
      refine ⟨?_, rfl⟩
      have : gOk c s v x = false := by
        unfold gOk
        simp only [Bool.and_eq_false_iff, Bool.or_eq_false_iff, decide_eq_false_iff_not]
        exact Or.inr (Or.inr (Or.inl h53))
      rw [this]; rfl
    · rw [gb_andn0 x hx _ hh16] at h53
      refine x_aload1 (pc2 := 57) dX4_canGo_56 rfl ?_
      refine x_iload3 (pc2 := 58) dX4_canGo_57 rfl ?_
      refine x_fV1 (pc2 := 61) eX0_load kX4_69 (sh_P hr) rfl (Nat.le_of_ble_eq_true rfl) dX4_canGo_58 rfl (s_load _ _ hr _ hC.1.1 hc.1) ?_
      refine x_aload1 (pc2 := 62) dX4_canGo_61 rfl ?_
      refine x_getI (pc2 := 65) fX4_72 (sh_P hr) rfl dX4_canGo_62 rfl ?_
      rw [hC.2.1.2, hC.2.2.2.1]
      refine x_icmp_gt (pc2 := 68) (pc3 := 83) dX4_canGo_65 rfl rfl (fun h65 => ?_) (fun h65 => ?_)
      · skip
        refine x_iconst (v := 0) (pc2 := 84) dX4_canGo_83 rfl (by decide) ?_
        refine x_zret dX4_canGo_84 rfl (by first | assumption | exact z_b01 _ | exact Or.inl rfl | exact Or.inr rfl) ?_
        refine ⟨?_, rfl⟩
        have : gOk c s v x = false := by
          unfold gOk gGo
          simp only [Bool.and_eq_false_iff, Bool.or_eq_false_iff, decide_eq_false_iff_not]
          exact Or.inr (Or.inr (Or.inr (Or.inl (Int32.not_le.mpr h65))))
        rw [this]; rfl
      · have h65 := Int32.not_lt.mp h65
        refine x_aload1 (pc2 := 69) dX4_canGo_68 rfl ?_
        refine x_iload4 (pc2 := 71) dX4_canGo_69 rfl ?_
        refine x_fV1 (pc2 := 74) eX0_wellOnes kX4_75 (sh_P hr) rfl (Nat.le_of_ble_eq_true rfl) dX4_canGo_71 rfl (s_wellOnes _ _ hr _ hC.1.1 hc.1) ?_
        refine x_iload4 (pc2 := 76) dX4_canGo_74 rfl ?_
        rw [hC.2.1.1, z_wo_wm hy hK hc.2.2.1 _ (Nat.le_refl _)]
        refine x_icmp_ne (pc2 := 79) (pc3 := 83) dX4_canGo_76 rfl rfl (fun h76 => ?_) (fun h76 => ?_)
        · skip
          refine x_iconst (v := 0) (pc2 := 84) dX4_canGo_83 rfl (by decide) ?_
          refine x_zret dX4_canGo_84 rfl (by first | assumption | exact z_b01 _ | exact Or.inl rfl | exact Or.inr rfl) ?_
          refine ⟨?_, rfl⟩
          have : gOk c s v x = false := by
            unfold gOk gSt
            simp only [Bool.and_eq_false_iff, Bool.or_eq_false_iff, decide_eq_false_iff_not]
            exact Or.inr (Or.inr (Or.inr (Or.inr h76)))
          rw [this]; rfl
        · skip
          refine x_iconst (v := 1) (pc2 := 80) dX4_canGo_79 rfl (by decide) ?_
          refine x_goto (pc2 := 84) dX4_canGo_80 rfl ?_
          refine x_zret dX4_canGo_84 rfl (by first | assumption | exact z_b01 _ | exact Or.inl rfl | exact Or.inr rfl) ?_
          refine ⟨?_, rfl⟩
          have : gOk c s v x = true := by
            unfold gOk gSt gGo
            simp only [Bool.and_eq_true, Bool.or_eq_true, decide_eq_true_eq]
            exact ⟨hvN, h37, h53, h65, h76⟩
          rw [this]; rfl
/-- trips laid in the class -/
def gTc (σ : zS) (n : Nat) (to x : Nat → Nat) : Prop := σ.1 26 0 = nI n ∧ n ≤ 18 ∧ ∀ k, k < n → σ.1 27 k = nI (to k) ∧ to k < 4 ∧ σ.1 28 k = nI (x k)
/-- what the class's walk may write -/
def gFc (σ τ : zS) : Prop := (∀ q, q ≠ 26 → q ≠ 29 → q ≠ 30 → τ.1 q = σ.1 q) ∧ (∀ j, j ≠ 5 → j ≠ 6 → τ.1 26 j = σ.1 26 j) ∧ (∀ q, q ≠ 26 → τ.2 q = σ.2 q) ∧ τ.1 29 0 = σ.1 29 0
/-- how far the class's walk is -/
def gJc (σ : zS) (c : zG) (to x : Nat → Nat) (k : Nat) (τ : zS) : Prop :=
  gFc σ τ ∧ (τ.1 26 5 = nI (wS to x k % 4) ∧ τ.1 26 6 = -9) ∧ (∀ p, p < 4 → τ.1 30 p = nI (gH (cM c) (wS to x k) p (cK c))) ∧ ∀ i, i ≤ k → τ.1 29 i = nI (wT c to x i)
theorem gC.of {r : Nat} (hr : z_isP r) {σ τ : zS} {c : zG} (h : gC r σ c) (hf : gFc σ τ) : gC r τ c := by
  obtain ⟨⟨a1, a2, a3⟩, ⟨b1, b2⟩, ⟨c1, c2, c3⟩, d1, e1⟩ := h
  have key : ∀ i, i < 6 → τ.1 (r + i) = σ.1 (r + i) := fun i hi => hf.1 (r + i) (by rcases hr with rfl | rfl <;> omega) (by rcases hr with rfl | rfl <;> omega) (by rcases hr with rfl | rfl <;> omega)
  have k0 : τ.1 r = σ.1 r := key 0 (by decide)
  exact ⟨⟨by rw [k0]; exact a1, by rw [k0]; exact a2, a3⟩, ⟨by rw [key 4 (by decide)]; exact b1, by rw [key 5 (by decide)]; exact b2⟩, ⟨by rw [key 1 (by decide)]; exact c1, by rw [key 2 (by decide)]; exact c2, by rw [key 3 (by decide)]; exact c3⟩, by rw [k0]; exact d1, by rw [k0]; exact e1⟩
theorem gTc.of {σ τ : zS} {n : Nat} {to x : Nat → Nat} (h : gTc σ n to x) (hf : gFc σ τ) : gTc τ n to x := by
  obtain ⟨a, b, e⟩ := h
  refine ⟨(hf.2.1 0 (by decide) (by decide)).trans a, b, fun k hk => ?_⟩
  rw [hf.1 27 (by decide) (by decide) (by decide), hf.1 28 (by decide) (by decide) (by decide)]
  exact e k hk
theorem z_mmin {a b : Nat} (ha : a < 2 ^ 31) (hb : b < 2 ^ 31) : (if nI b < nI a then nI b else nI a) = nI (min a b) := by
  by_cases h : b < a
  · rw [if_pos ((nI_lt_iff hb ha).mpr h), Nat.min_eq_right (by omega)]
  · rw [if_neg (fun q => h ((nI_lt_iff hb ha).mp q)), Nat.min_eq_left (by omega)]
