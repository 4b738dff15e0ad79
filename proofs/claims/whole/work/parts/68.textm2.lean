/-! the model's readOneStage, readOneThing -/
def gQf (σ τ : zS) : Prop := (∀ q, q ≠ 43 → q ≠ 52 → q ≠ 53 → τ.1 q = σ.1 q) ∧ (∀ j, ¬ (15 ≤ j ∧ j ≤ 18) → τ.1 43 j = σ.1 43 j) ∧ τ.2 = σ.2
def gQ (σ : zS) (b0 : Nat) (τ : zS) (s : zP) (p : Nat) : Prop := gQf σ τ ∧ (τ.1 43 15 = nI (b0 + p) ∧ τ.1 43 17 = nI s.2.2.1 ∧ τ.1 43 18 = nI s.2.2.2.1 ∧ (3 ≤ s.1 → τ.1 43 16 = s.2.1)) ∧ (∀ j, j < s.2.2.1 → τ.1 52 (2 * j) = s.2.2.2.2.1 j ∧ τ.1 52 (2 * j + 1) = s.2.2.2.2.2.1 j) ∧ ∀ t, t < s.2.2.2.1 → τ.1 53 (2 * t) = s.2.2.2.2.2.2.1 t ∧ τ.1 53 (2 * t + 1) = s.2.2.2.2.2.2.2 t
/-- behind a part: read on, or the first fault -/
def gPart (σ : zS) (b0 n : Nat) (f : Nat → Int32) (s : zP) (p : Nat) (P : zP → Prop) (rv : Option Value) (τ : zS) : Prop :=
  (∃ s2 p2, p2 ≤ n ∧ pLoop f n (n - p) p s = pLoop f n (n - p2) p2 s2 ∧ P s2 ∧ rv = some (.int 1) ∧ gQ σ b0 τ s2 p2) ∨ (rv = some (.int 0) ∧ ∃ q, (pLoop f n (n - p) p s).1 = some q ∧ q ≤ n ∧ gQf σ τ ∧ τ.1 43 15 = nI (b0 + q))
theorem gQf.at {σ τ : zS} (h : gQf σ τ) {j : Nat} (hj : 15 ≤ j ∧ j ≤ 18) (v : Int32) : gQf σ (z_st τ 43 j v) := by
  obtain ⟨h1, h2, h3⟩ := h
  refine ⟨fun q a1 a2 a3 => ?_, fun k hk => ?_, h3⟩
  · rw [z_st_row _ _ _ a1]; exact h1 q a1 a2 a3
  · rw [z_st_fld _ _ _ (by intro e; subst e; exact hk hj)]; exact h2 k hk
theorem gQf.st {σ τ : zS} (h : gQf σ τ) {r : Nat} (hr : r = 52 ∨ r = 53) (j : Nat) (v : Int32) : gQf σ (z_st τ r j v) := by
  obtain ⟨h1, h2, h3⟩ := h
  refine ⟨fun q a1 a2 a3 => ?_, fun k hk => ?_, h3⟩
  · rw [z_st_row _ _ _ (by rcases hr with rfl | rfl <;> assumption)]; exact h1 q a1 a2 a3
  · rw [z_st_row _ _ _ (by rcases hr with rfl | rfl <;> decide)]; exact h2 k hk
theorem gb_two3 : ∀ n < 5, (2 : Int32) * nI n = nI (2 * n) := by decide +kernel
theorem nI_n9 {l : Nat} (h : l < 2 ^ 31) : ¬ (nI l : Int32) = -9 := fun q => by
  have := nI_pos (n := l) h
  rw [q] at this
  exact this (by decide)
theorem s_readOneStage (d : Nat) {σ τ : zS} {b0 n : Nat} (hb : b0 + n ≤ 240) {f : Nat → Int32} (hf : ∀ p, f p = σ.1 46 (b0 + p)) {B : Int32} {N K : Nat} {ln md kd pd : Nat → Int32} (hN : N < 3) {p : Nat} (hp : p ≤ n) (hQ : gQ σ b0 τ (4, B, N, K, ln, md, kd, pd) p) : z_Ex mX6_readOneStage (d + 2) [.ref 43, .int (nI (b0 + n))] τ (gPart σ b0 n f (4, B, N, K, ln, md, kd, pd) p (fun s2 => s2.1 = 3 ∧ s2.2.2.1 = N + 1 ∧ s2.2.2.2.1 = K)) := by
  obtain ⟨hF, ⟨q1, q2, q3, q4⟩, q5, q6⟩ := hQ
  simp only at q2 q3 q4 q5 q6
  have hN2 := gb_two3 N (by omega)
  have e46 : ∀ {τ : zS}, gQf σ τ → τ.1 46 = σ.1 46 := fun h => h.1 46 (by decide) (by decide) (by decide)
  refine x_enter (by decide) (Nat.le_of_ble_eq_true rfl) ?_
  show z_At _ _ _ [.ref 43, .int (nI (b0 + n)), .null] _ _ _
  refine x_iconst (v := 2) (pc2 := 1) dX6_readOneStage_0 rfl (by decide) ?_
  refine x_aload0 (pc2 := 2) dX6_readOneStage_1 rfl ?_
  refine x_getI (pc2 := 5) fX6_117 sh_43 rfl dX6_readOneStage_2 rfl ?_
  rw [q2]
  refine x_imul (pc2 := 6) dX6_readOneStage_5 rfl ?_
  rw [hN2]
  refine x_istore2 (pc2 := 7) dX6_readOneStage_6 rfl rfl ?_
  refine x_aload0 (pc2 := 8) dX6_readOneStage_7 rfl ?_
  refine x_getR (pc2 := 11) fX6_42 sh_43 rfl dX6_readOneStage_8 rfl ?_
  refine x_iload2 (pc2 := 12) dX6_readOneStage_11 rfl ?_
  refine x_aload0 (pc2 := 13) dX6_readOneStage_12 rfl ?_
  refine x_iload1 (pc2 := 14) dX6_readOneStage_13 rfl ?_
  refine x_iconst (v := 1) (pc2 := 15) dX6_readOneStage_14 rfl (by decide) ?_
  refine x_bipush (v := 9) (pc2 := 17) dX6_readOneStage_15 rfl (by decide) ?_
  refine x_fV3 (pc2 := 20) eX6_digit kX6_130 sh_43 rfl (Nat.le_of_ble_eq_true rfl) dX6_readOneStage_17 rfl (s_digit _ q1 (by omega) (by omega) 1 9) ?_
  rw [e46 hF, ← hf p]
  have hdig := pDigit_iff (code := f p) (lo := 1) (hi := 9) (by decide) (by decide)
  by_cases c1 : b0 + p < b0 + n ∧ z_wi (f p) (48 + 1) (48 + 9) = true
  rotate_left
  · rw [if_neg c1, if_neg c1]
    refine x_iast (pc2 := 21) sh_52 (by exact z_in (by omega)) dX6_readOneStage_20 rfl ?_
    refine x_aload0 (pc2 := 22) dX6_readOneStage_21 rfl ?_
    refine x_getR (pc2 := 25) fX6_42 sh_43 rfl dX6_readOneStage_22 rfl ?_
    refine x_iload2 (pc2 := 26) dX6_readOneStage_25 rfl ?_
    refine x_iald (pc2 := 27) sh_52 (by exact z_in (by omega)) dX6_readOneStage_26 rfl ?_
    rw [z_st_at]
    refine x_bipush (v := -9) (pc2 := 29) dX6_readOneStage_27 rfl (by decide) ?_
    refine x_icmp_ne (pc2 := 32) (pc3 := 34) dX6_readOneStage_29 rfl rfl (fun h29 => ?_) (fun h29 => ?_)
    · exact absurd rfl h29
    refine x_iconst (v := 0) (pc2 := 33) dX6_readOneStage_32 rfl (by decide) ?_
    refine x_zret dX6_readOneStage_33 rfl (by first | assumption | exact z_b01 _ | exact Or.inl rfl | exact Or.inr rfl) ?_
    refine Or.inr ⟨rfl, p, pl_stop hp ?_ (fun q => by simp at q), hp, hF.st (Or.inl rfl) _ _, by rw [z_st_row _ _ _ (by decide)]; exact q1⟩
    by_cases e : p = n
    · exact Or.inl e
    · right
      have c2 : f p - 48 < 1 ∨ ¬ f p - 48 ≤ 9 := Classical.not_not.mp fun q => c1 ⟨by omega, hdig.mpr q⟩
      unfold pStep
      simp only [Nat.reduceEqDiff, if_false, if_true, if_pos c2]
  rw [if_pos c1, if_pos c1]
  have hpn : p < n := by omega
  have nd1 := hdig.mp c1.2
  obtain ⟨l, l1, l2⟩ := pDigit (by decide) nd1 (by decide)
  have es1 : pStep (4, B, N, K, ln, md, kd, pd) (f p) = (5, B, N, K, upd ln N (f p - 48), md, kd, pd) := by
    have nd1 : ¬ (f p - 48 < 1 ∨ ¬ f p - 48 ≤ 9) := nd1
    unfold pStep
    simp only [Nat.reduceEqDiff, if_false, if_true, if_neg nd1]
  have hgo1 := pl_go (f := f) (n := n) (s := (4, B, N, K, ln, md, kd, pd)) hpn (by rw [es1]; simp)
  rw [es1] at hgo1
  refine x_iast (pc2 := 21) sh_52 (by exact z_in (by omega)) dX6_readOneStage_20 rfl ?_
  refine x_aload0 (pc2 := 22) dX6_readOneStage_21 rfl ?_
  refine x_getR (pc2 := 25) fX6_42 sh_43 rfl dX6_readOneStage_22 rfl ?_
  refine x_iload2 (pc2 := 26) dX6_readOneStage_25 rfl ?_
  refine x_iald (pc2 := 27) sh_52 (by exact z_in (by omega)) dX6_readOneStage_26 rfl ?_
  rw [z_st_at]
  refine x_bipush (v := -9) (pc2 := 29) dX6_readOneStage_27 rfl (by decide) ?_
  refine x_icmp_ne (pc2 := 32) (pc3 := 34) dX6_readOneStage_29 rfl rfl (fun h29 => ?_) (fun h29 => ?_)
  rotate_left
  · rw [l2] at h29
    exact absurd h29 (nI_n9 (by omega))
  rw [nI_clamp (by omega)]
  have hF1 : gQf σ (z_st (z_st τ 43 15 (nI (b0 + p + 1))) 52 (2 * N) (f p - 48)) := (hF.at (by decide) _).st (Or.inl rfl) _ _
  have q1' : (z_st (z_st τ 43 15 (nI (b0 + p + 1))) 52 (2 * N) (f p - 48)).1 43 15 = nI (b0 + p + 1) := by rw [z_st_row _ _ _ (by decide), z_st_at]
  have h17 : ∀ v, (z_st (z_st (z_st τ 43 15 (nI (b0 + (p + 1)))) 52 (2 * N) (f p - 48)) 52 (2 * N + 1) v).1 43 17 = nI N := fun v => by rw [z_st_row _ _ _ (by decide), z_st_row _ _ _ (by decide), z_st_fld _ _ _ (by decide)]; exact q2
  refine x_aload0 (pc2 := 35) dX6_readOneStage_34 rfl ?_
  refine x_getR (pc2 := 38) fX6_42 sh_43 rfl dX6_readOneStage_35 rfl ?_
  refine x_iload2 (pc2 := 39) dX6_readOneStage_38 rfl ?_
  refine x_iconst (v := 1) (pc2 := 40) dX6_readOneStage_39 rfl (by decide) ?_
  refine x_iadd (pc2 := 41) dX6_readOneStage_40 rfl ?_
  rw [← nI_succ]
  refine x_aload0 (pc2 := 42) dX6_readOneStage_41 rfl ?_
  refine x_iload1 (pc2 := 43) dX6_readOneStage_42 rfl ?_
  refine x_iconst (v := 0) (pc2 := 44) dX6_readOneStage_43 rfl (by decide) ?_
  refine x_iconst (v := 4) (pc2 := 45) dX6_readOneStage_44 rfl (by decide) ?_
  refine x_fV3 (pc2 := 48) eX6_digit kX6_130 sh_43 rfl (Nat.le_of_ble_eq_true rfl) dX6_readOneStage_45 rfl (s_digit _ q1' (by omega) (by omega) 0 4) ?_
  rw [e46 hF1, show b0 + p + 1 = b0 + (p + 1) from rfl, ← hf (p + 1)]
  have hdig2 := pDigit_iff (code := f (p + 1)) (lo := 0) (hi := 4) (by decide) (by decide)
  by_cases c3 : b0 + (p + 1) < b0 + n ∧ z_wi (f (p + 1)) (48 + 0) (48 + 4) = true
  rotate_left
  · rw [if_neg c3, if_neg c3]
    refine x_iast (pc2 := 49) sh_52 (by exact z_in (by omega)) dX6_readOneStage_48 rfl ?_
    refine x_aload0 (pc2 := 50) dX6_readOneStage_49 rfl ?_
    refine x_dup (pc2 := 51) dX6_readOneStage_50 rfl rfl ?_
    refine x_getI (pc2 := 54) fX6_117 sh_43 rfl dX6_readOneStage_51 rfl ?_
    rw [nI_clamp (by omega), h17]
    refine x_iconst (v := 1) (pc2 := 55) dX6_readOneStage_54 rfl (by decide) ?_
    refine x_iadd (pc2 := 56) dX6_readOneStage_55 rfl ?_
    rw [← nI_succ]
    refine x_putI (pc2 := 59) pX6_117 sh_43 rfl dX6_readOneStage_56 rfl ?_
    refine x_aload0 (pc2 := 60) dX6_readOneStage_59 rfl ?_
    refine x_getR (pc2 := 63) fX6_42 sh_43 rfl dX6_readOneStage_60 rfl ?_
    refine x_iload2 (pc2 := 64) dX6_readOneStage_63 rfl ?_
    refine x_iconst (v := 1) (pc2 := 65) dX6_readOneStage_64 rfl (by decide) ?_
    refine x_iadd (pc2 := 66) dX6_readOneStage_65 rfl ?_
    rw [← nI_succ]
    refine x_iald (pc2 := 67) sh_52 (by exact z_in (by omega)) dX6_readOneStage_66 rfl ?_
    rw [z_st_row _ _ _ (by decide), nI_clamp (by omega), z_st_at]
    refine x_bipush (v := -9) (pc2 := 69) dX6_readOneStage_67 rfl (by decide) ?_
    refine x_icmp_eq (pc2 := 72) (pc3 := 76) dX6_readOneStage_69 rfl rfl (fun h69 => ?_) (fun h69 => ?_)
    · skip
      refine x_iconst (v := 0) (pc2 := 77) dX6_readOneStage_76 rfl (by decide) ?_
      refine x_zret dX6_readOneStage_77 rfl (by first | assumption | exact z_b01 _ | exact Or.inl rfl | exact Or.inr rfl) ?_
      refine Or.inr ⟨rfl, p + 1, ?_, by omega, (hF1.st (Or.inl rfl) _ _).at (by decide) _, ?_⟩
      · rw [hgo1]
        refine pl_stop (by omega) ?_ (fun q => by simp at q)
        by_cases e : p + 1 = n
        · exact Or.inl e
        · right
          have c2 : f (p + 1) - 48 < 0 ∨ ¬ f (p + 1) - 48 ≤ 4 := Classical.not_not.mp fun q => c3 ⟨by omega, hdig2.mpr q⟩
          unfold pStep
          simp only [Nat.reduceEqDiff, if_false, if_true, if_pos c2]
      · rw [z_st_fld _ _ _ (by decide), z_st_row _ _ _ (by decide)]; exact q1'
    · exact absurd rfl h69
  rw [if_pos c3, if_pos c3]
  have hpn2 : p + 1 < n := by omega
  have nd2 := hdig2.mp c3.2
  have nd2' : ¬ (f (p + 1) - 48 < 0 ∨ ¬ f (p + 1) - 48 ≤ 4) := nd2
  obtain ⟨l', l1', l2'⟩ := pDigit (by decide) nd2 (by decide)
  have es2 : pStep (5, B, N, K, upd ln N (f p - 48), md, kd, pd) (f (p + 1)) = (3, B, N + 1, K, upd ln N (f p - 48), upd md N (f (p + 1) - 48), kd, pd) := by
    unfold pStep
    simp only [Nat.reduceEqDiff, if_false, if_true, if_neg nd2']
  have hgo2 := pl_go (f := f) (n := n) (s := (5, B, N, K, upd ln N (f p - 48), md, kd, pd)) hpn2 (by rw [es2]; simp)
  rw [es2] at hgo2
  refine x_iast (pc2 := 49) sh_52 (by exact z_in (by omega)) dX6_readOneStage_48 rfl ?_
  refine x_aload0 (pc2 := 50) dX6_readOneStage_49 rfl ?_
  refine x_dup (pc2 := 51) dX6_readOneStage_50 rfl rfl ?_
  refine x_getI (pc2 := 54) fX6_117 sh_43 rfl dX6_readOneStage_51 rfl ?_
  rw [nI_clamp (by omega)]
  have h17' : ∀ v w, (z_st (z_st (z_st (z_st τ 43 15 (nI (b0 + (p + 1)))) 52 (2 * N) (f p - 48)) 43 15 w) 52 (2 * N + 1) v).1 43 17 = nI N := fun v w => by rw [z_st_row _ _ _ (by decide), z_st_fld _ _ _ (by decide), z_st_row _ _ _ (by decide), z_st_fld _ _ _ (by decide)]; exact q2
  rw [h17']
  refine x_iconst (v := 1) (pc2 := 55) dX6_readOneStage_54 rfl (by decide) ?_
  refine x_iadd (pc2 := 56) dX6_readOneStage_55 rfl ?_
  rw [← nI_succ]
  refine x_putI (pc2 := 59) pX6_117 sh_43 rfl dX6_readOneStage_56 rfl ?_
  refine x_aload0 (pc2 := 60) dX6_readOneStage_59 rfl ?_
  refine x_getR (pc2 := 63) fX6_42 sh_43 rfl dX6_readOneStage_60 rfl ?_
  refine x_iload2 (pc2 := 64) dX6_readOneStage_63 rfl ?_
  refine x_iconst (v := 1) (pc2 := 65) dX6_readOneStage_64 rfl (by decide) ?_
  refine x_iadd (pc2 := 66) dX6_readOneStage_65 rfl ?_
  rw [← nI_succ]
  refine x_iald (pc2 := 67) sh_52 (by exact z_in (by omega)) dX6_readOneStage_66 rfl ?_
  rw [nI_clamp (by omega), z_st_row _ _ _ (by decide), z_st_at]
  refine x_bipush (v := -9) (pc2 := 69) dX6_readOneStage_67 rfl (by decide) ?_
  refine x_icmp_eq (pc2 := 72) (pc3 := 76) dX6_readOneStage_69 rfl rfl (fun h69 => ?_) (fun h69 => ?_)
  · rw [l2'] at h69
    exact absurd h69 (nI_n9 (by omega))
  refine x_iconst (v := 1) (pc2 := 73) dX6_readOneStage_72 rfl (by decide) ?_
  refine x_goto (pc2 := 77) dX6_readOneStage_73 rfl ?_
  refine x_zret dX6_readOneStage_77 rfl (by first | assumption | exact z_b01 _ | exact Or.inl rfl | exact Or.inr rfl) ?_
  refine Or.inl ⟨_, p + 2, by omega, hgo1.trans hgo2, ⟨rfl, rfl, rfl⟩, rfl, (((hF1.at (by decide) _).st (Or.inl rfl) _ _).at (by decide) _), ⟨?_, ?_, ?_, fun _ => ?_⟩, fun j hj => ?_, fun t ht => ?_⟩
  · rw [z_st_fld _ _ _ (by decide), z_st_row _ _ _ (by decide), z_st_at]
    rfl
  · rw [z_st_at]
  · rw [z_st_fld _ _ _ (by decide), z_st_row _ _ _ (by decide), z_st_fld _ _ _ (by decide), z_st_row _ _ _ (by decide), z_st_fld _ _ _ (by decide)]
    exact q3
  · rw [z_st_fld _ _ _ (by decide), z_st_row _ _ _ (by decide), z_st_fld _ _ _ (by decide), z_st_row _ _ _ (by decide), z_st_fld _ _ _ (by decide)]
    exact q4 (by omega)
  · simp only at hj
    rw [z_st_row _ _ _ (by decide)]
    by_cases e : j = N
    · subst e
      refine ⟨?_, ?_⟩
      · rw [z_st_fld _ _ _ (by omega), z_st_row _ _ _ (by decide), z_st_at]
        simp only [upd, if_true]
      · rw [z_st_at]
        simp only [upd, if_true]
    · simp only [upd, if_neg e]
      rw [z_st_fld _ _ _ (by omega), z_st_fld _ _ _ (by omega), z_st_row _ _ _ (by decide), z_st_fld _ _ _ (by omega), z_st_fld _ _ _ (by omega), z_st_row _ _ _ (by decide)]
      exact q5 j (by omega)
  · rw [z_st_row _ _ _ (by decide), z_st_row _ _ _ (by decide), z_st_row _ _ _ (by decide), z_st_row _ _ _ (by decide), z_st_row _ _ _ (by decide)]
    exact q6 t ht
