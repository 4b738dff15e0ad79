/-! the model's readAll, stages and start -/
theorem ps3_a {B : Int32} {N K : Nat} {ln md kd pd : Nat → Int32} {code : Int32} (h : code = 59 ∧ K = 0 ∧ N < 3) : pStep (3, B, N, K, ln, md, kd, pd) code = (4, B, N, K, ln, md, kd, pd) := by
  unfold pStep
  simp only [Nat.reduceEqDiff, if_false, if_true, if_pos h]
theorem ps3_b {B : Int32} {N K : Nat} {ln md kd pd : Nat → Int32} {code : Int32} (h1 : ¬ (code = 59 ∧ K = 0 ∧ N < 3)) (h : code = 44 ∧ 0 < N ∧ K < 4) : pStep (3, B, N, K, ln, md, kd, pd) code = (6, B, N, K, ln, md, kd, pd) := by
  unfold pStep
  simp only [Nat.reduceEqDiff, if_false, if_true, if_neg h1, if_pos h]
theorem ps3_c {B : Int32} {N K : Nat} {ln md kd pd : Nat → Int32} {code : Int32} (h1 : ¬ (code = 59 ∧ K = 0 ∧ N < 3)) (h : ¬ (code = 44 ∧ 0 < N ∧ K < 4)) : (pStep (3, B, N, K, ln, md, kd, pd) code).1 = 0 := by
  unfold pStep
  simp only [Nat.reduceEqDiff, if_false, if_true, if_neg h1, if_neg h]
theorem s_rA63 (d : Nat) {σ : zS} {b0 n : Nat} (hb : b0 + n ≤ 240) {f : Nat → Int32} (hf : ∀ p, f p = σ.1 46 (b0 + p)) : ∀ (k : Nat) {τ : zS} {B : Int32} {N p : Nat} {ln md kd pd : Nat → Int32}, 3 - N = k → 1 ≤ N → N ≤ 3 → p ≤ n → gQ σ b0 τ (3, B, N, 0, ln, md, kd, pd) p → z_At mX6_readAll (d + 3) 63 [.ref 43, .int (nI (b0 + n))] [] τ (gAll σ b0 n (pLoop f n (n - p) p (3, B, N, 0, ln, md, kd, pd))) := by
  intro k
  induction k with
  | zero => ?_
  | succ k ih => ?_
  all_goals intro τ B N p ln md kd pd hk hN1 hN3 hp hQ
  all_goals have q1 := hQ.2.1.1
  all_goals have q2 : τ.1 43 17 = nI N := hQ.2.1.2.1
  all_goals have e46 : τ.1 46 = σ.1 46 := hQ.1.1 46 (by decide) (by decide) (by decide)
  all_goals
    have hend : (N < 3 → p < n → ¬ f p = 59) → z_At mX6_readAll (d + 3) 91 [.ref 43, .int (nI (b0 + n))] [] τ (gAll σ b0 n (pLoop f n (n - p) p (3, B, N, 0, ln, md, kd, pd))) := by
      intro hno
      refine x_aload0 (pc2 := 92) dX6_readAll_91 rfl ?_
      refine x_iload1 (pc2 := 93) dX6_readAll_92 rfl ?_
      refine x_bipush (v := 44) (pc2 := 95) dX6_readAll_93 rfl (by decide) ?_
      refine x_fV2 (pc2 := 98) eX6_isSign kX6_126 sh_43 rfl (Nat.le_of_ble_eq_true rfl) dX6_readAll_95 rfl (s_isSign _ q1 (by omega) (by omega) 44) ?_
      rw [e46, ← hf p]
      by_cases c : b0 + p < b0 + n ∧ f p = 44
      · rw [if_pos c, decide_eq_true c]
        refine x_if_eq (pc2 := 101) (pc3 := 109) dX6_readAll_98 rfl rfl (fun h98 => ?_) (fun h98 => ?_)
        · exact absurd h98 (by decide)
        have x1 : ¬ (f p = 59 ∧ 0 = 0 ∧ N < 3) := fun q => hno q.2.2 (by omega) q.1
        have es : pStep (3, B, N, 0, ln, md, kd, pd) (f p) = (6, B, N, 0, ln, md, kd, pd) := by
          exact ps3_b x1 ⟨c.2, hN1, by omega⟩
        have hgo := pl_go (f := f) (n := n) (s := (3, B, N, 0, ln, md, kd, pd)) (p := p) (by omega) (by rw [es]; simp)
        rw [es] at hgo
        refine x_aload0 (pc2 := 102) dX6_readAll_101 rfl ?_
        refine x_iload1 (pc2 := 103) dX6_readAll_102 rfl ?_
        refine x_cV1 eX6_readOneThing kX6_137 sh_43 rfl (Nat.le_of_ble_eq_true rfl) dX6_readAll_103 ?_
        refine (s_readOneThing d hb hf (B := B) (N := N) (ln := ln) (md := md) (kd := kd) (pd := pd) (p := p + 1) (by omega) (by omega) (hQ.sign 6 (fun _ => Nat.le_refl 3))).mono ?_
        rintro rv υ (⟨⟨due, B2, N2, K2, ln2, md2, kd2, pd2⟩, p2, hp2, hL, ⟨e1, e2, e3⟩, rfl, hQ2⟩ | ⟨rfl, q, hq, hqn, hF, hat⟩)
        · show z_At _ _ 106 _ [.int _] _ _
          simp only at e1 e2 e3
          subst e1 e2 e3
          rw [hgo, hL]
          refine x_if_ne (pc2 := 109) (pc3 := 111) dX6_readAll_106 rfl rfl (fun h106 => ?_) (fun h106 => ?_)
          · exact s_rA111 d hb hf hN1 _ rfl (by omega) (by omega) hp2 hQ2
          · exact absurd h106 (by decide)
        · show z_At _ _ 106 _ [.int _] _ _
          refine x_if_ne (pc2 := 109) (pc3 := 111) dX6_readAll_106 rfl rfl (fun h106 => ?_) (fun h106 => ?_)
          · exact absurd rfl h106
          refine x_iconst (v := 0) (pc2 := 110) dX6_readAll_109 rfl (by decide) ?_
          refine x_zret dX6_readAll_110 rfl (by first | assumption | exact z_b01 _ | exact Or.inl rfl | exact Or.inr rfl) ?_
          rw [hgo]
          exact Or.inr ⟨q, hq, hqn, rfl, hF, hat⟩
      · rw [if_neg c, decide_eq_false c]
        refine x_if_eq (pc2 := 101) (pc3 := 109) dX6_readAll_98 rfl rfl (fun h98 => ?_) (fun h98 => ?_)
        · skip
          refine x_iconst (v := 0) (pc2 := 110) dX6_readAll_109 rfl (by decide) ?_
          refine x_zret dX6_readAll_110 rfl (by first | assumption | exact z_b01 _ | exact Or.inl rfl | exact Or.inr rfl) ?_
          refine Or.inr ⟨p, pl_stop hp ?_ (fun q => by have := q.2.2; simp at this), hp, rfl, hQ.1, q1⟩
          by_cases e : p = n
          · exact Or.inl e
          right
          have x1 : ¬ (f p = 59 ∧ 0 = 0 ∧ N < 3) := fun q => hno q.2.2 (by omega) q.1
          have x2 : ¬ (f p = 44 ∧ 0 < N ∧ 0 < 4) := fun q => c ⟨by omega, q.1⟩
          exact ps3_c x1 x2
        · exact absurd rfl h98
  · skip
    refine x_aload0 (pc2 := 64) dX6_readAll_63 rfl ?_
    refine x_getI (pc2 := 67) fX6_117 sh_43 rfl dX6_readAll_64 rfl ?_
    rw [q2]
    refine x_iconst (v := 3) (pc2 := 68) dX6_readAll_67 rfl (by decide) ?_
    refine x_icmp_ge (pc2 := 71) (pc3 := 91) dX6_readAll_68 rfl rfl (fun h68 => ?_) (fun h68 => ?_)
    · exact hend (fun q => absurd q (by omega))
    · exact absurd ((nI_le_iff (a := 3) (by omega) (by omega)).mpr (by omega)) h68
  · skip
    refine x_aload0 (pc2 := 64) dX6_readAll_63 rfl ?_
    refine x_getI (pc2 := 67) fX6_117 sh_43 rfl dX6_readAll_64 rfl ?_
    rw [q2]
    refine x_iconst (v := 3) (pc2 := 68) dX6_readAll_67 rfl (by decide) ?_
    refine x_icmp_ge (pc2 := 71) (pc3 := 91) dX6_readAll_68 rfl rfl (fun h68 => ?_) (fun h68 => ?_)
    · exact absurd ((nI_le_iff (a := 3) (by omega) (by omega)).mp h68) (by omega)
    refine x_aload0 (pc2 := 72) dX6_readAll_71 rfl ?_
    refine x_iload1 (pc2 := 73) dX6_readAll_72 rfl ?_
    refine x_bipush (v := 59) (pc2 := 75) dX6_readAll_73 rfl (by decide) ?_
    refine x_fV2 (pc2 := 78) eX6_isSign kX6_126 sh_43 rfl (Nat.le_of_ble_eq_true rfl) dX6_readAll_75 rfl (s_isSign _ q1 (by omega) (by omega) 59) ?_
    rw [e46, ← hf p]
    by_cases c : b0 + p < b0 + n ∧ f p = 59
    · rw [if_pos c, decide_eq_true c]
      refine x_if_eq (pc2 := 81) (pc3 := 91) dX6_readAll_78 rfl rfl (fun h78 => ?_) (fun h78 => ?_)
      · exact absurd h78 (by decide)
      have es : pStep (3, B, N, 0, ln, md, kd, pd) (f p) = (4, B, N, 0, ln, md, kd, pd) := by
        exact ps3_a ⟨c.2, rfl, by omega⟩
      have hgo := pl_go (f := f) (n := n) (s := (3, B, N, 0, ln, md, kd, pd)) (p := p) (by omega) (by rw [es]; simp)
      rw [es] at hgo
      refine x_aload0 (pc2 := 82) dX6_readAll_81 rfl ?_
      refine x_iload1 (pc2 := 83) dX6_readAll_82 rfl ?_
      refine x_cV1 eX6_readOneStage kX6_134 sh_43 rfl (Nat.le_of_ble_eq_true rfl) dX6_readAll_83 ?_
      refine (s_readOneStage d hb hf (B := B) (N := N) (K := 0) (ln := ln) (md := md) (kd := kd) (pd := pd) (p := p + 1) (by omega) (by omega) (hQ.sign 4 (fun _ => Nat.le_refl 3))).mono ?_
      rintro rv υ (⟨⟨due, B2, N2, K2, ln2, md2, kd2, pd2⟩, p2, hp2, hL, ⟨e1, e2, e3⟩, rfl, hQ2⟩ | ⟨rfl, q, hq, hqn, hF, hat⟩)
      · show z_At _ _ 86 _ [.int _] _ _
        simp only at e1 e2 e3
        subst e1 e2 e3
        rw [hgo, hL]
        refine x_if_ne (pc2 := 89) (pc3 := 63) dX6_readAll_86 rfl rfl (fun h86 => ?_) (fun h86 => ?_)
        · exact ih (by omega) (by omega) (by omega) hp2 hQ2
        · exact absurd h86 (by decide)
      · show z_At _ _ 86 _ [.int _] _ _
        refine x_if_ne (pc2 := 89) (pc3 := 63) dX6_readAll_86 rfl rfl (fun h86 => ?_) (fun h86 => ?_)
        · exact absurd rfl h86
        refine x_iconst (v := 0) (pc2 := 90) dX6_readAll_89 rfl (by decide) ?_
        refine x_zret dX6_readAll_90 rfl (by first | assumption | exact z_b01 _ | exact Or.inl rfl | exact Or.inr rfl) ?_
        rw [hgo]
        exact Or.inr ⟨q, hq, hqn, rfl, hF, hat⟩
    · rw [if_neg c, decide_eq_false c]
      refine x_if_eq (pc2 := 81) (pc3 := 91) dX6_readAll_78 rfl rfl (fun h78 => ?_) (fun h78 => ?_)
      · exact hend (fun _ h2 h3 => c ⟨by omega, h3⟩)
      · exact absurd rfl h78
theorem s_readAll (d : Nat) {σ : zS} {b0 n : Nat} (hb : b0 + n ≤ 240) (hat : σ.1 43 15 = nI b0) {f : Nat → Int32} (hf : ∀ p, f p = σ.1 46 (b0 + p)) (B : Int32) (ln md kd pd : Nat → Int32) : z_Ex mX6_readAll (d + 3) [.ref 43, .int (nI (b0 + n))] σ (gAll σ b0 n (pLoop f n n 0 (1, B, 0, 0, ln, md, kd, pd))) := by
  refine x_enter (by decide) (Nat.le_of_ble_eq_true rfl) ?_
  show z_At _ _ _ [.ref 43, .int (nI (b0 + n))] _ _ _
  have hQ0 : gQ σ b0 (z_st (z_st σ 43 17 0) 43 18 0) (1, B, 0, 0, ln, md, kd, pd) 0 := by
    have hr : gQf σ σ := ⟨fun _ _ _ _ => rfl, fun _ _ => rfl, rfl⟩
    refine ⟨(hr.at (by decide) _).at (by decide) _, ⟨?_, ?_, ?_, fun q => absurd (show 3 ≤ 1 from q) (by decide)⟩, fun j hj => absurd hj (Nat.not_lt_zero _), fun j hj => absurd hj (Nat.not_lt_zero _)⟩
    · rw [z_st_fld _ _ _ (by decide), z_st_fld _ _ _ (by decide)]; exact hat
    · rw [z_st_fld _ _ _ (by decide), z_st_at]; rfl
    · rw [z_st_at]; rfl
  rw [show pLoop f n n 0 (1, B, 0, 0, ln, md, kd, pd) = pLoop f n (n - 0) 0 (1, B, 0, 0, ln, md, kd, pd) from rfl]
  refine x_aload0 (pc2 := 1) dX6_readAll_0 rfl ?_
  refine x_iconst (v := 0) (pc2 := 2) dX6_readAll_1 rfl (by decide) ?_
  refine x_putI (pc2 := 5) pX6_117 sh_43 rfl dX6_readAll_2 rfl ?_
  refine x_aload0 (pc2 := 6) dX6_readAll_5 rfl ?_
  refine x_iconst (v := 0) (pc2 := 7) dX6_readAll_6 rfl (by decide) ?_
  refine x_putI (pc2 := 10) pX6_120 sh_43 rfl dX6_readAll_7 rfl ?_
  refine x_aload0 (pc2 := 11) dX6_readAll_10 rfl ?_
  refine x_iload1 (pc2 := 12) dX6_readAll_11 rfl ?_
  refine x_bipush (v := 103) (pc2 := 14) dX6_readAll_12 rfl (by decide) ?_
  generalize z_st (z_st σ 43 17 0) 43 18 0 = τ at hQ0 ⊢
  have e46 : ∀ {τ : zS}, gQf σ τ → τ.1 46 = σ.1 46 := fun h => h.1 46 (by decide) (by decide) (by decide)
  refine x_fV2 (pc2 := 17) eX6_isSign kX6_126 sh_43 rfl (Nat.le_of_ble_eq_true rfl) dX6_readAll_14 rfl (s_isSign _ hQ0.2.1.1 (by omega) (by omega) 103) ?_
  rw [e46 hQ0.1, ← hf 0]
  by_cases c : b0 + 0 < b0 + n ∧ f 0 = 103
  rotate_left
  · rw [if_neg c, decide_eq_false c]
    refine x_if_ne (pc2 := 20) (pc3 := 22) dX6_readAll_17 rfl rfl (fun h17 => ?_) (fun h17 => ?_)
    · exact absurd rfl h17
    refine x_iconst (v := 0) (pc2 := 21) dX6_readAll_20 rfl (by decide) ?_
    refine x_zret dX6_readAll_21 rfl (by first | assumption | exact z_b01 _ | exact Or.inl rfl | exact Or.inr rfl) ?_
    refine Or.inr ⟨0, pl_stop (by omega) ?_ (fun q => by have := q.2.1; simp at this), by omega, rfl, hQ0.1, hQ0.2.1.1⟩
    by_cases e : 0 = n
    · exact Or.inl e
    right
    unfold pStep
    simp only [Nat.reduceEqDiff, if_false, if_true, if_neg (show ¬ f 0 = 103 from fun q => c ⟨by omega, q⟩)]
  rw [if_pos c, decide_eq_true c]
  refine x_if_ne (pc2 := 20) (pc3 := 22) dX6_readAll_17 rfl rfl (fun h17 => ?_) (fun h17 => ?_)
  rotate_left
  · exact absurd h17 (by decide)
  have es : pStep (1, B, 0, 0, ln, md, kd, pd) (f 0) = (2, B, 0, 0, ln, md, kd, pd) := by
    unfold pStep
    simp only [Nat.reduceEqDiff, if_false, if_true, if_pos c.2]
  have hgo := pl_go (f := f) (n := n) (s := (1, B, 0, 0, ln, md, kd, pd)) (p := 0) (by omega) (by rw [es]; simp)
  rw [es] at hgo
  rw [hgo]
  have hQ1 := hQ0.sign 2 (fun q => absurd q (Nat.not_succ_le_self 2))
  generalize z_st τ 43 15 (nI (b0 + 0 + 1)) = τ1 at hQ1 ⊢
  refine x_aload0 (pc2 := 23) dX6_readAll_22 rfl ?_
  refine x_aload0 (pc2 := 24) dX6_readAll_23 rfl ?_
  refine x_iload1 (pc2 := 25) dX6_readAll_24 rfl ?_
  refine x_iconst (v := 1) (pc2 := 26) dX6_readAll_25 rfl (by decide) ?_
  refine x_bipush (v := 9) (pc2 := 28) dX6_readAll_26 rfl (by decide) ?_
  refine x_fV3 (pc2 := 31) eX6_digit kX6_130 sh_43 rfl (Nat.le_of_ble_eq_true rfl) dX6_readAll_28 rfl (s_digit _ hQ1.2.1.1 (by omega) (by omega) 1 9) ?_
  rw [e46 hQ1.1, ← hf (0 + 1)]
  have hdig := pDigit_iff (code := f (0 + 1)) (lo := 1) (hi := 9) (by decide) (by decide)
  by_cases c3 : b0 + (0 + 1) < b0 + n ∧ z_wi (f (0 + 1)) (48 + 1) (48 + 9) = true
  rotate_left
  · rw [if_neg c3, if_neg c3]
    refine x_putI (pc2 := 34) pX6_111 sh_43 rfl dX6_readAll_31 rfl ?_
    refine x_aload0 (pc2 := 35) dX6_readAll_34 rfl ?_
    refine x_getI (pc2 := 38) fX6_111 sh_43 rfl dX6_readAll_35 rfl ?_
    rw [z_st_at]
    refine x_bipush (v := -9) (pc2 := 40) dX6_readAll_38 rfl (by decide) ?_
    refine x_icmp_eq (pc2 := 43) (pc3 := 61) dX6_readAll_40 rfl rfl (fun h40 => ?_) (fun h40 => ?_)
    · skip
      refine x_iconst (v := 0) (pc2 := 62) dX6_readAll_61 rfl (by decide) ?_
      refine x_zret dX6_readAll_62 rfl (by first | assumption | exact z_b01 _ | exact Or.inl rfl | exact Or.inr rfl) ?_
      refine Or.inr ⟨0 + 1, pl_stop (by omega) ?_ (fun q => by have := q.2.1; simp at this), by omega, rfl, hQ1.1.at (by decide) _, ?_⟩
      · by_cases e : 0 + 1 = n
        · exact Or.inl e
        right
        have c2 : f (0 + 1) - 48 < 1 ∨ ¬ f (0 + 1) - 48 ≤ 9 := Classical.not_not.mp fun q => c3 ⟨by omega, hdig.mpr q⟩
        unfold pStep
        simp only [Nat.reduceEqDiff, if_false, if_true, if_pos c2]
      · rw [z_st_fld _ _ _ (by decide)]; exact hQ1.2.1.1
    · exact absurd rfl h40
  rw [if_pos c3, if_pos c3]
  have nd := hdig.mp c3.2
  have nd' : ¬ (f (0 + 1) - 48 < 1 ∨ ¬ f (0 + 1) - 48 ≤ 9) := nd
  obtain ⟨l', l1', l2'⟩ := pDigit (by decide) nd (by decide)
  have es2 : pStep (2, B, 0, 0, ln, md, kd, pd) (f (0 + 1)) = (3, f (0 + 1) - 48, 0, 0, ln, md, kd, pd) := by
    unfold pStep
    simp only [Nat.reduceEqDiff, if_false, if_true, if_neg nd']
  have hgo2 := pl_go (f := f) (n := n) (s := (2, B, 0, 0, ln, md, kd, pd)) (p := 0 + 1) (by omega) (by rw [es2]; simp)
  rw [es2] at hgo2
  rw [hgo2]
  refine x_putI (pc2 := 34) pX6_111 sh_43 rfl dX6_readAll_31 rfl ?_
  refine x_aload0 (pc2 := 35) dX6_readAll_34 rfl ?_
  refine x_getI (pc2 := 38) fX6_111 sh_43 rfl dX6_readAll_35 rfl ?_
  rw [z_st_at]
  refine x_bipush (v := -9) (pc2 := 40) dX6_readAll_38 rfl (by decide) ?_
  refine x_icmp_eq (pc2 := 43) (pc3 := 61) dX6_readAll_40 rfl rfl (fun h40 => ?_) (fun h40 => ?_)
  · rw [l2'] at h40
    exact absurd h40 (nI_n9 (by omega))
  have hQ2 : gQ σ b0 (z_st (z_st τ1 43 15 (nI (b0 + (0 + 1) + 1))) 43 16 (f (0 + 1) - 48)) (3, f (0 + 1) - 48, 0, 0, ln, md, kd, pd) (0 + 1 + 1) := by
    have h := hQ1.sign 2 (fun q => absurd q (Nat.not_succ_le_self 2))
    obtain ⟨hF, ⟨q1, q2, q3, q4⟩, q5, q6⟩ := h
    refine ⟨hF.at (by decide) _, ⟨?_, ?_, ?_, fun _ => ?_⟩, fun j hj => absurd hj (Nat.not_lt_zero _), fun j hj => absurd hj (Nat.not_lt_zero _)⟩
    · rw [z_st_fld _ _ _ (by decide)]; exact q1
    · rw [z_st_fld _ _ _ (by decide)]; exact q2
    · rw [z_st_fld _ _ _ (by decide)]; exact q3
    · rw [z_st_at]
  generalize z_st (z_st τ1 43 15 (nI (b0 + (0 + 1) + 1))) 43 16 (f (0 + 1) - 48) = τ2 at hQ2 ⊢
  generalize f (0 + 1) - 48 = B' at hQ2 ⊢
  refine x_aload0 (pc2 := 44) dX6_readAll_43 rfl ?_
  refine x_iload1 (pc2 := 45) dX6_readAll_44 rfl ?_
  refine x_bipush (v := 59) (pc2 := 47) dX6_readAll_45 rfl (by decide) ?_
  refine x_fV2 (pc2 := 50) eX6_isSign kX6_126 sh_43 rfl (Nat.le_of_ble_eq_true rfl) dX6_readAll_47 rfl (s_isSign _ hQ2.2.1.1 (by omega) (by omega) 59) ?_
  rw [e46 hQ2.1, ← hf (0 + 1 + 1)]
  by_cases c4 : b0 + (0 + 1 + 1) < b0 + n ∧ f (0 + 1 + 1) = 59
  rotate_left
  · rw [if_neg c4, decide_eq_false c4]
    refine x_if_eq (pc2 := 53) (pc3 := 61) dX6_readAll_50 rfl rfl (fun h50 => ?_) (fun h50 => ?_)
    rotate_left
    · exact absurd rfl h50
    refine x_iconst (v := 0) (pc2 := 62) dX6_readAll_61 rfl (by decide) ?_
    refine x_zret dX6_readAll_62 rfl (by first | assumption | exact z_b01 _ | exact Or.inl rfl | exact Or.inr rfl) ?_
    refine Or.inr ⟨0 + 1 + 1, pl_stop (by omega) ?_ (fun q => by have := q.2.2; simp at this), by omega, rfl, hQ2.1, hQ2.2.1.1⟩
    by_cases e : 0 + 1 + 1 = n
    · exact Or.inl e
    right
    have x1 : ¬ (f (0 + 1 + 1) = 59 ∧ 0 = 0 ∧ 0 < 3) := fun q => c4 ⟨by omega, q.1⟩
    have x2 : ¬ (f (0 + 1 + 1) = 44 ∧ 0 < 0 ∧ 0 < 4) := fun q => absurd q.2.1 (by decide)
    exact ps3_c x1 x2
  rw [if_pos c4, decide_eq_true c4]
  refine x_if_eq (pc2 := 53) (pc3 := 61) dX6_readAll_50 rfl rfl (fun h50 => ?_) (fun h50 => ?_)
  · exact absurd h50 (by decide)
  have es3 : pStep (3, B', 0, 0, ln, md, kd, pd) (f (0 + 1 + 1)) = (4, B', 0, 0, ln, md, kd, pd) := by
    exact ps3_a ⟨c4.2, rfl, by omega⟩
  have hgo3 := pl_go (f := f) (n := n) (s := (3, B', 0, 0, ln, md, kd, pd)) (p := 0 + 1 + 1) (by omega) (by rw [es3]; simp)
  rw [es3] at hgo3
  rw [hgo3]
  refine x_aload0 (pc2 := 54) dX6_readAll_53 rfl ?_
  refine x_iload1 (pc2 := 55) dX6_readAll_54 rfl ?_
  refine x_cV1 eX6_readOneStage kX6_134 sh_43 rfl (Nat.le_of_ble_eq_true rfl) dX6_readAll_55 ?_
  refine (s_readOneStage d hb hf (B := B') (N := 0) (K := 0) (ln := ln) (md := md) (kd := kd) (pd := pd) (p := 0 + 1 + 1 + 1) (by omega) (by omega) (hQ2.sign 4 (fun _ => Nat.le_refl 3))).mono ?_
  rintro rv υ (⟨⟨due, B2, N2, K2, ln2, md2, kd2, pd2⟩, p2, hp2, hL, ⟨e1, e2, e3⟩, rfl, hQ2⟩ | ⟨rfl, q, hq, hqn, hF, hat⟩)
  · show z_At _ _ 58 _ [.int _] _ _
    simp only at e1 e2 e3
    subst e1 e2 e3
    rw [hL]
    refine x_if_ne (pc2 := 61) (pc3 := 63) dX6_readAll_58 rfl rfl (fun h58 => ?_) (fun h58 => ?_)
    · exact s_rA63 d hb hf _ rfl (by omega) (by omega) hp2 hQ2
    · exact absurd h58 (by decide)
  · show z_At _ _ 58 _ [.int _] _ _
    refine x_if_ne (pc2 := 61) (pc3 := 63) dX6_readAll_58 rfl rfl (fun h58 => ?_) (fun h58 => ?_)
    · exact absurd rfl h58
    refine x_iconst (v := 0) (pc2 := 62) dX6_readAll_61 rfl (by decide) ?_
    refine x_zret dX6_readAll_62 rfl (by first | assumption | exact z_b01 _ | exact Or.inl rfl | exact Or.inr rfl) ?_
    exact Or.inr ⟨q, hq, hqn, rfl, hF, hat⟩
