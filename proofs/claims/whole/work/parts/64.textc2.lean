/-! readCode, clear, readText -/
def pInv (s : zP) : Prop := (1 ≤ s.1 ∧ s.1 ≤ 7) ∧ (s.2.2.1 ≤ 3 ∧ s.2.2.2.1 ≤ 4) ∧ (s.1 = 4 ∨ s.1 = 5 → s.2.2.1 < 3) ∧ (s.1 = 6 ∨ s.1 = 7 → s.2.2.2.1 < 4)
theorem pInv_step {s : zP} (h : pInv s) (code : Int32) (h0 : (pStep s code).1 ≠ 0) : pInv (pStep s code) := by
  obtain ⟨due, B, N, K, ln, md, kd, pd⟩ := s
  obtain ⟨⟨i1, i2⟩, ⟨i3, i4⟩, i5, i6⟩ := h
  simp only at i1 i2 i3 i4 i5 i6
  unfold pStep at h0 ⊢
  simp only at h0 ⊢
  rcases (show due = 1 ∨ due = 2 ∨ due = 3 ∨ due = 4 ∨ due = 5 ∨ due = 6 ∨ due = 7 by omega) with rfl | rfl | rfl | rfl | rfl | rfl | rfl
  · simp only [if_true] at h0 ⊢
    split at h0
    · rename_i e; simp only [if_pos e]; exact ⟨by simp, ⟨i3, i4⟩, by simp, by simp⟩
    · exact absurd rfl h0
  · simp only [Nat.reduceEqDiff, if_false, if_true] at h0 ⊢
    split at h0
    · exact absurd rfl h0
    · rename_i e; simp only [if_neg e]; exact ⟨by simp, ⟨i3, i4⟩, by simp, by simp⟩
  · simp only [Nat.reduceEqDiff, if_false, if_true] at h0 ⊢
    by_cases e : code = 59 ∧ K = 0 ∧ N < 3
    · simp only [if_pos e]; exact ⟨by simp, ⟨i3, i4⟩, fun _ => e.2.2, by simp⟩
    · simp only [if_neg e] at h0 ⊢
      by_cases e2 : code = 44 ∧ 0 < N ∧ K < 4
      · simp only [if_pos e2]; exact ⟨by simp, ⟨i3, i4⟩, by simp, fun _ => e2.2.2⟩
      · simp only [if_neg e2] at h0; exact absurd rfl h0
  · simp only [Nat.reduceEqDiff, if_false, if_true] at h0 ⊢
    split at h0
    · exact absurd rfl h0
    · rename_i e; simp only [if_neg e]; exact ⟨by simp, ⟨i3, i4⟩, fun _ => i5 (Or.inl rfl), by simp⟩
  · simp only [Nat.reduceEqDiff, if_false, if_true] at h0 ⊢
    split at h0
    · exact absurd rfl h0
    · rename_i e; simp only [if_neg e]; have := i5 (Or.inr rfl); exact ⟨by simp, ⟨by show N + 1 ≤ 3; omega, i4⟩, by simp, by simp⟩
  · simp only [Nat.reduceEqDiff, if_false, if_true] at h0 ⊢
    split at h0
    · exact absurd rfl h0
    · rename_i e; simp only [if_neg e]; exact ⟨by simp, ⟨i3, i4⟩, by simp, fun _ => i6 (Or.inl rfl)⟩
  · simp only [Nat.reduceEqDiff, if_false, if_true] at h0 ⊢
    split at h0
    · exact absurd rfl h0
    · rename_i e; simp only [if_neg e]; have := i6 (Or.inr rfl); exact ⟨by simp, ⟨i3, by show K + 1 ≤ 4; omega⟩, by simp, by simp⟩
theorem s_readCode (d : Nat) {σ τ : zS} {s : zP} (hI : pInv s) (hP : gPr σ τ s) (code : Int32) : z_Ex mX0_readCode (d + 2) [.ref 7, .int (nI s.1), .int code] τ (fun rv τ' => rv = some (.int (nI (pStep s code).1)) ∧ gPr σ τ' (pStep s code)) := by
  obtain ⟨due, B, N, K, ln, md, kd, pd⟩ := s
  obtain ⟨⟨i1, i2⟩, ⟨i3, i4⟩, i5, i6⟩ := hI
  simp only at i1 i2 i3 i4 i5 i6
  have hP0 := hP
  obtain ⟨⟨p1, p2, p3⟩, ⟨p4, p5, p6, p7⟩, p8, p9, p10⟩ := hP
  simp only at p1 p2 p3 p4 p5 p6 p7
  show z_Ex _ _ [.ref 7, .int (nI due), .int code] _ _
  refine x_enter (by decide) (Nat.le_of_ble_eq_true rfl) ?_
  show z_At _ _ _ [.ref 7, .int (nI due), .int code] _ _ _
  have heq : ∀ k, k < 8 → (nI due = nI k ↔ due = k) := fun k hk => nI_eq_iff (by omega) (by omega)
  refine x_iload1 (pc2 := 1) dX0_readCode_0 rfl ?_
  refine x_lk3 (k1 := 1) (k2 := 3) (k3 := 6) (p0 := 60) (p1 := 36) (p2 := 48) (p3 := 54) dX0_readCode_1 (by decide) (by decide) (by decide) (by decide) (by decide) rfl rfl rfl rfl (fun h1 => ?_) (fun h1 => ?_) (fun h1 => ?_) (fun h1_1 h1_2 h1_3 => ?_)
  · obtain rfl : due = 1 := (heq 1 (by decide)).mp h1
    refine x_iload2 (pc2 := 37) dX0_readCode_36 rfl ?_
    refine x_bipush (v := 103) (pc2 := 39) dX0_readCode_37 rfl (by decide) ?_
    refine x_icmp_ne (pc2 := 42) (pc3 := 46) dX0_readCode_39 rfl rfl (fun h39 => ?_) (fun h39 => ?_)
    · skip
      refine x_iconst (v := 0) (pc2 := 47) dX0_readCode_46 rfl (by decide) ?_
      refine x_iret dX0_readCode_47 rfl ?_
      have e : pStep (1, B, N, K, ln, md, kd, pd) code = (0, B, N, K, ln, md, kd, pd) := by simp [pStep, h39]
      rw [e]
      exact ⟨rfl, hP0⟩
    · skip
      refine x_iconst (v := 2) (pc2 := 43) dX0_readCode_42 rfl (by decide) ?_
      refine x_goto (pc2 := 47) dX0_readCode_43 rfl ?_
      refine x_iret dX0_readCode_47 rfl ?_
      have e : pStep (1, B, N, K, ln, md, kd, pd) code = (2, B, N, K, ln, md, kd, pd) := by simp [pStep, h39]
      rw [e]
      exact ⟨rfl, hP0⟩
  · obtain rfl : due = 3 := (heq 3 (by decide)).mp h1
    refine x_aload0 (pc2 := 49) dX0_readCode_48 rfl ?_
    refine x_iload2 (pc2 := 50) dX0_readCode_49 rfl ?_
    refine x_fV1 (pc2 := 53) eX0_startPart kX0_57 sh_7 rfl (Nat.le_of_ble_eq_true rfl) dX0_readCode_50 rfl (s_startPart _ p2 p3 i3 i4 _) ?_
    refine x_iret dX0_readCode_53 rfl ?_
    exact ⟨rfl, hP0⟩
  · obtain rfl : due = 6 := (heq 6 (by decide)).mp h1
    refine x_aload0 (pc2 := 55) dX0_readCode_54 rfl ?_
    refine x_iload2 (pc2 := 56) dX0_readCode_55 rfl ?_
    refine x_fV1 (pc2 := 59) eX0_readKind kX0_61 sh_7 rfl (Nat.le_of_ble_eq_true rfl) dX0_readCode_56 rfl (s_readKind _ p3 (i6 (Or.inl rfl)) _) ?_
    refine x_iret dX0_readCode_59 rfl ?_
    by_cases e : pKd code = -9
    · have e2 : pStep (6, B, N, K, ln, md, kd, pd) code = (0, B, N, K, ln, md, kd, pd) := by simp [pStep, e]
      rw [e2, if_pos e, if_pos e]
      exact ⟨rfl, hP0⟩
    · have e2 : pStep (6, B, N, K, ln, md, kd, pd) code = (7, B, N, K, ln, md, upd kd K (pKd code), pd) := by simp [pStep, e]
      rw [e2, if_neg e, if_neg e]
      refine ⟨rfl, ⟨?_, ?_, ?_⟩, ⟨?_, ?_, ?_, ?_⟩, fun q a1 a2 a3 a4 a5 => ?_, ?_, p10⟩
      · rw [z_st_row _ _ _ (by decide)]; exact p1
      · rw [z_st_row _ _ _ (by decide)]; exact p2
      · rw [z_st_row _ _ _ (by decide)]; exact p3
      · rw [z_st_row _ _ _ (by decide)]; exact p4
      · rw [z_st_row _ _ _ (by decide)]; exact p5
      · rw [z_st_rowS, p6]
      · rw [z_st_row _ _ _ (by decide)]; exact p7
      · rw [z_st_row _ _ _ a4]; exact p8 q a1 a2 a3 a4 a5
      · rw [z_st_row _ _ _ (by decide)]; exact p9
  · have d1 : due ≠ 1 := fun e => h1_1 ((heq 1 (by decide)).mpr e)
    have d3 : due ≠ 3 := fun e => h1_2 ((heq 3 (by decide)).mpr e)
    have d6 : due ≠ 6 := fun e => h1_3 ((heq 6 (by decide)).mpr e)
    have hdue : due = 2 ∨ due = 4 ∨ due = 5 ∨ due = 7 := by omega
    refine x_aload0 (pc2 := 61) dX0_readCode_60 rfl ?_
    refine x_iload1 (pc2 := 62) dX0_readCode_61 rfl ?_
    refine x_iload2 (pc2 := 63) dX0_readCode_62 rfl ?_
    refine x_bipush (v := 48) (pc2 := 65) dX0_readCode_63 rfl (by decide) ?_
    refine x_isub (pc2 := 66) dX0_readCode_65 rfl ?_
    refine x_fV2 (pc2 := 69) eX0_readDigit kX0_64 sh_7 rfl (Nat.le_of_ble_eq_true rfl) dX0_readCode_66 rfl (s_readDigit _ p2 p3 hdue i5 (fun q => i6 (Or.inr q)) _) ?_
    refine x_iret dX0_readCode_69 rfl ?_
    by_cases e : pDg due (code - 48) = false
    · have e2 : pStep (due, B, N, K, ln, md, kd, pd) code = (0, B, N, K, ln, md, kd, pd) := by
        unfold pDg at e
        unfold pStep
        simp only [d1, d3, d6, if_false]
        by_cases e5 : due = 5
        · rw [if_pos e5] at e ⊢
          rw [if_pos]
          by_cases q : code - 48 < 0
          · exact Or.inl q
          · exact Or.inr (fun h => by rw [decide_eq_false q, decide_eq_true h] at e; exact absurd e (by decide))
        · rw [if_neg e5] at e ⊢
          rw [if_pos]
          by_cases q : code - 48 < 1
          · exact Or.inl q
          · exact Or.inr (fun h => by rw [decide_eq_false q, decide_eq_true h] at e; exact absurd e (by decide))
      rw [e2, if_pos e, if_pos e]
      exact ⟨rfl, hP0⟩
    · rw [if_neg e, if_neg e]
      unfold pDg at e
      rcases hdue with rfl | rfl | rfl | rfl
      · have e2 : pStep (2, B, N, K, ln, md, kd, pd) code = (3, code - 48, N, K, ln, md, kd, pd) := by
          have e' : ¬ (code - 48 < 1 ∨ ¬ code - 48 ≤ 9) := by simpa using e
          unfold pStep
          simp only [Nat.reduceEqDiff, if_false, if_true, if_neg e']
        rw [e2]
        refine ⟨rfl, ⟨z_st_at _ _ _ _, ?_, ?_⟩, ⟨?_, ?_, ?_, ?_⟩, fun q a1 a2 a3 a4 a5 => ?_, ?_, p10⟩
        · exact (z_st_fld _ _ _ (by decide)).trans p2
        · exact (z_st_fld _ _ _ (by decide)).trans p3
        · exact (z_st_row _ _ _ (by decide)).trans p4
        · exact (z_st_row _ _ _ (by decide)).trans p5
        · exact (z_st_row _ _ _ (by decide)).trans p6
        · exact (z_st_row _ _ _ (by decide)).trans p7
        · exact (z_st_row _ _ _ a1).trans (p8 q a1 a2 a3 a4 a5)
        · exact (z_st_fld _ _ _ (by decide)).trans p9
      · have e2 : pStep (4, B, N, K, ln, md, kd, pd) code = (5, B, N, K, upd ln N (code - 48), md, kd, pd) := by
          have e' : ¬ (code - 48 < 1 ∨ ¬ code - 48 ≤ 9) := by simpa using e
          unfold pStep
          simp only [Nat.reduceEqDiff, if_false, if_true, if_neg e']
        rw [e2]
        refine ⟨rfl, ⟨?_, ?_, ?_⟩, ⟨?_, ?_, ?_, ?_⟩, fun q a1 a2 a3 a4 a5 => ?_, ?_, p10⟩
        · exact (congrFun (z_st_row _ _ _ (by decide)) _).trans p1
        · exact (congrFun (z_st_row _ _ _ (by decide)) _).trans p2
        · exact (congrFun (z_st_row _ _ _ (by decide)) _).trans p3
        · exact (z_st_rowS _ _ _ _).trans (by rw [p4])
        · exact (z_st_row _ _ _ (by decide)).trans p5
        · exact (z_st_row _ _ _ (by decide)).trans p6
        · exact (z_st_row _ _ _ (by decide)).trans p7
        · exact (z_st_row _ _ _ a2).trans (p8 q a1 a2 a3 a4 a5)
        · exact (congrFun (z_st_row _ _ _ (by decide)) _).trans p9
      · have e2 : pStep (5, B, N, K, ln, md, kd, pd) code = (3, B, N + 1, K, ln, upd md N (code - 48), kd, pd) := by
          have e' : ¬ (code - 48 < 0 ∨ ¬ code - 48 ≤ 4) := by simpa using e
          unfold pStep
          simp only [Nat.reduceEqDiff, if_false, if_true, if_neg e']
        rw [e2]
        refine ⟨rfl, ⟨?_, z_st_at _ _ _ _, ?_⟩, ⟨?_, ?_, ?_, ?_⟩, fun q a1 a2 a3 a4 a5 => ?_, ?_, p10⟩
        · exact (z_st_fld _ _ _ (by decide)).trans ((congrFun (z_st_row _ _ _ (by decide)) _).trans p1)
        · exact (z_st_fld _ _ _ (by decide)).trans ((congrFun (z_st_row _ _ _ (by decide)) _).trans p3)
        · exact (z_st_row _ _ _ (by decide)).trans ((z_st_row _ _ _ (by decide)).trans p4)
        · exact (z_st_row _ _ _ (by decide)).trans ((z_st_rowS _ _ _ _).trans (by rw [p5]))
        · exact (z_st_row _ _ _ (by decide)).trans ((z_st_row _ _ _ (by decide)).trans p6)
        · exact (z_st_row _ _ _ (by decide)).trans ((z_st_row _ _ _ (by decide)).trans p7)
        · exact (z_st_row _ _ _ a1).trans ((z_st_row _ _ _ a3).trans (p8 q a1 a2 a3 a4 a5))
        · exact (z_st_fld _ _ _ (by decide)).trans ((congrFun (z_st_row _ _ _ (by decide)) _).trans p9)
      · have e2 : pStep (7, B, N, K, ln, md, kd, pd) code = (3, B, N, K + 1, ln, md, kd, upd pd K (code - 48)) := by
          have e' : ¬ (code - 48 < 1 ∨ ¬ code - 48 ≤ 9) := by simpa using e
          unfold pStep
          simp only [Nat.reduceEqDiff, if_false, if_true, if_neg e']
        rw [e2]
        refine ⟨rfl, ⟨?_, ?_, z_st_at _ _ _ _⟩, ⟨?_, ?_, ?_, ?_⟩, fun q a1 a2 a3 a4 a5 => ?_, ?_, p10⟩
        · exact (z_st_fld _ _ _ (by decide)).trans ((congrFun (z_st_row _ _ _ (by decide)) _).trans p1)
        · exact (z_st_fld _ _ _ (by decide)).trans ((congrFun (z_st_row _ _ _ (by decide)) _).trans p2)
        · exact (z_st_row _ _ _ (by decide)).trans ((z_st_row _ _ _ (by decide)).trans p4)
        · exact (z_st_row _ _ _ (by decide)).trans ((z_st_row _ _ _ (by decide)).trans p5)
        · exact (z_st_row _ _ _ (by decide)).trans ((z_st_row _ _ _ (by decide)).trans p6)
        · exact (z_st_row _ _ _ (by decide)).trans ((z_st_rowS _ _ _ _).trans (by rw [p7]))
        · exact (z_st_row _ _ _ a1).trans ((z_st_row _ _ _ a5).trans (p8 q a1 a2 a3 a4 a5))
        · exact (z_st_fld _ _ _ (by decide)).trans ((congrFun (z_st_row _ _ _ (by decide)) _).trans p9)

/-- the whole text: none: it is one; some p: its first fault -/
def pLoop (f : Nat → Int32) (n : Nat) : Nat → Nat → zP → Option Nat × zP
  | 0, _, s => (if s.1 = 3 ∧ 0 < s.2.2.2.1 then none else some n, s)
  | m + 1, p, s => if (pStep s (f p)).1 = 0 then (some p, pStep s (f p)) else pLoop f n m (p + 1) (pStep s (f p))
theorem s_clear (d : Nat) (σ : zS) : z_Pr mX0_clear d [.ref 7] σ (z_fill (z_st (z_st (z_st (z_st σ 7 0 0) 7 1 (-9)) 7 2 0) 7 6 0) 10 3 0) := by
  refine x_enter (by decide) (Nat.le_of_ble_eq_true rfl) ?_
  show z_At _ _ _ [.ref 7, .null] _ _ _
  refine x_aload0 (pc2 := 1) dX0_clear_0 rfl ?_
  refine x_iconst (v := 0) (pc2 := 2) dX0_clear_1 rfl (by decide) ?_
  refine x_putI (pc2 := 5) pX0_42 sh_7 rfl dX0_clear_2 rfl ?_
  refine x_aload0 (pc2 := 6) dX0_clear_5 rfl ?_
  refine x_bipush (v := -9) (pc2 := 8) dX0_clear_6 rfl (by decide) ?_
  refine x_putI (pc2 := 11) pX0_9 sh_7 rfl dX0_clear_8 rfl ?_
  refine x_aload0 (pc2 := 12) dX0_clear_11 rfl ?_
  refine x_iconst (v := 0) (pc2 := 13) dX0_clear_12 rfl (by decide) ?_
  refine x_putI (pc2 := 16) pX0_32 sh_7 rfl dX0_clear_13 rfl ?_
  refine x_aload0 (pc2 := 17) dX0_clear_16 rfl ?_
  refine x_iconst (v := 0) (pc2 := 18) dX0_clear_17 rfl (by decide) ?_
  refine x_putI (pc2 := 21) pX0_39 sh_7 rfl dX0_clear_18 rfl ?_
  refine x_iconst (v := 0) (pc2 := 22) dX0_clear_21 rfl (by decide) ?_
  refine x_istore1 (pc2 := 23) dX0_clear_22 rfl rfl ?_
  generalize z_st (z_st (z_st (z_st σ 7 0 0) 7 1 (-9)) 7 2 0) 7 6 0 = τ
  suffices h : ∀ m k, k + m = 3 → z_At mX0_clear d 23 [.ref 7, .int (nI k)] [] (z_fill τ 10 k 0) (fun rv σ' => rv = none ∧ σ' = z_fill τ 10 3 0) by
    have := h 3 0 (by omega)
    rw [z_fill_0] at this
    exact this
  intro m
  induction m with
  | zero =>
    intro k hk
    obtain rfl : k = 3 := by omega
    refine x_iload1 (pc2 := 24) dX0_clear_23 rfl ?_
    refine x_iconst (v := 3) (pc2 := 25) dX0_clear_24 rfl (by decide) ?_
    refine x_icmp_ge (pc2 := 28) (pc3 := 41) dX0_clear_25 rfl rfl (fun h25 => ?_) (fun h25 => ?_)
    · skip
      refine x_vret dX0_clear_41 rfl ?_
      exact ⟨rfl, rfl⟩
    · exact absurd (by decide) h25
  | succ m ih =>
    intro k hk
    refine x_iload1 (pc2 := 24) dX0_clear_23 rfl ?_
    refine x_iconst (v := 3) (pc2 := 25) dX0_clear_24 rfl (by decide) ?_
    refine x_icmp_ge (pc2 := 28) (pc3 := 41) dX0_clear_25 rfl rfl (fun h25 => ?_) (fun h25 => ?_)
    · exact absurd h25 (nI_ge (a := k) (b := 3) (by omega) (by decide))
    · skip
      refine x_aload0 (pc2 := 29) dX0_clear_28 rfl ?_
      refine x_getR (pc2 := 32) fX0_22 sh_7 rfl dX0_clear_29 rfl ?_
      refine x_iload1 (pc2 := 33) dX0_clear_32 rfl ?_
      refine x_iconst (v := 0) (pc2 := 34) dX0_clear_33 rfl (by decide) ?_
      refine x_zast (pc2 := 35) sh_10 (by exact z_in (by omega)) (by exact Or.inl rfl) dX0_clear_34 rfl ?_
      refine x_iinc1 (pc2 := 38) dX0_clear_35 rfl (z_inc1 _) rfl ?_
      refine x_goto (pc2 := 23) dX0_clear_38 rfl ?_
      rw [← nI_succ, nI_clamp (by omega), z_fill_s]
      exact ih (k + 1) (by omega)
theorem s_readText (d : Nat) {σ : zS} {r : Nat} (hf : z_isS r) {b n : Nat} (hbn : b + n ≤ 60) : z_Ex mX0_readText (d + 3) [.ref 7, .ref r, .int (nI b), .int (nI n)] σ (fun rv τ => rv = some (.int (wR (pLoop (fun p => σ.1 (r + 4) (b + p)) n n 0 (1, 0, 0, 0, σ.1 8, σ.1 9, σ.1 11, σ.1 12)).1)) ∧ gPr (z_fill (z_st σ 7 1 (-9)) 10 3 0) τ (pLoop (fun p => σ.1 (r + 4) (b + p)) n n 0 (1, 0, 0, 0, σ.1 8, σ.1 9, σ.1 11, σ.1 12)).2) := by
  have hr1 : r + 4 ≠ 7 ∧ r + 4 ≠ 8 ∧ r + 4 ≠ 9 ∧ r + 4 ≠ 11 ∧ r + 4 ≠ 12 ∧ r + 4 ≠ 10 := by rcases hf with rfl | rfl | rfl | rfl <;> decide
  refine x_enter (by decide) (Nat.le_of_ble_eq_true rfl) ?_
  show z_At _ _ _ [.ref 7, .ref r, .int (nI b), .int (nI n), .null, .null] _ _ _
  refine x_aload0 (pc2 := 1) dX0_readText_0 rfl ?_
  refine x_pV0 (pc2 := 4) eX0_clear kX0_45 sh_7 rfl (Nat.le_of_ble_eq_true rfl) dX0_readText_1 rfl (s_clear _ _) ?_
  refine x_iconst (v := 1) (pc2 := 5) dX0_readText_4 rfl (by decide) ?_
  refine x_istore4 (pc2 := 7) dX0_readText_5 rfl rfl ?_
  refine x_iconst (v := 0) (pc2 := 8) dX0_readText_7 rfl (by decide) ?_
  refine x_istore5 (pc2 := 10) dX0_readText_8 rfl rfl ?_
  have h0 : gPr (z_fill (z_st σ 7 1 (-9)) 10 3 0) (z_fill (z_st (z_st (z_st (z_st σ 7 0 0) 7 1 (-9)) 7 2 0) 7 6 0) 10 3 0) (1, 0, 0, 0, σ.1 8, σ.1 9, σ.1 11, σ.1 12) := by
    refine ⟨⟨rfl, rfl, rfl⟩, ⟨rfl, rfl, rfl, rfl⟩, fun q a1 a2 a3 a4 a5 => ?_, rfl, rfl⟩
    by_cases e : q = 10
    · subst e; rfl
    · simp [z_fill, z_up, z_st, e, a1]
  generalize hs0 : ((1, 0, 0, 0, σ.1 8, σ.1 9, σ.1 11, σ.1 12) : zP) = s0 at h0 ⊢
  have hi0 : pInv s0 := by rw [← hs0]; exact ⟨by simp, by simp, by simp, by simp⟩
  have hd0 : s0.1 = 1 := by rw [← hs0]
  clear hs0
  generalize z_fill (z_st (z_st (z_st (z_st σ 7 0 0) 7 1 (-9)) 7 2 0) 7 6 0) 10 3 0 = τ0 at h0 ⊢
  suffices h : ∀ m p, p + m = n → ∀ s τ, pInv s → gPr (z_fill (z_st σ 7 1 (-9)) 10 3 0) τ s → z_At mX0_readText (d + 3) 10 [.ref 7, .ref r, .int (nI b), .int (nI n), .int (nI s.1), .int (nI p)] [] τ (fun rv τ => rv = some (.int (wR (pLoop (fun p => σ.1 (r + 4) (b + p)) n m p s).1)) ∧ gPr (z_fill (z_st σ 7 1 (-9)) 10 3 0) τ (pLoop (fun p => σ.1 (r + 4) (b + p)) n m p s).2) by
    have := h n 0 (by omega) s0 τ0 hi0 h0
    rw [hd0] at this
    exact this
  clear hi0 hd0 h0
  intro m
  induction m with
  | zero =>
    intro p hp s τ hI hP
    obtain rfl : p = n := by omega
    have e3 : (nI s.1 : Int32) = 3 ↔ s.1 = 3 := nI_eq_iff (b := 3) (by have := hI.1; omega) (by decide)
    have e0 : (nI s.2.2.2.1 : Int32) ≤ 0 ↔ s.2.2.2.1 ≤ 0 := nI_le_iff (b := 0) (by have := hI.2.1; omega) (by decide)
    rw [pLoop]
    refine x_iload5 (pc2 := 12) dX0_readText_10 rfl ?_
    refine x_iload3 (pc2 := 13) dX0_readText_12 rfl ?_
    refine x_icmp_ge (pc2 := 16) (pc3 := 47) dX0_readText_13 rfl rfl (fun h13 => ?_) (fun h13 => ?_)
    rotate_left
    · exact absurd (Int32.le_refl _) h13
    refine x_iload4 (pc2 := 49) dX0_readText_47 rfl ?_
    refine x_iconst (v := 3) (pc2 := 50) dX0_readText_49 rfl (by decide) ?_
    refine x_icmp_ne (pc2 := 53) (pc3 := 65) dX0_readText_50 rfl rfl (fun h50 => ?_) (fun h50 => ?_)
    · rw [e3] at h50
      refine x_iload3 (pc2 := 66) dX0_readText_65 rfl ?_
      refine x_iret dX0_readText_66 rfl ?_
      rw [if_neg (fun q => h50 q.1)]
      exact ⟨rfl, hP⟩
    · rw [e3] at h50
      refine x_aload0 (pc2 := 54) dX0_readText_53 rfl ?_
      refine x_getI (pc2 := 57) fX0_39 sh_7 rfl dX0_readText_54 rfl ?_
      rw [hP.1.2.2]
      refine x_if_le (pc2 := 60) (pc3 := 65) dX0_readText_57 rfl rfl (fun h57 => ?_) (fun h57 => ?_)
      · rw [e0] at h57
        refine x_iload3 (pc2 := 66) dX0_readText_65 rfl ?_
        refine x_iret dX0_readText_66 rfl ?_
        rw [if_neg (fun q => by omega)]
        exact ⟨rfl, hP⟩
      · rw [e0] at h57
        refine x_bipush (v := -9) (pc2 := 62) dX0_readText_60 rfl (by decide) ?_
        refine x_goto (pc2 := 66) dX0_readText_62 rfl ?_
        refine x_iret dX0_readText_66 rfl ?_
        rw [if_pos ⟨h50, by omega⟩]
        exact ⟨rfl, hP⟩
  | succ m ih =>
    intro p hp s τ hI hP
    refine x_iload5 (pc2 := 12) dX0_readText_10 rfl ?_
    refine x_iload3 (pc2 := 13) dX0_readText_12 rfl ?_
    refine x_icmp_ge (pc2 := 16) (pc3 := 47) dX0_readText_13 rfl rfl (fun h13 => ?_) (fun h13 => ?_)
    · exact absurd h13 (nI_ge (by omega) (by omega))
    refine x_aload0 (pc2 := 17) dX0_readText_16 rfl ?_
    refine x_iload4 (pc2 := 19) dX0_readText_17 rfl ?_
    refine x_aload1 (pc2 := 20) dX0_readText_19 rfl ?_
    refine x_getR (pc2 := 23) fX0_48 (sh_S hf) rfl dX0_readText_20 rfl ?_
    refine x_iload2 (pc2 := 24) dX0_readText_23 rfl ?_
    refine x_iload5 (pc2 := 26) dX0_readText_24 rfl ?_
    refine x_iadd (pc2 := 27) dX0_readText_26 rfl ?_
    rw [z_nIadd]
    refine x_iald (pc2 := 28) (sh_S1 hf) (by exact z_in (by omega)) dX0_readText_27 rfl ?_
    have ecell : τ.1 (r + 4) = σ.1 (r + 4) := by
      rw [hP.2.2.1 _ hr1.1 hr1.2.1 hr1.2.2.1 hr1.2.2.2.1 hr1.2.2.2.2.1]
      simp [z_fill, z_up, z_st, hr1.2.2.2.2.2, hr1.1]
    rw [nI_clamp (by omega), ecell]
    refine x_cV2 eX0_readCode kX0_53 sh_7 rfl (Nat.le_of_ble_eq_true rfl) dX0_readText_28 ?_
    refine (s_readCode d hI hP _).mono ?_
    rintro rv τ' ⟨rfl, hP'⟩
    show z_At _ _ 31 _ [.int _] _ _
    rw [pLoop]
    generalize hs1 : pStep s (σ.1 (r + 4) (b + p)) = s1 at hP' ⊢
    have hle : s1.1 ≤ 7 := by
      by_cases q : s1.1 = 0
      · omega
      · rw [← hs1] at q ⊢
        exact (pInv_step hI _ q).1.2
    have e0 : (nI s1.1 : Int32) = 0 ↔ s1.1 = 0 := nI_eq_iff (b := 0) (by omega) (by decide)
    refine x_istore4 (pc2 := 33) dX0_readText_31 rfl rfl ?_
    refine x_iload4 (pc2 := 35) dX0_readText_33 rfl ?_
    refine x_if_ne (pc2 := 38) (pc3 := 41) dX0_readText_35 rfl rfl (fun h35 => ?_) (fun h35 => ?_)
    · rw [e0] at h35
      rw [if_neg h35]
      refine x_iinc5 (pc2 := 44) dX0_readText_41 rfl (z_inc1 _) rfl ?_
      refine x_goto (pc2 := 10) dX0_readText_44 rfl ?_
      rw [← nI_succ]
      exact ih (p + 1) (by omega) s1 τ' (by rw [← hs1]; exact pInv_step hI _ (by rw [hs1]; exact h35)) hP'
    · rw [e0] at h35
      rw [if_pos h35]
      refine x_iload5 (pc2 := 40) dX0_readText_38 rfl ?_
      refine x_iret dX0_readText_40 rfl ?_
      exact ⟨rfl, hP'⟩
