/-! the class: cost -/
theorem gDrop.dr {σ τ : zS} {c : zG} {t : Nat} (ht : t < cK c) (h : gDr σ c) (hd : gDrop σ τ t (cK c)) : ∃ c', gC 7 τ c' ∧ gEq (cD c t) c' := by
  obtain ⟨c', hC, he⟩ := h
  obtain ⟨⟨a1, a2, a3⟩, ⟨b1, b2⟩, ⟨d1, d2, d3⟩, e1, f1⟩ := hC
  obtain ⟨g1, g2, g3, g4, g5, g6, g7⟩ := he
  obtain ⟨k1, k2, k3, k4, k5⟩ := hd
  refine ⟨(cK c - 1, cN c, 9, τ.1 11, τ.1 12, cLn c', cMd c', cBd c', cB c', cR c'), ⟨⟨k3, ?_, by show 4 ≤ 9; decide⟩, ⟨rfl, rfl⟩, ⟨?_, ?_, ?_⟩, ?_, ?_⟩, rfl, rfl, rfl, fun j hj => ?_, g5, g6, g7⟩
  · rw [k2 2 (by decide), a2]
    show nI (cN c') = nI (cN c)
    rw [g2]
  · rw [k1 (7 + 1) (by decide) (by decide) (by decide)]; exact d1
  · rw [k1 (7 + 2) (by decide) (by decide) (by decide)]; exact d2
  · rw [k1 (7 + 3) (by decide) (by decide) (by decide)]; exact d3
  · rw [k2 0 (by decide)]; exact e1
  · rw [k2 1 (by decide)]; exact f1
  · have hj : j < cK c - 1 := hj
    have := k5 j hj
    have hs : skp t j < cK c := by unfold skp; split <;> omega
    have q := g4 (skp t j) hs
    show cKd c (skp t j) = τ.1 11 j ∧ cPd c (skp t j) = τ.1 12 j
    rw [this.1, this.2, q.1, q.2, ← b1, ← b2]
    exact ⟨rfl, rfl⟩
theorem s_costC (d : Nat) {σ : zS} {c : zG} (t : Int32) (hK : σ.1 1 6 = nI (cK c)) (hK4 : cK c ≤ 4) (hcC : 1 ≤ cK c → gWf c ∧ gC 1 σ c ∧ gCh σ c) (hbd : ∀ j, j < 3 → σ.1 4 j = 0 ∨ σ.1 4 j = 1) : z_Ex mX5_cost (d + 7) [.ref 0, .int t] σ (fun rv τ => gFpd σ τ ∧ (τ.1 0 10 = σ.1 0 10 ∧ τ.1 0 11 = σ.1 0 11) ∧ ((τ = σ ∧ z_rng t (nI (cK c)) = false ∧ rv = some (.int (-1))) ∨ (z_rng t (nI (cK c)) = true ∧ 1 ≤ cK c ∧ gCh τ c ∧ ∃ v, (∀ v', gCo c t.toNatClampNeg v' → v' = v) ∧ rv = some (.int v)))) := by
  have hrf : gFpd σ σ := gFpl.rf.d
  refine x_enter (by decide) (Nat.le_of_ble_eq_true rfl) ?_
  show z_At _ _ _ [.ref 0, .int t, .null] _ _ _
  refine x_aload0 (pc2 := 1) dX5_cost_0 rfl ?_
  refine x_getR (pc2 := 4) fX5_12 sh_0 rfl dX5_cost_1 rfl ?_
  refine x_iload1 (pc2 := 5) dX5_cost_4 rfl ?_
  refine x_fV1 (pc2 := 8) eX0_hasThing kX5_105 sh_1 rfl (Nat.le_of_ble_eq_true rfl) dX5_cost_5 rfl (s_hasThing _ _ z_P1 _) ?_
  rw [hK]
  refine x_if_ne (pc2 := 11) (pc3 := 13) dX5_cost_8 rfl rfl (fun h8 => ?_) (fun h8 => ?_)
  rotate_left
  · rw [z_b0] at h8
    refine x_iconst (v := -1) (pc2 := 12) dX5_cost_11 rfl (by decide) ?_
    refine x_iret dX5_cost_12 rfl ?_
    exact ⟨hrf, ⟨rfl, rfl⟩, Or.inl ⟨rfl, h8, rfl⟩⟩
  rw [z_bn0] at h8
  obtain ⟨tn, htn, et⟩ : ∃ tn, tn < cK c ∧ t = nI tn := by
    have h := h8
    unfold z_rng at h
    rw [Bool.and_eq_true] at h
    have h1 : ¬ t < 0 := by simpa using h.1
    have h2 : ¬ nI (cK c) ≤ t := by simpa using h.2
    obtain ⟨j, hj, rfl⟩ := nI_of h1
    rw [nI_le_iff (by omega) hj] at h2
    exact ⟨j, by omega, rfl⟩
  obtain ⟨hc, hC, hch⟩ := hcC (by omega)
  subst et
  rw [nI_clamp (by omega)]
  have hE := nE_lt hc
  refine x_aload0 (pc2 := 14) dX5_cost_13 rfl ?_
  refine x_getR (pc2 := 17) fX5_12 sh_0 rfl dX5_cost_14 rfl ?_
  refine x_getI (pc2 := 20) fX5_89 sh_1 rfl dX5_cost_17 rfl ?_
  refine x_iconst (v := 1) (pc2 := 21) dX5_cost_20 rfl (by decide) ?_
  rw [hK]
  refine x_icmp_ne (pc2 := 24) (pc3 := 27) dX5_cost_21 rfl rfl (fun h21 => ?_) (fun h21 => ?_)
  rotate_left
  · have hK1 : cK c = 1 := nI_inj (b := 1) (by omega) (by decide) h21
    refine x_bipush (v := -9) (pc2 := 26) dX5_cost_24 rfl (by decide) ?_
    refine x_iret dX5_cost_26 rfl ?_
    refine ⟨hrf, ⟨rfl, rfl⟩, Or.inr ⟨h8, by omega, hch, -9, fun v' hh => ?_, rfl⟩⟩
    obtain ⟨T, q1, q2⟩ := hh
    rcases q2 with q2 | q2
    · exact q2.2
    · exact absurd hK1 q2.2.1
  have hK1 : cK c ≠ 1 := fun q => h21 (by rw [q]; rfl)
  have hK2 : 2 ≤ cK c := by omega
  refine x_aload0 (pc2 := 28) dX5_cost_27 rfl ?_
  refine x_cV0 eX5_makePlan kX5_174 sh_0 rfl (Nat.le_of_ble_eq_true rfl) dX5_cost_28 ?_
  refine (s_makePlan d hc hC hch).mono ?_
  rintro rv τ ⟨rfl, hF, h1011, h9, n, hn8, hpl⟩
  show z_At _ _ 31 _ [] _ _
  have hch1 : gCh τ c := Or.inr ⟨h9, n, hn8, hpl⟩
  generalize hmi : τ.1 0 7 = mi at hpl
  refine x_aload0 (pc2 := 32) dX5_cost_31 rfl ?_
  refine x_getI (pc2 := 35) fX5_177 sh_0 rfl dX5_cost_32 rfl ?_
  refine x_bipush (v := -9) (pc2 := 37) dX5_cost_35 rfl (by decide) ?_
  rw [hmi]
  refine x_icmp_ne (pc2 := 40) (pc3 := 43) dX5_cost_37 rfl rfl (fun h37 => ?_) (fun h37 => ?_)
  rotate_left
  · skip
    refine x_bipush (v := -9) (pc2 := 42) dX5_cost_40 rfl (by decide) ?_
    refine x_iret dX5_cost_42 rfl ?_
    refine ⟨hF.d, h1011, Or.inr ⟨h8, by omega, hch1, -9, fun v' hh => ?_, rfl⟩⟩
    obtain ⟨T, q1, q2⟩ := hh
    have e1 := hpl.1 T q1
    rcases q2 with q2 | q2
    · exact q2.2
    · rw [h37, eM_nI q2.1] at e1
      exact absurd e1.symm (nI_n9 (by omega))
  have hC1 := gC1_fp hC hF
  refine x_aload0 (pc2 := 44) dX5_cost_43 rfl ?_
  refine x_getR (pc2 := 47) fX5_18 sh_0 rfl dX5_cost_44 rfl ?_
  refine x_aload0 (pc2 := 48) dX5_cost_47 rfl ?_
  refine x_getR (pc2 := 51) fX5_12 sh_0 rfl dX5_cost_48 rfl ?_
  refine x_cV1 eX0_become kX5_79 sh_7 rfl (Nat.le_of_ble_eq_true rfl) dX5_cost_51 ?_
  refine (s_become _ (Or.inr ⟨rfl, rfl⟩) (fun j hj => by rw [hF.1 4 (by decide) (by omega)]; exact hbd j hj)).mono ?_
  rintro rv τ2 ⟨rfl, hBc⟩
  show z_At _ _ 54 _ [] _ _
  have hDr := hBc.dr hc hC1
  have e76 : τ2.1 7 6 = nI (cK c) := by
    obtain ⟨c', x1, x2⟩ := hDr
    rw [x1.1.1, ← x2.1]
  refine x_aload0 (pc2 := 55) dX5_cost_54 rfl ?_
  refine x_getR (pc2 := 58) fX5_18 sh_0 rfl dX5_cost_55 rfl ?_
  refine x_iload1 (pc2 := 59) dX5_cost_58 rfl ?_
  refine x_cV1 eX0_dropThing kX5_194 sh_7 rfl (Nat.le_of_ble_eq_true rfl) dX5_cost_59 ?_
  refine (s_dropThing _ e76 hK4 htn).mono ?_
  rintro rv τ3 ⟨rfl, hDp⟩
  show z_At _ _ 62 _ [] _ _
  obtain ⟨c2, hC2, hq2⟩ := hDp.dr htn hDr
  have hcD := cD_wf hc (t := tn) hK2
  have hcw2 := hq2.wf hcD
  refine x_aload0 (pc2 := 63) dX5_cost_62 rfl ?_
  refine x_getR (pc2 := 66) fX5_44 sh_0 rfl dX5_cost_63 rfl ?_
  refine x_aload0 (pc2 := 67) dX5_cost_66 rfl ?_
  refine x_getR (pc2 := 70) fX5_18 sh_0 rfl dX5_cost_67 rfl ?_
  refine x_iconst (v := 0) (pc2 := 71) dX5_cost_70 rfl (by decide) ?_
  refine x_cV2 eX2_least kX5_187 sh_31 rfl (Nat.le_of_ble_eq_true rfl) dX5_cost_71 ?_
  refine (s_least (d + 1) z_P7 (b := false) hcw2 hC2).mono ?_
  rintro rv τ4 ⟨hF4, hR⟩
  obtain ⟨v3, rfl⟩ : ∃ v, rv = some (.int v) := by
    obtain ⟨T, h⟩ := hR
    rcases h with h | ⟨now, O, h, -⟩
    · exact ⟨_, h.1⟩
    · exact ⟨_, h⟩
  show z_At _ _ 74 _ [.int v3] _ _
  have hmin := sR_least hcw2 hR
  have hmin2 : ∀ T, pD (nG (cSM c tn)) 1000000 T → v3 = eM (T (nE (cSM c tn))) := fun T hT => by
    obtain ⟨T', hT', e⟩ := pD_drop hc hK2 htn hT
    have := hmin T' ((hq2.q hcD).D (nG_gr hcD) hT')
    rw [← hq2.e, e] at this
    exact this
  have r0 : τ4.1 0 = τ.1 0 := by rw [hF4.1 0 (by omega), hDp.1 0 (by decide) (by decide) (by decide), hBc.1 0 (by omega)]
  have r42 : τ4.1 42 = τ.1 42 := by rw [hF4.1 42 (by omega), hDp.1 42 (by decide) (by decide) (by decide), hBc.1 42 (by omega)]
  have hFd : gFpd σ τ4 := by
    refine ⟨fun q a1 a2 a3 => ?_, fun j a1 a2 a3 a4 a5 => ?_, ?_⟩
    · rw [hF4.1 q (by omega), hDp.1 q (by omega) (by omega) (by omega), hBc.1 q (by omega), hF.1 q a1 a3]
    · rw [r0, hF.2.1 j a1 a2 a3 a4 a5]
    · rw [hF4.2, hDp.2.2.2.1, hBc.2.1, hF.2.2]
  have hch3 : gCh τ4 c := by
    unfold gCh
    rw [r0, r42]
    exact hch1
  have h1011' : τ4.1 0 10 = σ.1 0 10 ∧ τ4.1 0 11 = σ.1 0 11 := by rw [r0]; exact h1011
  refine x_istore2 (pc2 := 75) dX5_cost_74 rfl rfl ?_
  refine x_iload2 (pc2 := 76) dX5_cost_75 rfl ?_
  refine x_bipush (v := -9) (pc2 := 78) dX5_cost_76 rfl (by decide) ?_
  refine x_icmp_ne (pc2 := 81) (pc3 := 86) dX5_cost_78 rfl rfl (fun h78 => ?_) (fun h78 => ?_)
  rotate_left
  · skip
    refine x_bipush (v := -9) (pc2 := 83) dX5_cost_81 rfl (by decide) ?_
    refine x_goto (pc2 := 96) dX5_cost_83 rfl ?_
    refine x_iret dX5_cost_96 rfl ?_
    refine ⟨hFd, h1011', Or.inr ⟨h8, by omega, hch3, -9, fun v' hh => ?_, rfl⟩⟩
    obtain ⟨T, q1, q2⟩ := hh
    rcases q2 with q2 | ⟨q2, -, T', q3, q4⟩
    · exact q2.2
    · have e2 := hmin2 T' q3
      rcases q4 with q4 | q4
      · exact q4.2
      · rw [h78, eM_nI q4.1] at e2
        exact absurd e2.symm (nI_n9 (by omega))
  · skip
    refine x_aload0 (pc2 := 87) dX5_cost_86 rfl ?_
    refine x_getI (pc2 := 90) fX5_177 sh_0 rfl dX5_cost_87 rfl ?_
    rw [r0, hmi]
    refine x_iload2 (pc2 := 91) dX5_cost_90 rfl ?_
    refine x_isub (pc2 := 92) dX5_cost_91 rfl ?_
    refine x_sipush (v := 1000) (pc2 := 95) dX5_cost_92 rfl (by decide) ?_
    refine x_iadd (pc2 := 96) dX5_cost_95 rfl ?_
    refine x_iret dX5_cost_96 rfl ?_
    refine ⟨hFd, h1011', Or.inr ⟨h8, by omega, hch3, _, fun v' hh => ?_, rfl⟩⟩
    obtain ⟨T, q1, q2⟩ := hh
    have e1 := hpl.1 T q1
    rcases q2 with ⟨q2 | q2, -⟩ | ⟨q2, -, T', q3, q4⟩
    · rw [q2] at e1; exact absurd e1 h37
    · exact absurd q2 hK1
    · have e2 := hmin2 T' q3
      rcases q4 with q4 | q4
      · rw [q4.1] at e2; exact absurd e2 h78
      · rw [eM_nI q2] at e1
        rw [eM_nI q4.1] at e2
        rw [e1, e2]
        exact q4.2
