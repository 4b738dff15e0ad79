/-! the model: cost, help -/
def cSB (c : zG) (b : Int32) : zG := (cK c, cN c, cM c, cKd c, cPd c, cLn c, cMd c, cBd c, b, cR c)
def cSM (c : zG) (m : Nat) : zG := (cK c, cN c, m, cKd c, cPd c, cLn c, cMd c, cBd c, cB c, cR c)
theorem cSB_wf {c : zG} (h : gWf c) {b : Nat} (hb : b ≤ 72) : gWf (cSB c (nI b)) := by
  obtain ⟨h1, h2, h3, h4, h5, h6, h7, h8, h9⟩ := h
  exact ⟨h1, h2, h3, h4, h5, h6, h7, ⟨b, hb, rfl⟩, h9⟩
theorem cSM_wf {c : zG} (h : gWf c) (m : Nat) : gWf (cSM c m) := h
/-- what help answers -/
def gHe (c : zG) (w v : Int32) : Prop := ∃ T T', pD (nG c) 1000000 T ∧ pD (nG (cSB c (cB c + w))) 1000000 T' ∧ ((T (nE c) = 1000000 ∨ T' (nE c) = 1000000) ∧ v = -9 ∨ (T (nE c) < 1000000 ∧ T' (nE c) < 1000000 ∧ v = nI (T (nE c)) - nI (T' (nE c))))
/-- what cost answers -/
def gCo (c : zG) (t : Nat) (v : Int32) : Prop := ∃ T, pD (nG c) 1000000 T ∧ ((T (nE c) = 1000000 ∨ cK c = 1) ∧ v = -9 ∨ (T (nE c) < 1000000 ∧ cK c ≠ 1 ∧ ∃ T', pD (nG (cSM c t)) 1000000 T' ∧ (T' (nE (cSM c t)) = 1000000 ∧ v = -9 ∨ T' (nE (cSM c t)) < 1000000 ∧ v = nI (T (nE c)) - nI (T' (nE (cSM c t))) + 1000)))
theorem s_helpM (d : Nat) {σ : zS} {c : zG} (w : Int32) (hN : σ.1 43 6 = nI (cN c)) (hN3 : cN c ≤ 3) (hcM : 1 ≤ cN c → gWf c ∧ gM σ c) (hB : 1 ≤ cN c → ∃ b, b ≤ 36 ∧ cB c = nI b) : z_Ex mX6_help (d + 6) [.ref 43, .int w] σ (fun rv τ => gFT σ τ ∧ ((z_wi w 0 36 = false ∧ rv = some (.int (-2))) ∨ (z_wi w 0 36 = true ∧ cN c = 0 ∧ rv = some (.int (-3))) ∨ (z_wi w 0 36 = true ∧ 1 ≤ cN c ∧ ∃ v, gHe c w v ∧ rv = some (.int v)))) := by
  have hrf : gFT σ σ := ⟨fun _ _ _ _ => rfl, fun _ _ _ => rfl, rfl⟩
  refine x_enter (by decide) (Nat.le_of_ble_eq_true rfl) ?_
  show z_At _ _ _ [.ref 43, .int w, .null, .null] _ _ _
  refine x_iload1 (pc2 := 1) dX6_help_0 rfl ?_
  refine x_iconst (v := 0) (pc2 := 2) dX6_help_1 rfl (by decide) ?_
  refine x_bipush (v := 36) (pc2 := 4) dX6_help_2 rfl (by decide) ?_
  refine x_fS3 (pc2 := 7) eX6_within kX6_80 (Nat.le_of_ble_eq_true rfl) dX6_help_4 rfl (s_within _ _ _ _ _) ?_
  refine x_if_ne (pc2 := 10) (pc3 := 13) dX6_help_7 rfl rfl (fun h7 => ?_) (fun h7 => ?_)
  rotate_left
  · rw [z_b0] at h7
    refine x_bipush (v := -2) (pc2 := 12) dX6_help_10 rfl (by decide) ?_
    refine x_iret dX6_help_12 rfl ?_
    exact ⟨hrf, Or.inl ⟨h7, rfl⟩⟩
  rw [z_bn0] at h7
  refine x_aload0 (pc2 := 14) dX6_help_13 rfl ?_
  refine x_getI (pc2 := 17) fX6_84 sh_43 rfl dX6_help_14 rfl ?_
  rw [hN]
  refine x_if_ne (pc2 := 20) (pc3 := 23) dX6_help_17 rfl rfl (fun h17 => ?_) (fun h17 => ?_)
  rotate_left
  · skip
    refine x_bipush (v := -3) (pc2 := 22) dX6_help_20 rfl (by decide) ?_
    refine x_iret dX6_help_22 rfl ?_
    exact ⟨hrf, Or.inr (Or.inl ⟨h7, nI_inj (b := 0) (by omega) (by decide) h17, rfl⟩)⟩
  have hN1 : 1 ≤ cN c := by
    rcases Nat.eq_zero_or_pos (cN c) with e | e
    · rw [e] at h17; exact absurd rfl h17
    · exact e
  obtain ⟨hc, hM⟩ := hcM hN1
  obtain ⟨b, hb, eb⟩ := hB hN1
  obtain ⟨wn, hwn, ew⟩ : ∃ wn, wn ≤ 36 ∧ w = nI wn := by
    unfold z_wi at h7
    rw [Bool.and_eq_true] at h7
    have h1 : ¬ w < 0 := by simpa using h7.1
    have h2 : ¬ (36 : Int32) < w := by simpa using h7.2
    obtain ⟨j, hj, rfl⟩ := nI_of h1
    rw [show (36 : Int32) = nI 36 from rfl, nI_lt_iff (by decide) hj] at h2
    exact ⟨j, by omega, rfl⟩
  have hE := nE_lt hc
  refine x_aload0 (pc2 := 24) dX6_help_23 rfl ?_
  refine x_cV0 eX6_soonestNow kX6_224 sh_43 rfl (Nat.le_of_ble_eq_true rfl) dX6_help_24 ?_
  refine (s_soonestNow d hc hM).mono ?_
  rintro rv τ1 ⟨T, rfl, hq1, hD⟩
  show z_At _ _ 27 _ [.int _] _ _
  have hM1 : gM τ1 c := hM.q (T := T) hq1.1 (by decide)
  refine x_istore2 (pc2 := 28) dX6_help_27 rfl rfl ?_
  refine x_aload0 (pc2 := 29) dX6_help_28 rfl ?_
  refine x_dup (pc2 := 30) dX6_help_29 rfl rfl ?_
  refine x_getI (pc2 := 33) fX6_114 sh_43 rfl dX6_help_30 rfl ?_
  refine x_iload1 (pc2 := 34) dX6_help_33 rfl ?_
  refine x_iadd (pc2 := 35) dX6_help_34 rfl ?_
  refine x_putI (pc2 := 38) pX6_114 sh_43 rfl dX6_help_35 rfl ?_
  rw [hM1.2.2.2.1]
  have hM2 : gM (z_st τ1 43 5 (cB c + w)) (cSB c (cB c + w)) := by
    obtain ⟨⟨a1, a2, a3⟩, ⟨b1, b2⟩, ⟨c1, c2, c3⟩, d1, e1⟩ := hM1
    unfold gM
    rw [z_st_at, z_st_fld _ _ _ (by decide), z_st_fld _ _ _ (by decide), z_st_fld _ _ _ (by decide), z_st_fld _ _ _ (by decide), z_st_row _ _ _ (by decide), z_st_row _ _ _ (by decide), z_st_row _ _ _ (by decide), z_st_row _ _ _ (by decide), z_st_row _ _ _ (by decide)]
    exact ⟨⟨a1, a2, a3⟩, ⟨b1, b2⟩, ⟨c1, c2, c3⟩, rfl, e1⟩
  have hc2 : gWf (cSB c (cB c + w)) := by
    rw [eb, ew, z_nIadd]
    exact cSB_wf hc (by omega)
  refine x_aload0 (pc2 := 39) dX6_help_38 rfl ?_
  refine x_cV0 eX6_soonestNow kX6_224 sh_43 rfl (Nat.le_of_ble_eq_true rfl) dX6_help_39 ?_
  refine (s_soonestNow d hc2 hM2).mono ?_
  rintro rv τ2 ⟨T', rfl, hq2, hD'⟩
  show z_At _ _ 42 _ [.int (eM (T' (nE c)))] _ _
  have hTE := hD.2.2.2 _ hE
  have hTE' := hD'.2.2.2 _ hE
  refine x_istore3 (pc2 := 43) dX6_help_42 rfl rfl ?_
  refine x_aload0 (pc2 := 44) dX6_help_43 rfl ?_
  refine x_dup (pc2 := 45) dX6_help_44 rfl rfl ?_
  refine x_getI (pc2 := 48) fX6_114 sh_43 rfl dX6_help_45 rfl ?_
  refine x_iload1 (pc2 := 49) dX6_help_48 rfl ?_
  refine x_isub (pc2 := 50) dX6_help_49 rfl ?_
  refine x_putI (pc2 := 53) pX6_114 sh_43 rfl dX6_help_50 rfl ?_
  rw [hq2.1 43 (by decide), z_st_at, show cB c + w - w = cB c from Int32.add_sub_cancel _ _]
  have hF : gFT σ (z_st τ2 43 5 (cB c)) := by
    refine ⟨fun q h1 h2 h3 => ?_, fun j h1 h2 => ?_, ?_⟩
    · rw [z_st_row _ _ _ h1, hq2.1 q h2, z_st_row _ _ _ h1, hq1.1 q h2]
    · by_cases e : j = 5
      · subst e
        rw [z_st_at, ← hM.2.2.2.1]
      · rw [z_st_fld _ _ _ e, hq2.1 43 (by decide), z_st_fld _ _ _ e, hq1.1 43 (by decide)]
    · show τ2.2 = σ.2
      rw [hq2.2.1]
      exact hq1.2.1
  refine x_iload2 (pc2 := 54) dX6_help_53 rfl ?_
  refine x_bipush (v := -9) (pc2 := 56) dX6_help_54 rfl (by decide) ?_
  refine x_icmp_eq (pc2 := 59) (pc3 := 65) dX6_help_56 rfl rfl (fun h56 => ?_) (fun h56 => ?_)
  · rw [eM_9 (by omega)] at h56
    refine x_bipush (v := -9) (pc2 := 67) dX6_help_65 rfl (by decide) ?_
    refine x_goto (pc2 := 73) dX6_help_67 rfl ?_
    refine x_iret dX6_help_73 rfl ?_
    exact ⟨hF, Or.inr (Or.inr ⟨h7, hN1, _, ⟨T, T', hD, hD', Or.inl ⟨Or.inl h56, rfl⟩⟩, rfl⟩)⟩
  rw [eM_9 (by omega)] at h56
  refine x_iload3 (pc2 := 60) dX6_help_59 rfl ?_
  refine x_bipush (v := -9) (pc2 := 62) dX6_help_60 rfl (by decide) ?_
  refine x_icmp_ne (pc2 := 65) (pc3 := 70) dX6_help_62 rfl rfl (fun h62 => ?_) (fun h62 => ?_)
  rotate_left
  · rw [eM_9 (by omega)] at h62
    refine x_bipush (v := -9) (pc2 := 67) dX6_help_65 rfl (by decide) ?_
    refine x_goto (pc2 := 73) dX6_help_67 rfl ?_
    refine x_iret dX6_help_73 rfl ?_
    exact ⟨hF, Or.inr (Or.inr ⟨h7, hN1, _, ⟨T, T', hD, hD', Or.inl ⟨Or.inr h62, rfl⟩⟩, rfl⟩)⟩
  rw [eM_9 (by omega)] at h62
  rw [eM_nI (show T (nE c) < 1000000 by omega), eM_nI (show T' (nE c) < 1000000 by omega)]
  refine x_iload2 (pc2 := 71) dX6_help_70 rfl ?_
  refine x_iload3 (pc2 := 72) dX6_help_71 rfl ?_
  refine x_isub (pc2 := 73) dX6_help_72 rfl ?_
  refine x_iret dX6_help_73 rfl ?_
  exact ⟨hF, Or.inr (Or.inr ⟨h7, hN1, _, ⟨T, T', hD, hD', Or.inr ⟨by omega, by omega, rfl⟩⟩, rfl⟩)⟩
theorem s_costM (d : Nat) {σ : zS} {c : zG} (t : Int32) (hK : σ.1 43 7 = nI (cK c)) (hK4 : cK c ≤ 4) (hcM : 1 ≤ cK c → gWf c ∧ gM σ c ∧ 4 ≤ cM c) : z_Ex mX6_cost (d + 6) [.ref 43, .int t] σ (fun rv τ => gFT σ τ ∧ ((z_rng t (nI (cK c)) = false ∧ rv = some (.int (-1))) ∨ (z_rng t (nI (cK c)) = true ∧ ∃ v, gCo c t.toNatClampNeg v ∧ rv = some (.int v)))) := by
  have hrf : gFT σ σ := ⟨fun _ _ _ _ => rfl, fun _ _ _ => rfl, rfl⟩
  refine x_enter (by decide) (Nat.le_of_ble_eq_true rfl) ?_
  show z_At _ _ _ [.ref 43, .int t, .null, .null] _ _ _
  refine x_aload0 (pc2 := 1) dX6_cost_0 rfl ?_
  refine x_iload1 (pc2 := 2) dX6_cost_1 rfl ?_
  refine x_fV1 (pc2 := 5) eX6_isThing kX6_143 sh_43 rfl (Nat.le_of_ble_eq_true rfl) dX6_cost_2 rfl (s_isThing _ _ _) ?_
  rw [hK]
  refine x_if_ne (pc2 := 8) (pc3 := 10) dX6_cost_5 rfl rfl (fun h5 => ?_) (fun h5 => ?_)
  rotate_left
  · rw [z_b0] at h5
    refine x_iconst (v := -1) (pc2 := 9) dX6_cost_8 rfl (by decide) ?_
    refine x_iret dX6_cost_9 rfl ?_
    exact ⟨hrf, Or.inl ⟨h5, rfl⟩⟩
  rw [z_bn0] at h5
  obtain ⟨tn, htn, et⟩ : ∃ tn, tn < cK c ∧ t = nI tn := by
    have h := h5
    unfold z_rng at h
    rw [Bool.and_eq_true] at h
    have h1 : ¬ t < 0 := by simpa using h.1
    have h2 : ¬ nI (cK c) ≤ t := by simpa using h.2
    obtain ⟨j, hj, rfl⟩ := nI_of h1
    rw [nI_le_iff (by omega) hj] at h2
    exact ⟨j, by omega, rfl⟩
  obtain ⟨hc, hM, h4⟩ := hcM (by omega)
  have hE := nE_lt hc
  subst et
  rw [nI_clamp (by omega)]
  have hcc : cM c ≠ tn := by omega
  have hgm : gms (cM c) = -9 := by unfold gms; rw [if_neg (by omega)]
  refine x_aload0 (pc2 := 11) dX6_cost_10 rfl ?_
  refine x_cV0 eX6_soonestNow kX6_224 sh_43 rfl (Nat.le_of_ble_eq_true rfl) dX6_cost_11 ?_
  refine (s_soonestNow d hc hM).mono ?_
  rintro rv τ1 ⟨T, rfl, hq1, hD⟩
  show z_At _ _ 14 _ [.int _] _ _
  have hTE := hD.2.2.2 _ hE
  have hM1 : gM τ1 c := hM.q (T := T) hq1.1 (by decide)
  have hF1 : gFT σ τ1 := ⟨fun q _ h2 _ => hq1.1 q h2, fun j _ _ => by rw [hq1.1 43 (by decide)], hq1.2.1⟩
  refine x_istore2 (pc2 := 15) dX6_cost_14 rfl rfl ?_
  refine x_iload2 (pc2 := 16) dX6_cost_15 rfl ?_
  refine x_bipush (v := -9) (pc2 := 18) dX6_cost_16 rfl (by decide) ?_
  refine x_icmp_eq (pc2 := 21) (pc3 := 29) dX6_cost_18 rfl rfl (fun h18 => ?_) (fun h18 => ?_)
  · rw [eM_9 (by omega)] at h18
    refine x_bipush (v := -9) (pc2 := 31) dX6_cost_29 rfl (by decide) ?_
    refine x_iret dX6_cost_31 rfl ?_
    exact ⟨hF1, Or.inr ⟨h5, _, ⟨T, hD, Or.inl ⟨Or.inl h18, rfl⟩⟩, rfl⟩⟩
  rw [eM_9 (by omega)] at h18
  refine x_aload0 (pc2 := 22) dX6_cost_21 rfl ?_
  refine x_getI (pc2 := 25) fX6_87 sh_43 rfl dX6_cost_22 rfl ?_
  refine x_iconst (v := 1) (pc2 := 26) dX6_cost_25 rfl (by decide) ?_
  rw [hM1.1.1]
  refine x_icmp_ne (pc2 := 29) (pc3 := 32) dX6_cost_26 rfl rfl (fun h26 => ?_) (fun h26 => ?_)
  rotate_left
  · skip
    refine x_bipush (v := -9) (pc2 := 31) dX6_cost_29 rfl (by decide) ?_
    refine x_iret dX6_cost_31 rfl ?_
    exact ⟨hF1, Or.inr ⟨h5, _, ⟨T, hD, Or.inl ⟨Or.inr (nI_inj (b := 1) (by omega) (by decide) h26), rfl⟩⟩, rfl⟩⟩
  have hK1 : cK c ≠ 1 := fun q => h26 (by rw [q]; rfl)
  have hM2 : gM (z_st τ1 43 14 (nI tn)) (cSM c tn) := by
    obtain ⟨⟨a1, a2, a3⟩, ⟨b1, b2⟩, ⟨c1, c2, c3⟩, d1, e1⟩ := hM1
    unfold gM
    rw [z_st_at, z_st_fld _ _ _ (by decide), z_st_fld _ _ _ (by decide), z_st_fld _ _ _ (by decide), z_st_fld _ _ _ (by decide), z_st_row _ _ _ (by decide), z_st_row _ _ _ (by decide), z_st_row _ _ _ (by decide), z_st_row _ _ _ (by decide), z_st_row _ _ _ (by decide)]
    refine ⟨⟨a1, a2, ?_⟩, ⟨b1, b2⟩, ⟨c1, c2, c3⟩, d1, e1⟩
    show nI tn = gms tn
    unfold gms
    rw [if_pos (by omega)]
  have hc2 : gWf (cSM c tn) := cSM_wf hc tn
  have hE2 := nE_lt hc2
  refine x_aload0 (pc2 := 33) dX6_cost_32 rfl ?_
  refine x_iload1 (pc2 := 34) dX6_cost_33 rfl ?_
  refine x_putI (pc2 := 37) pX6_39 sh_43 rfl dX6_cost_34 rfl ?_
  refine x_aload0 (pc2 := 38) dX6_cost_37 rfl ?_
  refine x_cV0 eX6_soonestNow kX6_224 sh_43 rfl (Nat.le_of_ble_eq_true rfl) dX6_cost_38 ?_
  refine (s_soonestNow d hc2 hM2).mono ?_
  rintro rv τ2 ⟨T', rfl, hq2, hD'⟩
  show z_At _ _ 41 _ [.int (eM (T' (nE (cSM c tn))))] _ _
  have hTE' := hD'.2.2.2 _ hE2
  have hF : gFT σ (z_st τ2 43 14 (-9)) := by
    refine ⟨fun q h1 h2 h3 => ?_, fun j h1 h2 => ?_, ?_⟩
    · rw [z_st_row _ _ _ h1, hq2.1 q h2, z_st_row _ _ _ h1, hq1.1 q h2]
    · by_cases e : j = 14
      · subst e
        rw [z_st_at, hM.1.2.2, hgm]
      · rw [z_st_fld _ _ _ e, hq2.1 43 (by decide), z_st_fld _ _ _ e, hq1.1 43 (by decide)]
    · show τ2.2 = σ.2
      rw [hq2.2.1]
      exact hq1.2.1
  refine x_istore3 (pc2 := 42) dX6_cost_41 rfl rfl ?_
  refine x_aload0 (pc2 := 43) dX6_cost_42 rfl ?_
  refine x_bipush (v := -9) (pc2 := 45) dX6_cost_43 rfl (by decide) ?_
  refine x_putI (pc2 := 48) pX6_39 sh_43 rfl dX6_cost_45 rfl ?_
  refine x_iload3 (pc2 := 49) dX6_cost_48 rfl ?_
  refine x_bipush (v := -9) (pc2 := 51) dX6_cost_49 rfl (by decide) ?_
  refine x_icmp_ne (pc2 := 54) (pc3 := 59) dX6_cost_51 rfl rfl (fun h51 => ?_) (fun h51 => ?_)
  rotate_left
  · rw [eM_9 (by omega)] at h51
    refine x_bipush (v := -9) (pc2 := 56) dX6_cost_54 rfl (by decide) ?_
    refine x_goto (pc2 := 66) dX6_cost_56 rfl ?_
    refine x_iret dX6_cost_66 rfl ?_
    exact ⟨hF, Or.inr ⟨h5, _, ⟨T, hD, Or.inr ⟨by omega, hK1, T', hD', Or.inl ⟨h51, rfl⟩⟩⟩, rfl⟩⟩
  rw [eM_9 (by omega)] at h51
  rw [eM_nI (show T (nE c) < 1000000 by omega), eM_nI (show T' (nE (cSM c tn)) < 1000000 by omega)]
  refine x_iload2 (pc2 := 60) dX6_cost_59 rfl ?_
  refine x_iload3 (pc2 := 61) dX6_cost_60 rfl ?_
  refine x_isub (pc2 := 62) dX6_cost_61 rfl ?_
  refine x_sipush (v := 1000) (pc2 := 65) dX6_cost_62 rfl (by decide) ?_
  refine x_iadd (pc2 := 66) dX6_cost_65 rfl ?_
  refine x_iret dX6_cost_66 rfl ?_
  exact ⟨hF, Or.inr ⟨h5, _, ⟨T, hD, Or.inr ⟨by omega, hK1, T', hD', Or.inr ⟨by omega, rfl⟩⟩⟩, rfl⟩⟩
