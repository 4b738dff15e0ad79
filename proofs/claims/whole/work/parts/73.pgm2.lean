/-! the model's portage, whole -/
theorem s_portageM (d : Nat) (σ σ0 : zS) (hσ : σ0 = z_g0 σ) (sh la i n : Int32) (hz : vp_in sh 4 → σ0.1 44 sh.toNatClampNeg ≠ -9 → ∃ z : Nat, σ0.1 45 sh.toNatClampNeg = nI z ∧ z ≤ 60) (B : Int32) (ln md kd pd : Nat → Int32) (L : Option Nat × zP) (hL : L = pLoop (fun p => z_row σ0 sh.toNatClampNeg (i.toNatClampNeg + p)) n.toNatClampNeg n.toNatClampNeg 0 (1, B, 0, 0, ln, md, kd, pd)) : z_Ex mX6_portage (d + 4) [.ref 43, .int sh, .int la, .int i, .int n] σ (gPmPost σ0 (z_pmC sh la i n (σ0.1 44 sh.toNatClampNeg) (σ0.1 45 sh.toNatClampNeg)) (z_pmF sh la i n (σ0.1 44 sh.toNatClampNeg) (σ0.1 45 sh.toNatClampNeg) (σ0.1 43 0)) L) := by
  refine x_enter (by decide) (Nat.le_of_ble_eq_true rfl) ?_
  show z_At _ _ _ [.ref 43, .int sh, .int la, .int i, .int n, .null, .null, .null] _ _ _
  have hrf : z_st σ0 43 0 (σ0.1 43 0) = σ0 := z_st_id rfl
  unfold z_pmC z_pmF
  refine x_aload0 (pc2 := 1) dX6_portage_0 rfl ?_
  refine x_iconst (v := 0) (pc2 := 2) dX6_portage_1 rfl (by decide) ?_
  refine x_putI (pc2 := 5) pX6_75 sh_43 rfl dX6_portage_2 rfl ?_
  rw [show z_st σ 43 0 0 = σ0 from hσ.symm]
  clear hσ
  refine x_iload1 (pc2 := 6) dX6_portage_5 rfl ?_
  refine x_fS1 (pc2 := 9) eX6_isSheet kX6_93 (Nat.le_of_ble_eq_true rfl) dX6_portage_6 rfl (s_isSheetM _ _ _) ?_
  refine x_if_ne (pc2 := 12) (pc3 := 14) dX6_portage_9 rfl rfl (fun h9 => ?_) (fun h9 => ?_)
  rotate_left
  · have h9' := z_b0.mp h9
    refine x_iconst (v := -1) (pc2 := 13) dX6_portage_12 rfl (by decide) ?_
    refine x_iret dX6_portage_13 rfl ?_
    rw [if_pos h9', if_pos h9']
    exact ⟨fun _ => ⟨rfl, hrf.symm⟩, fun q => absurd q (by decide)⟩
  have h9' := z_bn0.mp h9
  have hsh : vp_in sh 4 := z_in_sh h9
  have n9 : ¬ z_wi sh 0 3 = false := by rw [h9']; decide
  rw [if_neg n9, if_neg n9]
  refine x_iload2 (pc2 := 15) dX6_portage_14 rfl ?_
  refine x_fS1 (pc2 := 18) eX6_isSort kX6_97 (Nat.le_of_ble_eq_true rfl) dX6_portage_15 rfl (s_isSort _ _ _) ?_
  refine x_if_ne (pc2 := 21) (pc3 := 24) dX6_portage_18 rfl rfl (fun h18 => ?_) (fun h18 => ?_)
  rotate_left
  · have h18' := z_b0.mp h18
    refine x_bipush (v := -2) (pc2 := 23) dX6_portage_21 rfl (by decide) ?_
    refine x_iret dX6_portage_23 rfl ?_
    rw [if_pos h18', if_pos h18']
    exact ⟨fun _ => ⟨rfl, hrf.symm⟩, fun q => absurd q (by decide)⟩
  have h18' := z_bn0.mp h18
  have n18 : ¬ z_wi la 0 2 = false := by rw [h18']; decide
  rw [if_neg n18, if_neg n18]
  refine x_aload0 (pc2 := 25) dX6_portage_24 rfl ?_
  refine x_iload1 (pc2 := 26) dX6_portage_25 rfl ?_
  refine x_iload2 (pc2 := 27) dX6_portage_26 rfl ?_
  refine x_iload3 (pc2 := 28) dX6_portage_27 rfl ?_
  refine x_iload4 (pc2 := 30) dX6_portage_28 rfl ?_
  refine x_fV4 (pc2 := 33) eX6_against kX6_100 sh_43 rfl (Nat.le_of_ble_eq_true rfl) dX6_portage_30 rfl (s_against _ _ _ _ _ _ hsh) ?_
  refine x_istore5 (pc2 := 35) dX6_portage_33 rfl rfl ?_
  refine x_iload5 (pc2 := 37) dX6_portage_35 rfl ?_
  refine x_if_eq (pc2 := 40) (pc3 := 47) dX6_portage_37 rfl rfl (fun h37 => ?_) (fun h37 => ?_)
  rotate_left
  · skip
    refine x_aload0 (pc2 := 41) dX6_portage_40 rfl ?_
    refine x_iload5 (pc2 := 43) dX6_portage_41 rfl ?_
    refine x_fV1 (pc2 := 46) eX6_fails kX6_104 sh_43 rfl (Nat.le_of_ble_eq_true rfl) dX6_portage_43 rfl (s_fails _ _ _) ?_
    refine x_iret dX6_portage_46 rfl ?_
    rw [if_pos h37, if_pos h37]
    refine ⟨fun _ => ⟨rfl, rfl⟩, fun q => ?_⟩
    exfalso
    revert q
    unfold z_ag
    split
    · decide
    · split
      · decide
      · split
        · decide
        · split <;> decide
  have n37 : ¬ ¬ z_ag (σ0.1 44 sh.toNatClampNeg) la i n (σ0.1 45 sh.toNatClampNeg) = 0 := fun q => q h37
  rw [if_neg n37, if_neg n37]
  obtain ⟨_, hs9, hhc⟩ := z_ag_hc h37
  obtain ⟨z, hz1, hz2⟩ := hz hsh hs9
  rw [hz1] at hhc
  obtain ⟨b, m, b1, b2, m1, m2, hbm⟩ := z_hc_nat2 hz2 hhc
  have hfirst := z_cellAt hsh (show ¬ i < 0 by rw [b1]; exact nI_pos (by omega))
  have hk4 : sh.toNatClampNeg < 4 := Nat.not_le.mp fun q => hsh (Or.inr q)
  rw [b2] at hfirst hL
  rw [m2] at hL
  have hb0 : 60 * sh.toNatClampNeg + b + m ≤ 240 := by omega
  refine x_bipush (v := 60) (pc2 := 49) dX6_portage_47 rfl (by decide) ?_
  refine x_iload1 (pc2 := 50) dX6_portage_49 rfl ?_
  refine x_imul (pc2 := 51) dX6_portage_50 rfl ?_
  refine x_iload3 (pc2 := 52) dX6_portage_51 rfl ?_
  refine x_iadd (pc2 := 53) dX6_portage_52 rfl ?_
  rw [hfirst]
  have hff : ∀ p, (fun p => z_row σ0 sh.toNatClampNeg (b + p)) p = (z_st σ0 43 15 (nI (60 * sh.toNatClampNeg + b))).1 46 (60 * sh.toNatClampNeg + b + p) := fun p => by
    rw [z_st_row _ _ _ (by decide), Nat.add_assoc]
    rfl
  generalize hb0' : 60 * sh.toNatClampNeg + b = b0 at *
  refine x_istore6 (pc2 := 55) dX6_portage_53 rfl rfl ?_
  refine x_aload0 (pc2 := 56) dX6_portage_55 rfl ?_
  refine x_iload6 (pc2 := 58) dX6_portage_56 rfl ?_
  refine x_putI (pc2 := 61) pX6_90 sh_43 rfl dX6_portage_58 rfl ?_
  refine x_aload0 (pc2 := 62) dX6_portage_61 rfl ?_
  refine x_iload6 (pc2 := 64) dX6_portage_62 rfl ?_
  refine x_iload4 (pc2 := 66) dX6_portage_64 rfl ?_
  refine x_iadd (pc2 := 67) dX6_portage_66 rfl ?_
  rw [m1, z_nIadd]
  refine x_cV1 eX6_readAll kX6_108 sh_43 rfl (Nat.le_of_ble_eq_true rfl) dX6_portage_67 ?_
  refine (s_readAll d hb0 (z_st_at _ _ _ _) hff B ln md kd pd).mono ?_
  intro rv τ hA
  rw [← hL] at hA
  have hcv : gQf (z_st σ0 43 15 (nI b0)) τ → gQf σ0 τ := fun h => ⟨fun q a1 a2 a3 => by rw [h.1 q a1 a2 a3, z_st_row _ _ _ a1], fun j hj => by rw [h.2.1 j hj, z_st_fld _ _ _ (by omega)], h.2.2⟩
  rcases hA with ⟨hn, rfl, hQ⟩ | ⟨q, hq, hqn, rfl, hF, hat⟩
  rotate_left
  · show z_At _ _ 70 _ [.int _] _ _
    refine x_if_ne (pc2 := 73) (pc3 := 84) dX6_portage_70 rfl rfl (fun h70 => ?_) (fun h70 => ?_)
    · exact absurd rfl h70
    refine x_bipush (v := -100) (pc2 := 75) dX6_portage_73 rfl (by decide) ?_
    refine x_aload0 (pc2 := 76) dX6_portage_75 rfl ?_
    refine x_getI (pc2 := 79) fX6_90 sh_43 rfl dX6_portage_76 rfl ?_
    rw [hat]
    refine x_iload6 (pc2 := 81) dX6_portage_79 rfl ?_
    refine x_isub (pc2 := 82) dX6_portage_81 rfl ?_
    refine x_isub (pc2 := 83) dX6_portage_82 rfl ?_
    refine x_iret dX6_portage_83 rfl ?_
    refine ⟨fun q => absurd rfl q, fun _ => ⟨fun p hp => ?_, fun h => by rw [hq] at h; cases h⟩⟩
    rw [hq] at hp
    cases hp
    refine ⟨?_, hcv hF⟩
    rw [show nI (b0 + q) - nI b0 = nI (b0 + q - b0) from (Int32.ofNat_sub (a := b0 + q) (b := b0) (by omega)).symm, Nat.add_sub_cancel_left]
  show z_At _ _ 70 _ [.int _] _ _
  have hok := pLoop_ok (fun p => z_row σ0 sh.toNatClampNeg (b + p)) m m 0 (1, B, 0, 0, ln, md, kd, pd) ⟨by simp, by simp, by simp, by simp⟩ ⟨fun h => absurd (show 3 ≤ 1 from h) (by decide), fun j hj => absurd hj (Nat.not_lt_zero _), fun h => absurd (show 1 = 5 from h) (by decide), fun j hj => absurd hj (Nat.not_lt_zero _), fun h => absurd (show 1 = 7 from h) (by decide), fun h => absurd (show 0 < 0 ∨ 1 = 6 ∨ 1 = 7 from h) (by decide)⟩ (by rw [← hL]; exact hn)
  have hdue := pLoop_due (fun p => z_row σ0 sh.toNatClampNeg (b + p)) m m 0 (1, B, 0, 0, ln, md, kd, pd) (by rw [← hL]; exact hn)
  rw [← hL] at hok hdue
  obtain ⟨hI, _, _⟩ := hok
  have hN3 := hI.2.1.1
  have hK4 := hI.2.1.2
  obtain ⟨hF, ⟨q1, q2, q3, q4⟩, q5, q6⟩ := hQ
  have hF := hcv hF
  have q4 := q4 (by omega)
  refine x_if_ne (pc2 := 73) (pc3 := 84) dX6_portage_70 rfl rfl (fun h70 => ?_) (fun h70 => ?_)
  rotate_left
  · exact absurd h70 (by decide)
  refine x_aload0 (pc2 := 85) dX6_portage_84 rfl ?_
  refine x_aload0 (pc2 := 86) dX6_portage_85 rfl ?_
  refine x_getI (pc2 := 89) fX6_111 sh_43 rfl dX6_portage_86 rfl ?_
  refine x_putI (pc2 := 92) pX6_114 sh_43 rfl dX6_portage_89 rfl ?_
  refine x_aload0 (pc2 := 93) dX6_portage_92 rfl ?_
  refine x_aload0 (pc2 := 94) dX6_portage_93 rfl ?_
  refine x_getI (pc2 := 97) fX6_117 sh_43 rfl dX6_portage_94 rfl ?_
  refine x_putI (pc2 := 100) pX6_84 sh_43 rfl dX6_portage_97 rfl ?_
  refine x_aload0 (pc2 := 101) dX6_portage_100 rfl ?_
  refine x_aload0 (pc2 := 102) dX6_portage_101 rfl ?_
  refine x_getI (pc2 := 105) fX6_120 sh_43 rfl dX6_portage_102 rfl ?_
  refine x_putI (pc2 := 108) pX6_87 sh_43 rfl dX6_portage_105 rfl ?_
  refine x_aload0 (pc2 := 109) dX6_portage_108 rfl ?_
  refine x_bipush (v := -9) (pc2 := 111) dX6_portage_109 rfl (by decide) ?_
  refine x_putI (pc2 := 114) pX6_19 sh_43 rfl dX6_portage_111 rfl ?_
  refine x_iconst (v := 0) (pc2 := 115) dX6_portage_114 rfl (by decide) ?_
  refine x_istore7 (pc2 := 117) dX6_portage_115 rfl rfl ?_
  rw [z_st_fld _ _ _ (by decide), z_st_fld _ _ _ (by decide), z_st_fld _ _ _ (by decide), q2, q3, q4]
  refine s_pm117 (d + 4) (υ := z_st (z_st (z_st (z_st τ 43 5 L.2.2.1) 43 6 (nI L.2.2.2.1)) 43 7 (nI L.2.2.2.2.1)) 43 8 (-9)) (N := L.2.2.2.1) (by rw [z_st_fld _ _ _ (by decide), z_st_fld _ _ _ (by decide), z_st_at]) hN3 _ _ _ _ _ _ (fun τ2 g1 g2 g3 => ?_) _ 0 (Nat.zero_add _) _ (fun _ _ _ _ => rfl) rfl (fun t ht => absurd ht (Nat.not_lt_zero _))
  refine s_pm177 (d + 4) (υ := τ2) (K := L.2.2.2.2.1) (by rw [g1 43 (by decide) (by decide) (by decide), z_st_fld _ _ _ (by decide), z_st_at]) hK4 _ _ _ _ _ _ (fun τ3 k1 k2 k3 k4 k5 => ?_) _ 0 (Nat.zero_add _) _ (fun _ _ _ => rfl) rfl (fun t ht => absurd ht (Nat.not_lt_zero _))
  refine ⟨fun q => absurd rfl q, fun _ => ⟨fun p hp => (by rw [hn] at hp; cases hp), fun _ => ⟨rfl, ?_⟩⟩⟩
  have e43 := g1 43 (by decide) (by decide) (by decide)
  refine ⟨fun q a1 a2 => ?_, fun j a1 a2 a3 => ?_, ?_, ⟨?_, ?_, ?_, ?_, k3⟩, fun j hj => ?_, fun t ht => ?_⟩
  · rw [k1 q a1 (by omega) (by omega), g1 q (by omega) (by omega) (by omega), z_st_row _ _ _ a1, z_st_row _ _ _ a1, z_st_row _ _ _ a1, z_st_row _ _ _ a1]
    exact hF.1 q a1 (by omega) (by omega)
  · rw [k2 j a3, e43, z_st_fld _ _ _ (by omega), z_st_fld _ _ _ (by omega), z_st_fld _ _ _ (by omega), z_st_fld _ _ _ (by omega)]
    exact hF.2.1 j a2
  · rw [k4, g2]; exact hF.2.2
  · rw [k2 5 (by decide), e43, z_st_fld _ _ _ (by decide), z_st_fld _ _ _ (by decide), z_st_fld _ _ _ (by decide), z_st_at]
  · rw [k2 6 (by decide), e43, z_st_fld _ _ _ (by decide), z_st_fld _ _ _ (by decide), z_st_at]
  · rw [k2 7 (by decide), e43, z_st_fld _ _ _ (by decide), z_st_at]
  · rw [k2 8 (by decide), e43, z_st_at]
  · rw [k1 47 (by decide) (by decide) (by decide), k1 48 (by decide) (by decide) (by decide), k1 49 (by decide) (by decide) (by decide)]
    have := g3 j hj
    rw [z_st_row _ _ _ (by decide), z_st_row _ _ _ (by decide), z_st_row _ _ _ (by decide), z_st_row _ _ _ (by decide), (q5 j hj).1, (q5 j hj).2] at this
    exact this
  · have := k5 t ht
    rw [g1 53 (by decide) (by decide) (by decide), z_st_row _ _ _ (by decide), z_st_row _ _ _ (by decide), z_st_row _ _ _ (by decide), z_st_row _ _ _ (by decide), (q6 t ht).1, (q6 t ht).2] at this
    exact this
