/-! the model's kinds -/
theorem s_kindsM (d : Nat) (σ σ0 : zS) (hσ : σ0 = z_g0 σ) (t sh la i n : Int32) {N K : Nat} (hN : σ0.1 43 6 = nI N) (hN3 : N ≤ 3) (hK : σ0.1 43 7 = nI K) (hK4 : K ≤ 4) (hz : vp_in sh 4 → σ0.1 44 sh.toNatClampNeg ≠ -9 → ∃ z : Nat, σ0.1 45 sh.toNatClampNeg = nI z ∧ z ≤ 60) {c : zG} (hcf : 1 ≤ N → gWf c ∧ gM σ0 c) {q : Nat} {rt rm : Nat → Nat} {rs : Nat → Int32} (hq0 : σ0.1 43 34 = nI q) (hR0 : gRd σ0 60 61 62 q rt rm rs) : z_Ex mX6_kinds (d + 5) [.ref 43, .int t, .int sh, .int la, .int i, .int n] σ (fun rv τ => rv = some (.int (if z_rng t (nI K) = false then -1 else if z_mC σ0 sh la i n 1 = 0 then z_sn (fun v => wAs (cKind c t.toNatClampNeg (nI v)) (z_to (z_row σ0 sh.toNatClampNeg) i.toNatClampNeg) (z_xs (z_row σ0 sh.toNatClampNeg) i.toNatClampNeg) n.toNatClampNeg rt rm rs q) 3 else z_mC σ0 sh la i n 1)) ∧ gFv σ0 τ (if z_rng t (nI K) = false then σ0.1 43 0 else (z_mF σ0 sh la i n 1).1 43 0)) := by
  refine x_enter (by decide) (Nat.le_of_ble_eq_true rfl) ?_
  show z_At _ _ _ [.ref 43, .int t, .int sh, .int la, .int i, .int n, .null, .null, .null, .null] _ _ _
  refine x_aload0 (pc2 := 1) dX6_kinds_0 rfl ?_
  refine x_iconst (v := 0) (pc2 := 2) dX6_kinds_1 rfl (by decide) ?_
  refine x_putI (pc2 := 5) pX6_75 sh_43 rfl dX6_kinds_2 rfl ?_
  rw [show z_st σ 43 0 0 = σ0 from hσ.symm]
  clear hσ
  refine x_aload0 (pc2 := 6) dX6_kinds_5 rfl ?_
  refine x_iload1 (pc2 := 7) dX6_kinds_6 rfl ?_
  refine x_fV1 (pc2 := 10) eX6_isThing kX6_143 sh_43 rfl (Nat.le_of_ble_eq_true rfl) dX6_kinds_7 rfl (s_isThing _ _ _) ?_
  rw [hK]
  refine x_if_eq (pc2 := 13) (pc3 := 20) dX6_kinds_10 rfl rfl (fun h10 => ?_) (fun h10 => ?_)
  · have h10' := z_b0.mp h10
    refine x_iconst (v := -1) (pc2 := 21) dX6_kinds_20 rfl (by decide) ?_
    refine x_iret dX6_kinds_21 rfl ?_
    rw [if_pos h10', if_pos h10']
    exact ⟨rfl, gFv.rf⟩
  have h10' := z_bn0.mp h10
  have n10 : ¬ z_rng t (nI K) = false := by rw [h10']; decide
  rw [if_neg n10, if_neg n10]
  obtain ⟨t', t1, t2, t3⟩ := z_rng_nat (by omega) h10'
  refine x_iload2 (pc2 := 14) dX6_kinds_13 rfl ?_
  refine x_fS1 (pc2 := 17) eX6_isSheet kX6_93 (Nat.le_of_ble_eq_true rfl) dX6_kinds_14 rfl (s_isSheetM _ _ _) ?_
  refine x_if_ne (pc2 := 20) (pc3 := 22) dX6_kinds_17 rfl rfl (fun h17 => ?_) (fun h17 => ?_)
  rotate_left
  · have h17' := z_b0.mp h17
    refine x_iconst (v := -1) (pc2 := 21) dX6_kinds_20 rfl (by decide) ?_
    refine x_iret dX6_kinds_21 rfl ?_
    have eC : z_mC σ0 sh la i n 1 = -1 := by unfold z_mC; rw [if_pos h17']
    have eF : z_mF σ0 sh la i n 1 = σ0 := by unfold z_mF; rw [if_pos h17']
    rw [eC, eF, if_neg (by decide)]
    exact ⟨rfl, gFv.rf⟩
  have h17' : ¬ z_wi sh 0 3 = false := by rw [z_bn0.mp h17]; decide
  have hsh := z_in_sh h17
  refine x_iload3 (pc2 := 23) dX6_kinds_22 rfl ?_
  refine x_iload5 (pc2 := 25) dX6_kinds_23 rfl ?_
  refine x_fS2 (pc2 := 28) eX6_arePairs kX6_199 (Nat.le_of_ble_eq_true rfl) dX6_kinds_25 rfl (s_arePairs _ _ _ _) ?_
  refine x_if_ne (pc2 := 31) (pc3 := 34) dX6_kinds_28 rfl rfl (fun h28 => ?_) (fun h28 => ?_)
  rotate_left
  · have h28' := z_b0.mp h28
    refine x_bipush (v := -2) (pc2 := 33) dX6_kinds_31 rfl (by decide) ?_
    refine x_iret dX6_kinds_33 rfl ?_
    have eC : z_mC σ0 sh la i n 1 = -2 := by unfold z_mC; rw [if_neg h17', if_pos (Or.inl h28')]
    have eF : z_mF σ0 sh la i n 1 = σ0 := by unfold z_mF; rw [if_neg h17', if_pos (Or.inl h28')]
    rw [eC, eF, if_neg (by decide)]
    exact ⟨rfl, gFv.rf⟩
  have hpr := z_bn0.mp h28
  have hb : ¬ ((z_wi la 0 2 && z_wi n 0 18) = false ∨ (1 : Int32) = 0) := fun q => q.elim (fun q => by rw [hpr] at q; cases q) (fun q => absurd q (by decide))
  have eC : z_mC σ0 sh la i n 1 = z_lC σ0 sh la i n := by unfold z_mC; rw [if_neg h17', if_neg hb]
  have eF : z_mF σ0 sh la i n 1 = z_lF σ0 sh la i n := by unfold z_mF; rw [if_neg h17', if_neg hb]
  rw [eC, eF]
  obtain ⟨n', hn1, hn2, hn18⟩ := z_wi18 (Bool.and_eq_true _ _ ▸ hpr).2
  rw [hn2, hn1, t3, t2]
  refine x_aload0 (pc2 := 35) dX6_kinds_34 rfl ?_
  refine x_iload2 (pc2 := 36) dX6_kinds_35 rfl ?_
  refine x_iload3 (pc2 := 37) dX6_kinds_36 rfl ?_
  refine x_iload4 (pc2 := 39) dX6_kinds_37 rfl ?_
  refine x_iload5 (pc2 := 41) dX6_kinds_39 rfl ?_
  refine x_cV4 eX6_layTrips kX6_202 sh_43 rfl (Nat.le_of_ble_eq_true rfl) dX6_kinds_41 ?_
  refine (s_layTrips (d + 2) sh la i hsh hn18 hN hN3 hK hK4 (hz hsh)).mono ?_
  rintro rv τ ⟨rfl, hF, hT⟩
  show z_At _ _ 44 _ [.int _] _ _
  refine x_istore6 (pc2 := 46) dX6_kinds_44 rfl rfl ?_
  refine x_iload6 (pc2 := 48) dX6_kinds_46 rfl ?_
  refine x_if_eq (pc2 := 51) (pc3 := 54) dX6_kinds_48 rfl rfl (fun h48 => ?_) (fun h48 => ?_)
  rotate_left
  · skip
    refine x_iload6 (pc2 := 53) dX6_kinds_51 rfl ?_
    refine x_iret dX6_kinds_53 rfl ?_
    rw [if_neg h48]
    exact ⟨rfl, hF.v⟩
  have hT := hT h48
  obtain ⟨g1, g2⟩ := z_lC_0 h48
  rw [if_pos h48]
  have hN1 : 1 ≤ N := by
    rw [hN] at g1
    rcases Nat.eq_zero_or_pos N with q | q
    · subst q; exact absurd rfl g1
    · exact q
  obtain ⟨hc, hM⟩ := hcf hN1
  have hF1 := hF.v
  have hxs := z_xs_lt (z_row σ0 sh.toNatClampNeg) i.toNatClampNeg
  generalize z_to (z_row σ0 sh.toNatClampNeg) i.toNatClampNeg = to at *
  generalize z_xs (z_row σ0 sh.toNatClampNeg) i.toNatClampNeg = x at *
  generalize (z_lF σ0 sh la i (nI n')).1 43 0 = f at *
  refine x_aload0 (pc2 := 55) dX6_kinds_54 rfl ?_
  refine x_getR (pc2 := 58) fX6_33 sh_43 rfl dX6_kinds_55 rfl ?_
  refine x_iload1 (pc2 := 59) dX6_kinds_58 rfl ?_
  refine x_iald (pc2 := 60) sh_50 (by exact z_in (by omega)) dX6_kinds_59 rfl ?_
  rw [nI_clamp (by omega), hF1.1 50 (by decide) (by decide) (by decide) (by decide) (by decide)]
  refine x_istore7 (pc2 := 62) dX6_kinds_60 rfl rfl ?_
  refine x_iconst (v := 0) (pc2 := 63) dX6_kinds_62 rfl (by decide) ?_
  refine x_istore8 (pc2 := 65) dX6_kinds_63 rfl rfl ?_
  refine x_iconst (v := 0) (pc2 := 66) dX6_kinds_65 rfl (by decide) ?_
  refine x_istore9 (pc2 := 68) dX6_kinds_66 rfl rfl ?_
  suffices h : ∀ m k, k + m = 3 → ∀ τ, gFk σ0 τ f t' → gTm τ n' to x → z_At mX6_kinds (d + 5) 68 [.ref 43, .int (nI t'), .int sh, .int la, .int i, .int (nI n'), .int (z_lC σ0 sh la i (nI n')), .int (σ0.1 50 t'), .int (z_sn (fun v => wAs (cKind c t' (nI v)) to x n' rt rm rs q) k), .int (nI k)] [] τ (fun rv τ => rv = some (.int (z_sn (fun v => wAs (cKind c t' (nI v)) to x n' rt rm rs q) 3)) ∧ gFv σ0 τ f) from h 3 0 (by omega) τ (hF1.k t') hT
  clear hT hF hF1
  intro m
  induction m with
  | zero =>
    intro k hk τ hFx hT
    obtain rfl : k = 3 := by omega
    refine x_iload9 (pc2 := 70) dX6_kinds_68 rfl ?_
    refine x_iconst (v := 3) (pc2 := 71) dX6_kinds_70 rfl (by decide) ?_
    refine x_icmp_ge (pc2 := 74) (pc3 := 108) dX6_kinds_71 rfl rfl (fun h71 => ?_) (fun h71 => ?_)
    · skip
      refine x_aload0 (pc2 := 109) dX6_kinds_108 rfl ?_
      refine x_getR (pc2 := 112) fX6_33 sh_43 rfl dX6_kinds_109 rfl ?_
      refine x_iload1 (pc2 := 113) dX6_kinds_112 rfl ?_
      refine x_iload7 (pc2 := 115) dX6_kinds_113 rfl ?_
      refine x_iast (pc2 := 116) sh_50 (by exact z_in (by omega)) dX6_kinds_115 rfl ?_
      refine x_iload8 (pc2 := 118) dX6_kinds_116 rfl ?_
      refine x_iret dX6_kinds_118 rfl ?_
      rw [nI_clamp (by omega)]
      exact ⟨rfl, hFx.back⟩
    · exact absurd (by decide) h71
  | succ m ih =>
    intro k hk τ hFx hT
    refine x_iload9 (pc2 := 70) dX6_kinds_68 rfl ?_
    refine x_iconst (v := 3) (pc2 := 71) dX6_kinds_70 rfl (by decide) ?_
    refine x_icmp_ge (pc2 := 74) (pc3 := 108) dX6_kinds_71 rfl rfl (fun h71 => ?_) (fun h71 => ?_)
    · exact absurd h71 (nI_ge (a := k) (b := 3) (by omega) (by decide))
    · skip
      refine x_aload0 (pc2 := 75) dX6_kinds_74 rfl ?_
      refine x_getR (pc2 := 78) fX6_33 sh_43 rfl dX6_kinds_75 rfl ?_
      refine x_iload1 (pc2 := 79) dX6_kinds_78 rfl ?_
      refine x_iload9 (pc2 := 81) dX6_kinds_79 rfl ?_
      refine x_iast (pc2 := 82) sh_50 (by exact z_in (by omega)) dX6_kinds_81 rfl ?_
      refine x_iload8 (pc2 := 84) dX6_kinds_82 rfl ?_
      refine x_aload0 (pc2 := 85) dX6_kinds_84 rfl ?_
      rw [nI_clamp (by omega)]
      have hM1 := hM.kind hFx (nI k)
      have hFx1 := hFx.s (nI k)
      have hT1 : gTm (z_st τ 50 t' (nI k)) n' to x := hT.gen (by rw [z_st_row _ _ _ (by decide)]) (z_st_row _ _ _ (by decide)) (z_st_row _ _ _ (by decide))
      refine x_cV0 eX6_areSo kX6_252 sh_43 rfl (Nat.le_of_ble_eq_true rfl) dX6_kinds_85 ?_
      refine (s_areSo d (hc.kind (by omega)) hM1 hT1 hxs (by rw [hFx1.2.1 34 (by decide) (by decide) (by decide) (by decide)]; exact hq0) ⟨hR0.1, fun j hj => by
        rw [hFx1.1 60 (by decide) (by decide) (by decide) (by decide) (by decide) (by decide), hFx1.1 61 (by decide) (by decide) (by decide) (by decide) (by decide) (by decide), hFx1.1 62 (by decide) (by decide) (by decide) (by decide) (by decide) (by decide)]
        exact hR0.2 j hj⟩).mono ?_
      rintro rv υ ⟨rfl, hFc⟩
      show z_At _ _ 88 _ [.int _, .int _] _ _
      have hFx2 := hFx1.c hFc
      have hT2 := hT1.of hFc
      refine x_if_eq (pc2 := 91) (pc3 := 98) dX6_kinds_88 rfl rfl (fun h88 => ?_) (fun h88 => ?_)
      · have h88' := z_b0.mp h88
        refine x_iconst (v := 0) (pc2 := 99) dX6_kinds_98 rfl (by decide) ?_
        refine x_ior (pc2 := 100) dX6_kinds_99 rfl ?_
        refine x_istore8 (pc2 := 102) dX6_kinds_100 rfl rfl ?_
        refine x_iinc9 (pc2 := 105) dX6_kinds_102 rfl (z_inc1 _) rfl ?_
        refine x_goto (pc2 := 68) dX6_kinds_105 rfl ?_
        rw [← nI_succ, z_or0]
        have := ih (k + 1) (by omega) υ hFx2 hT2
        rw [z_sn, if_neg (by rw [h88']; decide)] at this
        exact this
      · have h88' := z_bn0.mp h88
        refine x_iconst (v := 1) (pc2 := 92) dX6_kinds_91 rfl (by decide) ?_
        refine x_iload9 (pc2 := 94) dX6_kinds_92 rfl ?_
        refine x_ishl (pc2 := 95) dX6_kinds_94 rfl ?_
        refine x_goto (pc2 := 99) dX6_kinds_95 rfl ?_
        refine x_ior (pc2 := 100) dX6_kinds_99 rfl ?_
        refine x_istore8 (pc2 := 102) dX6_kinds_100 rfl rfl ?_
        refine x_iinc9 (pc2 := 105) dX6_kinds_102 rfl (z_inc1 _) rfl ?_
        refine x_goto (pc2 := 68) dX6_kinds_105 rfl ?_
        rw [← nI_succ]
        have := ih (k + 1) (by omega) υ hFx2 hT2
        rw [z_sn, if_pos h88'] at this
        exact this
