/-! the class's since and kinds: their loops -/
theorem gRd.x {σ τ : zS} {f : Int32} {q : Nat} {rt rm : Nat → Nat} {rs : Nat → Int32} (h : gRd σ 23 24 25 q rt rm rs) (hf : gFx σ τ f) : gRd τ 23 24 25 q rt rm rs := ⟨h.1, fun k hk => by
    rw [hf.1 23 (by decide) (by decide) (by decide), hf.1 24 (by decide) (by decide) (by decide), hf.1 25 (by decide) (by decide) (by decide)]
    exact h.2 k hk⟩
theorem gTc.bc {σ τ : zS} {n : Nat} {to x : Nat → Nat} (h : gTc σ n to x) (hb : gBc 7 1 σ τ) : gTc τ n to x := by
  obtain ⟨a, b, e⟩ := h
  refine ⟨by rw [hb.1 26 (by decide)]; exact a, b, fun k hk => ?_⟩
  rw [hb.1 27 (by decide), hb.1 28 (by decide)]
  exact e k hk
theorem gTc.dst {σ : zS} {n : Nat} {to x : Nat → Nat} (h : gTc σ n to x) {q j : Nat} (hq : 7 ≤ q ∧ q ≤ 12) (v : Int32) : gTc (z_st σ q j v) n to x := by
  obtain ⟨a, b, e⟩ := h
  refine ⟨by rw [z_st_row _ _ _ (by omega)]; exact a, b, fun k hk => ?_⟩
  rw [z_st_row _ _ _ (by omega), z_st_row _ _ _ (by omega)]
  exact e k hk
theorem gDr.c {σ τ : zS} {c : zG} (h : gDr σ c) (hf : gFc σ τ) : gDr τ c := by
  obtain ⟨c', hC, hE⟩ := h
  exact ⟨c', hC.of z_P7 hf, hE⟩
theorem gDr.rain {σ : zS} {c : zG} (h : gDr σ c) (v : Int32) : gDr (z_st σ 7 1 v) (cRain c v) := by
  obtain ⟨c', ⟨⟨a1, a2, a3⟩, ⟨b1, b2⟩, ⟨c1, c2, c3⟩, d1, e1⟩, g1, g2, g3, g4, g5, g6, g7⟩ := h
  refine ⟨cRain c' v, ⟨⟨?_, ?_, a3⟩, ⟨?_, ?_⟩, ⟨?_, ?_, ?_⟩, ?_, ?_⟩, g1, g2, g3, g4, g5, g6, rfl⟩
  · rw [z_st_fld _ _ _ (by decide)]; exact a1
  · rw [z_st_fld _ _ _ (by decide)]; exact a2
  · rw [z_st_row _ _ _ (by decide)]; exact b1
  · rw [z_st_row _ _ _ (by decide)]; exact b2
  · rw [z_st_row _ _ _ (by decide)]; exact c1
  · rw [z_st_row _ _ _ (by decide)]; exact c2
  · rw [z_st_row _ _ _ (by decide)]; exact c3
  · rw [z_st_fld _ _ _ (by decide)]; exact d1
  · exact z_st_at _ _ _ _
theorem gDr.kind {σ : zS} {c : zG} (h : gDr σ c) (t : Nat) (v : Int32) : gDr (z_st σ 11 t v) (cKind c t v) := by
  obtain ⟨c', ⟨⟨a1, a2, a3⟩, ⟨b1, b2⟩, ⟨c1, c2, c3⟩, d1, e1⟩, g1, g2, g3, g4, g5, g6, g7⟩ := h
  refine ⟨cKind c' t v, ⟨⟨?_, ?_, a3⟩, ⟨?_, ?_⟩, ⟨?_, ?_, ?_⟩, ?_, ?_⟩, g1, g2, g3, fun q hq => ⟨?_, (g4 q hq).2⟩, g5, g6, g7⟩
  · rw [z_st_row _ _ _ (by decide)]; exact a1
  · rw [z_st_row _ _ _ (by decide)]; exact a2
  · show (z_st σ 11 t v).1 11 = upd (cKd c') t v
    rw [z_st_rowS]; exact congrArg (fun f => upd f t v) b1
  · rw [z_st_row _ _ _ (by decide)]; exact b2
  · rw [z_st_row _ _ _ (by decide)]; exact c1
  · rw [z_st_row _ _ _ (by decide)]; exact c2
  · rw [z_st_row _ _ _ (by decide)]; exact c3
  · rw [z_st_row _ _ _ (by decide)]; exact d1
  · rw [z_st_row _ _ _ (by decide)]; exact e1
  · show upd (cKd c) t v q = upd (cKd c') t v q
    unfold upd
    split
    · rfl
    · exact (g4 q hq).1
theorem cRain_rain (c : zG) (u v : Int32) : cRain (cRain c u) v = cRain c v := rfl
theorem gEq_kind {c : zG} (t : Nat) (u v : Int32) : gEq (cKind (cKind c t u) t v) (cKind c t v) := by
  refine ⟨rfl, rfl, rfl, fun q _ => ⟨?_, rfl⟩, fun _ _ => ⟨rfl, rfl, rfl⟩, rfl, rfl⟩
  show upd (upd (cKd c) t u) t v q = upd (cKd c) t v q
  unfold upd
  split <;> simp_all
theorem gDr.eq {σ : zS} {c c' : zG} (h : gDr σ c) (he : gEq c' c) : gDr σ c' := by
  obtain ⟨c'', hC, hE⟩ := h
  exact ⟨c'', hC, he.trans hE⟩
theorem s_sinceC (d : Nat) (σ σ0 : zS) (hσ : σ0 = z_f0 σ) (sh la i n : Int32) {N K : Nat} (hN : σ0.1 1 2 = nI N) (hN3 : N ≤ 3) (hK : σ0.1 1 6 = nI K) (hK4 : K ≤ 4) (hz : vp_in sh 4 → ∃ z : Nat, σ0.1 (14 + sh.toNatClampNeg) 1 = nI z ∧ z ≤ 60) {c : zG} (hcf : 1 ≤ N → gWf c ∧ gC 1 σ0 c) (hbd : ∀ j, j < 3 → σ0.1 4 j = 0 ∨ σ0.1 4 j = 1) (hb0 : σ0.1 29 0 = 0) {q : Nat} {rt rm : Nat → Nat} {rs : Nat → Int32} (hq0 : σ0.1 22 0 = nI q) (hR0 : gRd σ0 23 24 25 q rt rm rs) : z_Ex mX5_since (d + 5) [.ref 0, .int sh, .int la, .int i, .int n] σ (fun rv τ => rv = some (.int (if z_tC σ0 sh la i n 1 = 0 then z_sn (fun v => wAs (cRain c (nI v)) (z_to (σ0.1 (14 + sh.toNatClampNeg + 4)) i.toNatClampNeg) (z_xs (σ0.1 (14 + sh.toNatClampNeg + 4)) i.toNatClampNeg) n.toNatClampNeg rt rm rs q) 31 else z_tC σ0 sh la i n 1)) ∧ gFx σ0 τ ((z_tF σ0 sh la i n 1).1 0 13)) := by
  refine x_enter (by decide) (Nat.le_of_ble_eq_true rfl) ?_
  show z_At _ _ _ [.ref 0, .int sh, .int la, .int i, .int n, .null, .null, .null] _ _ _
  refine x_aload0 (pc2 := 1) dX5_since_0 rfl ?_
  refine x_iconst (v := 0) (pc2 := 2) dX5_since_1 rfl (by decide) ?_
  refine x_putI (pc2 := 5) pX5_53 sh_0 rfl dX5_since_2 rfl ?_
  rw [show z_st σ 0 13 0 = σ0 from hσ.symm]
  clear hσ
  refine x_aload0 (pc2 := 6) dX5_since_5 rfl ?_
  refine x_iload1 (pc2 := 7) dX5_since_6 rfl ?_
  refine x_iload2 (pc2 := 8) dX5_since_7 rfl ?_
  refine x_iload3 (pc2 := 9) dX5_since_8 rfl ?_
  refine x_iload4 (pc2 := 11) dX5_since_9 rfl ?_
  refine x_iconst (v := 1) (pc2 := 12) dX5_since_11 rfl (by decide) ?_
  refine x_cV5 eX5_takeTrips kX5_130 sh_0 rfl (Nat.le_of_ble_eq_true rfl) dX5_since_12 ?_
  refine (s_takeTrips (d + 2) sh la i n 1 hN hN3 hK hK4 hz).mono ?_
  rintro rv τ ⟨rfl, hF, hT⟩
  show z_At _ _ 15 _ [.int _] _ _
  refine x_istore5 (pc2 := 17) dX5_since_15 rfl rfl ?_
  refine x_iload5 (pc2 := 19) dX5_since_17 rfl ?_
  refine x_if_eq (pc2 := 22) (pc3 := 25) dX5_since_19 rfl rfl (fun h19 => ?_) (fun h19 => ?_)
  rotate_left
  · skip
    refine x_iload5 (pc2 := 24) dX5_since_22 rfl ?_
    refine x_iret dX5_since_24 rfl ?_
    rw [if_neg h19]
    exact ⟨rfl, hF.w.x⟩
  have hT := hT h19
  obtain ⟨g1, g2, g3, g4⟩ := z_tC_0 h19
  rw [if_pos h19]
  have hN1 : 1 ≤ N := by
    rw [hN] at g1
    unfold z_pos at g1
    rcases Nat.eq_zero_or_pos N with q | q
    · subst q; exact absurd g1 (by decide)
    · exact q
  obtain ⟨hc, hC⟩ := hcf hN1
  have hcN : cN c = N := nI_inj (by have := hc.2.1; omega) (by omega) (by rw [← hC.1.2.1, hN])
  rw [hN, hK] at g2
  have hF1 := hF.w
  have hC1 : gC 1 τ c := hC.w hF1
  have hvN := z_ck_to hN3 g2
  have hxs := z_xs_lt (σ0.1 (14 + sh.toNatClampNeg + 4)) i.toNatClampNeg
  generalize z_to (σ0.1 (14 + sh.toNatClampNeg + 4)) i.toNatClampNeg = to at *
  generalize z_xs (σ0.1 (14 + sh.toNatClampNeg + 4)) i.toNatClampNeg = x at *
  generalize n.toNatClampNeg = n' at *
  generalize (z_tF σ0 sh la i n 1).1 0 13 = f at *
  refine x_aload0 (pc2 := 26) dX5_since_25 rfl ?_
  refine x_getR (pc2 := 29) fX5_18 sh_0 rfl dX5_since_26 rfl ?_
  refine x_aload0 (pc2 := 30) dX5_since_29 rfl ?_
  refine x_getR (pc2 := 33) fX5_12 sh_0 rfl dX5_since_30 rfl ?_
  refine x_cV1 eX0_become kX5_79 sh_7 rfl (Nat.le_of_ble_eq_true rfl) dX5_since_33 ?_
  refine (s_become _ (Or.inr ⟨rfl, rfl⟩) (fun j hj => by rw [hF1.1 4 (by decide) (by decide) (by decide) (by decide) (by decide) (by decide)]; exact hbd j hj)).mono ?_
  rintro rv υ ⟨rfl, hB⟩
  show z_At _ _ 36 _ [] _ _
  have hD := hB.dr hc hC1
  have hFx := hF1.x.b hB
  have hTu := hT.bc hB
  refine x_iconst (v := 0) (pc2 := 37) dX5_since_36 rfl (by decide) ?_
  refine x_istore6 (pc2 := 39) dX5_since_37 rfl rfl ?_
  refine x_iconst (v := 0) (pc2 := 40) dX5_since_39 rfl (by decide) ?_
  refine x_istore7 (pc2 := 42) dX5_since_40 rfl rfl ?_
  suffices h : ∀ m k, k + m = 31 → ∀ τ, gFx σ0 τ f → gTc τ n' to x → (∃ u, gDr τ (cRain c u)) → z_At mX5_since (d + 5) 42 [.ref 0, .int sh, .int la, .int i, .int n, .int (z_tC σ0 sh la i n 1), .int (z_sn (fun v => wAs (cRain c (nI v)) to x n' rt rm rs q) k), .int (nI k)] [] τ (fun rv τ => rv = some (.int (z_sn (fun v => wAs (cRain c (nI v)) to x n' rt rm rs q) 31)) ∧ gFx σ0 τ f) from h 31 0 (by omega) υ hFx hTu ⟨cR c, hD⟩
  clear hFx hTu hD hB hT hF hF1 hC1
  intro m
  induction m with
  | zero =>
    intro k hk τ hFx hT hD
    obtain rfl : k = 31 := by omega
    refine x_iload7 (pc2 := 44) dX5_since_42 rfl ?_
    refine x_bipush (v := 30) (pc2 := 46) dX5_since_44 rfl (by decide) ?_
    refine x_icmp_gt (pc2 := 49) (pc3 := 80) dX5_since_46 rfl rfl (fun h46 => ?_) (fun h46 => ?_)
    · skip
      refine x_iload6 (pc2 := 82) dX5_since_80 rfl ?_
      refine x_iret dX5_since_82 rfl ?_
      exact ⟨rfl, hFx⟩
    · exact absurd (by decide) h46
  | succ m ih =>
    intro k hk τ hFx hT ⟨u, hD⟩
    refine x_iload7 (pc2 := 44) dX5_since_42 rfl ?_
    refine x_bipush (v := 30) (pc2 := 46) dX5_since_44 rfl (by decide) ?_
    refine x_icmp_gt (pc2 := 49) (pc3 := 80) dX5_since_46 rfl rfl (fun h46 => ?_) (fun h46 => ?_)
    · rw [show (30 : Int32) = nI 30 from rfl, nI_lt_iff (by decide) (by omega)] at h46
      omega
    · skip
      refine x_aload0 (pc2 := 50) dX5_since_49 rfl ?_
      refine x_getR (pc2 := 53) fX5_18 sh_0 rfl dX5_since_50 rfl ?_
      refine x_iload7 (pc2 := 55) dX5_since_53 rfl ?_
      refine x_putI (pc2 := 58) pX5_121 sh_7 rfl dX5_since_55 rfl ?_
      refine x_aload0 (pc2 := 59) dX5_since_58 rfl ?_
      have hD1 := hD.rain (nI k)
      rw [cRain_rain] at hD1
      have hFx1 := hFx.d (q := 7) (j := 1) (by decide) (nI k)
      have hT1 := hT.dst (q := 7) (j := 1) (by decide) (nI k)
      refine x_cV0 eX5_draftIsAsRead kX5_208 sh_0 rfl (Nat.le_of_ble_eq_true rfl) dX5_since_59 ?_
      refine (s_draftIsAsRead d (hc.rain (by omega)) hD1 hT1 hxs (fun k hk => by show to k ≤ cN c; rw [hcN]; exact hvN k hk) (by rw [hFx1.2.2.2.1]; exact hb0) (by rw [hFx1.1 22 (by decide) (by decide) (by decide)]; exact hq0) (hR0.x hFx1)).mono ?_
      rintro rv υ ⟨rfl, hFc⟩
      show z_At _ _ 62 _ [.int _] _ _
      have hFx2 := hFx1.c hFc
      have hT2 := hT1.of hFc
      have hD2 := hD1.c hFc
      refine x_if_eq (pc2 := 65) (pc3 := 74) dX5_since_62 rfl rfl (fun h62 => ?_) (fun h62 => ?_)
      · have h62' := z_b0.mp h62
        refine x_iinc7 (pc2 := 77) dX5_since_74 rfl (z_inc1 _) rfl ?_
        refine x_goto (pc2 := 42) dX5_since_77 rfl ?_
        rw [← nI_succ]
        have := ih (k + 1) (by omega) υ hFx2 hT2 ⟨_, hD2⟩
        rw [z_sn, if_neg (by rw [h62']; decide)] at this
        exact this
      · have h62' := z_bn0.mp h62
        refine x_iload6 (pc2 := 67) dX5_since_65 rfl ?_
        refine x_iconst (v := 1) (pc2 := 68) dX5_since_67 rfl (by decide) ?_
        refine x_iload7 (pc2 := 70) dX5_since_68 rfl ?_
        refine x_ishl (pc2 := 71) dX5_since_70 rfl ?_
        refine x_ior (pc2 := 72) dX5_since_71 rfl ?_
        refine x_istore6 (pc2 := 74) dX5_since_72 rfl rfl ?_
        refine x_iinc7 (pc2 := 77) dX5_since_74 rfl (z_inc1 _) rfl ?_
        refine x_goto (pc2 := 42) dX5_since_77 rfl ?_
        rw [← nI_succ]
        have := ih (k + 1) (by omega) υ hFx2 hT2 ⟨_, hD2⟩
        rw [z_sn, if_pos h62'] at this
        exact this
theorem s_kindsC (d : Nat) (σ σ0 : zS) (hσ : σ0 = z_f0 σ) (t sh la i n : Int32) {N K : Nat} (hN : σ0.1 1 2 = nI N) (hN3 : N ≤ 3) (hK : σ0.1 1 6 = nI K) (hK4 : K ≤ 4) (hz : vp_in sh 4 → ∃ z : Nat, σ0.1 (14 + sh.toNatClampNeg) 1 = nI z ∧ z ≤ 60) {c : zG} (hcf : 1 ≤ N → gWf c ∧ gC 1 σ0 c) (hbd : ∀ j, j < 3 → σ0.1 4 j = 0 ∨ σ0.1 4 j = 1) (hb0 : σ0.1 29 0 = 0) {q : Nat} {rt rm : Nat → Nat} {rs : Nat → Int32} (hq0 : σ0.1 22 0 = nI q) (hR0 : gRd σ0 23 24 25 q rt rm rs) : z_Ex mX5_kinds (d + 5) [.ref 0, .int t, .int sh, .int la, .int i, .int n] σ (fun rv τ => rv = some (.int (if z_rng t (nI K) = false then -1 else if z_tC σ0 sh la i n 1 = 0 then z_sn (fun v => wAs (cKind c t.toNatClampNeg (nI v)) (z_to (σ0.1 (14 + sh.toNatClampNeg + 4)) i.toNatClampNeg) (z_xs (σ0.1 (14 + sh.toNatClampNeg + 4)) i.toNatClampNeg) n.toNatClampNeg rt rm rs q) 3 else z_tC σ0 sh la i n 1)) ∧ gFx σ0 τ (if z_rng t (nI K) = false then σ0.1 0 13 else (z_tF σ0 sh la i n 1).1 0 13)) := by
  refine x_enter (by decide) (Nat.le_of_ble_eq_true rfl) ?_
  show z_At _ _ _ [.ref 0, .int t, .int sh, .int la, .int i, .int n, .null, .null, .null] _ _ _
  have hrf : gFx σ0 σ0 (σ0.1 0 13) := ⟨fun _ _ _ _ => rfl, fun _ _ => rfl, rfl, rfl, fun _ _ => rfl⟩
  refine x_aload0 (pc2 := 1) dX5_kinds_0 rfl ?_
  refine x_iconst (v := 0) (pc2 := 2) dX5_kinds_1 rfl (by decide) ?_
  refine x_putI (pc2 := 5) pX5_53 sh_0 rfl dX5_kinds_2 rfl ?_
  rw [show z_st σ 0 13 0 = σ0 from hσ.symm]
  clear hσ
  refine x_aload0 (pc2 := 6) dX5_kinds_5 rfl ?_
  refine x_getR (pc2 := 9) fX5_12 sh_0 rfl dX5_kinds_6 rfl ?_
  refine x_iload1 (pc2 := 10) dX5_kinds_9 rfl ?_
  refine x_fV1 (pc2 := 13) eX0_hasThing kX5_105 sh_1 rfl (Nat.le_of_ble_eq_true rfl) dX5_kinds_10 rfl (s_hasThing _ _ z_P1 _) ?_
  rw [hK]
  refine x_if_ne (pc2 := 16) (pc3 := 18) dX5_kinds_13 rfl rfl (fun h13 => ?_) (fun h13 => ?_)
  rotate_left
  · have h13' := z_b0.mp h13
    refine x_iconst (v := -1) (pc2 := 17) dX5_kinds_16 rfl (by decide) ?_
    refine x_iret dX5_kinds_17 rfl ?_
    rw [if_pos h13', if_pos h13']
    exact ⟨rfl, hrf⟩
  have h13' := z_bn0.mp h13
  have n13 : ¬ z_rng t (nI K) = false := by rw [h13']; decide
  rw [if_neg n13, if_neg n13]
  obtain ⟨t', t1, t2, t3⟩ := z_rng_nat (by omega) h13'
  rw [t3]
  refine x_aload0 (pc2 := 19) dX5_kinds_18 rfl ?_
  refine x_iload2 (pc2 := 20) dX5_kinds_19 rfl ?_
  refine x_iload3 (pc2 := 21) dX5_kinds_20 rfl ?_
  refine x_iload4 (pc2 := 23) dX5_kinds_21 rfl ?_
  refine x_iload5 (pc2 := 25) dX5_kinds_23 rfl ?_
  refine x_iconst (v := 1) (pc2 := 26) dX5_kinds_25 rfl (by decide) ?_
  refine x_cV5 eX5_takeTrips kX5_130 sh_0 rfl (Nat.le_of_ble_eq_true rfl) dX5_kinds_26 ?_
  refine (s_takeTrips (d + 2) sh la i n 1 hN hN3 hK hK4 hz).mono ?_
  rintro rv τ ⟨rfl, hF, hT⟩
  show z_At _ _ 29 _ [.int _] _ _
  refine x_istore6 (pc2 := 31) dX5_kinds_29 rfl rfl ?_
  refine x_iload6 (pc2 := 33) dX5_kinds_31 rfl ?_
  refine x_if_eq (pc2 := 36) (pc3 := 39) dX5_kinds_33 rfl rfl (fun h33 => ?_) (fun h33 => ?_)
  rotate_left
  · skip
    refine x_iload6 (pc2 := 38) dX5_kinds_36 rfl ?_
    refine x_iret dX5_kinds_38 rfl ?_
    rw [if_neg h33]
    exact ⟨rfl, hF.w.x⟩
  have hT := hT h33
  obtain ⟨g1, g2, g3, g4⟩ := z_tC_0 h33
  rw [if_pos h33]
  have hN1 : 1 ≤ N := by
    rw [hN] at g1
    unfold z_pos at g1
    rcases Nat.eq_zero_or_pos N with q | q
    · subst q; exact absurd g1 (by decide)
    · exact q
  obtain ⟨hc, hC⟩ := hcf hN1
  have hcN : cN c = N := nI_inj (by have := hc.2.1; omega) (by omega) (by rw [← hC.1.2.1, hN])
  rw [hN, hK] at g2
  have hF1 := hF.w
  have hC1 : gC 1 τ c := hC.w hF1
  have hvN := z_ck_to hN3 g2
  have hxs := z_xs_lt (σ0.1 (14 + sh.toNatClampNeg + 4)) i.toNatClampNeg
  generalize z_to (σ0.1 (14 + sh.toNatClampNeg + 4)) i.toNatClampNeg = to at *
  generalize z_xs (σ0.1 (14 + sh.toNatClampNeg + 4)) i.toNatClampNeg = x at *
  generalize n.toNatClampNeg = n' at *
  generalize (z_tF σ0 sh la i n 1).1 0 13 = f at *
  refine x_aload0 (pc2 := 40) dX5_kinds_39 rfl ?_
  refine x_getR (pc2 := 43) fX5_18 sh_0 rfl dX5_kinds_40 rfl ?_
  refine x_aload0 (pc2 := 44) dX5_kinds_43 rfl ?_
  refine x_getR (pc2 := 47) fX5_12 sh_0 rfl dX5_kinds_44 rfl ?_
  refine x_cV1 eX0_become kX5_79 sh_7 rfl (Nat.le_of_ble_eq_true rfl) dX5_kinds_47 ?_
  refine (s_become _ (Or.inr ⟨rfl, rfl⟩) (fun j hj => by rw [hF1.1 4 (by decide) (by decide) (by decide) (by decide) (by decide) (by decide)]; exact hbd j hj)).mono ?_
  rintro rv υ ⟨rfl, hB⟩
  show z_At _ _ 50 _ [] _ _
  have hD := hB.dr hc hC1
  have hFx := hF1.x.b hB
  have hTu := hT.bc hB
  refine x_iconst (v := 0) (pc2 := 51) dX5_kinds_50 rfl (by decide) ?_
  refine x_istore7 (pc2 := 53) dX5_kinds_51 rfl rfl ?_
  refine x_iconst (v := 0) (pc2 := 54) dX5_kinds_53 rfl (by decide) ?_
  refine x_istore8 (pc2 := 56) dX5_kinds_54 rfl rfl ?_
  suffices h : ∀ m k, k + m = 3 → ∀ τ, gFx σ0 τ f → gTc τ n' to x → (∃ c', gDr τ c' ∧ ∀ v, gEq (cKind c t' v) (cKind c' t' v)) → z_At mX5_kinds (d + 5) 56 [.ref 0, .int t, .int sh, .int la, .int i, .int n, .int (z_tC σ0 sh la i n 1), .int (z_sn (fun v => wAs (cKind c t' (nI v)) to x n' rt rm rs q) k), .int (nI k)] [] τ (fun rv τ => rv = some (.int (z_sn (fun v => wAs (cKind c t' (nI v)) to x n' rt rm rs q) 3)) ∧ gFx σ0 τ f) from h 3 0 (by omega) υ hFx hTu ⟨c, hD, fun v => ⟨rfl, rfl, rfl, fun _ _ => ⟨rfl, rfl⟩, fun _ _ => ⟨rfl, rfl, rfl⟩, rfl, rfl⟩⟩
  clear hFx hTu hD hB hT hF hF1 hC1
  intro m
  induction m with
  | zero =>
    intro k hk τ hFx hT hD
    obtain rfl : k = 3 := by omega
    refine x_iload8 (pc2 := 58) dX5_kinds_56 rfl ?_
    refine x_iconst (v := 3) (pc2 := 59) dX5_kinds_58 rfl (by decide) ?_
    refine x_icmp_ge (pc2 := 62) (pc3 := 95) dX5_kinds_59 rfl rfl (fun h59 => ?_) (fun h59 => ?_)
    · skip
      refine x_iload7 (pc2 := 97) dX5_kinds_95 rfl ?_
      refine x_iret dX5_kinds_97 rfl ?_
      exact ⟨rfl, hFx⟩
    · exact absurd (by decide) h59
  | succ m ih =>
    intro k hk τ hFx hT ⟨c', hD, hE⟩
    refine x_iload8 (pc2 := 58) dX5_kinds_56 rfl ?_
    refine x_iconst (v := 3) (pc2 := 59) dX5_kinds_58 rfl (by decide) ?_
    refine x_icmp_ge (pc2 := 62) (pc3 := 95) dX5_kinds_59 rfl rfl (fun h59 => ?_) (fun h59 => ?_)
    · exact absurd h59 (nI_ge (a := k) (b := 3) (by omega) (by decide))
    · rw [t2]
      refine x_aload0 (pc2 := 63) dX5_kinds_62 rfl ?_
      refine x_getR (pc2 := 66) fX5_18 sh_0 rfl dX5_kinds_63 rfl ?_
      refine x_getR (pc2 := 69) fX5_108 sh_7 rfl dX5_kinds_66 rfl ?_
      refine x_iload1 (pc2 := 70) dX5_kinds_69 rfl ?_
      refine x_iload8 (pc2 := 72) dX5_kinds_70 rfl ?_
      refine x_iast (pc2 := 73) sh_11 (by exact z_in (by omega)) dX5_kinds_72 rfl ?_
      refine x_aload0 (pc2 := 74) dX5_kinds_73 rfl ?_
      rw [nI_clamp (by omega)]
      have hD1 := (hD.kind t' (nI k)).eq (hE (nI k))
      have hFx1 := hFx.d (q := 11) (j := t') (by decide) (nI k)
      have hT1 := hT.dst (q := 11) (j := t') (by decide) (nI k)
      refine x_cV0 eX5_draftIsAsRead kX5_208 sh_0 rfl (Nat.le_of_ble_eq_true rfl) dX5_kinds_74 ?_
      refine (s_draftIsAsRead d (hc.kind (by omega)) hD1 hT1 hxs (fun k hk => by show to k ≤ cN c; rw [hcN]; exact hvN k hk) (by rw [hFx1.2.2.2.1]; exact hb0) (by rw [hFx1.1 22 (by decide) (by decide) (by decide)]; exact hq0) (hR0.x hFx1)).mono ?_
      rintro rv υ ⟨rfl, hFc⟩
      show z_At _ _ 77 _ [.int _] _ _
      have hFx2 := hFx1.c hFc
      have hT2 := hT1.of hFc
      have hD2 := hD1.c hFc
      have hE2 : ∀ v, gEq (cKind c t' v) (cKind (cKind c t' (nI k)) t' v) := fun v => (gEq_kind t' (nI k) v).symm
      rw [t2] at ih
      refine x_if_eq (pc2 := 80) (pc3 := 89) dX5_kinds_77 rfl rfl (fun h77 => ?_) (fun h77 => ?_)
      · have h77' := z_b0.mp h77
        refine x_iinc8 (pc2 := 92) dX5_kinds_89 rfl (z_inc1 _) rfl ?_
        refine x_goto (pc2 := 56) dX5_kinds_92 rfl ?_
        rw [← nI_succ]
        have := ih (k + 1) (by omega) υ hFx2 hT2 ⟨_, hD2, hE2⟩
        rw [z_sn, if_neg (by rw [h77']; decide)] at this
        exact this
      · have h77' := z_bn0.mp h77
        refine x_iload7 (pc2 := 82) dX5_kinds_80 rfl ?_
        refine x_iconst (v := 1) (pc2 := 83) dX5_kinds_82 rfl (by decide) ?_
        refine x_iload8 (pc2 := 85) dX5_kinds_83 rfl ?_
        refine x_ishl (pc2 := 86) dX5_kinds_85 rfl ?_
        refine x_ior (pc2 := 87) dX5_kinds_86 rfl ?_
        refine x_istore7 (pc2 := 89) dX5_kinds_87 rfl rfl ?_
        refine x_iinc8 (pc2 := 92) dX5_kinds_89 rfl (z_inc1 _) rfl ?_
        refine x_goto (pc2 := 56) dX5_kinds_92 rfl ?_
        rw [← nI_succ]
        have := ih (k + 1) (by omega) υ hFx2 hT2 ⟨_, hD2, hE2⟩
        rw [z_sn, if_pos h77'] at this
        exact this
