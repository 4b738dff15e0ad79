/-! PortageTrips$Walk.goOne -/
theorem gb_ior : ∀ x < 16, ∀ y < 16, (nI x ||| nI y : Int32) = nI (x ||| y) := by decide +kernel
theorem gb_sub : ∀ x < 16, ∀ y < 16, x &&& (15 - y) = 0 → ∀ t < 4, x.testBit t = true → y.testBit t = true := by decide +kernel
theorem gb_or16 : ∀ x < 16, ∀ y < 16, x ||| y < 16 := by decide +kernel
theorem gOk_sub {c : zG} {s v x : Nat} (hK : cK c ≤ 4) (hx : x < 16) (h : gOk c s v x = true) {t : Nat} (ht : t < 4) (hb : x.testBit t = true) : t < cK c ∧ t ≠ cM c ∧ gd s t = s % 4 := by
  have h1 : x &&& (15 - gHr c s) = 0 := by
    unfold gOk at h
    simp only [Bool.and_eq_true, Bool.or_eq_true, decide_eq_true_eq] at h
    exact h.2.2.1
  have h2 := gb_sub x hx _ (gH_16 _ _ _ hK) h1 t ht hb
  rw [gH_bit] at h2
  simpa using h2
theorem gOk_x0 {c : zG} {s v x : Nat} (hK : cK c ≤ 4) (hx : x < 16) (h : gOk c s v x = true) (h0 : ∀ t, t < cK c → x.testBit t = false) : x = 0 := by
  refine gb_ext x hx 0 (by decide) (fun t ht => ?_)
  rw [Nat.zero_testBit]
  cases hb : x.testBit t with
  | false => rfl
  | true => rw [h0 t (gOk_sub hK hx h ht hb).1] at hb; cases hb
theorem gH_move {c : zG} {s v x : Nat} (hK : cK c ≤ 4) (hv : v < 4) (hx : x < 16) (h : gOk c s v x = true) {q : Nat} : gH (cM c) (gG s v x 4) q (cK c) = if q = v then gH (cM c) s v (cK c) ||| x else if q = s % 4 then gHr c s &&& (15 - x) else gH (cM c) s q (cK c) := by
  have hvs := (gOk_v h).2
  have h16 : ∀ q, gH (cM c) s q (cK c) < 16 := fun q => gH_16 _ _ _ hK
  have key : ∀ t, t < 4 → gd (gG s v x 4) t = if x.testBit t then v else gd s t := fun t ht => by
    rw [gG_gd hv 4 (by decide) t ht]
    simp [ht]
  by_cases e1 : q = v
  · subst e1
    rw [if_pos rfl]
    refine gb_ext _ (gH_16 _ _ _ hK) _ (gb_or16 _ (h16 q) x hx) (fun t ht => ?_)
    rw [gb_tor _ (h16 q) x hx t ht, gH_bit, gH_bit, key t ht]
    cases hb : x.testBit t with
    | false => simp
    | true =>
      have := gOk_sub hK hx h ht hb
      simp [this.1, this.2.1]
  · rw [if_neg e1]
    by_cases e2 : q = s % 4
    · rw [if_pos e2]
      have hr : gHr c s < 16 := gH_16 _ _ _ hK
      refine gb_ext _ (gH_16 _ _ _ hK) _ (gb_and15 _ hr x hx) (fun t ht => ?_)
      rw [gb_tand _ hr x hx t ht, gHr, gH_bit, gH_bit, key t ht]
      cases hb : x.testBit t with
      | false => simp [e2]
      | true =>
        have e3 : ¬ v = q := fun q => e1 q.symm
        simp [e3]
    · rw [if_neg e2]
      refine gb_ext _ (gH_16 _ _ _ hK) _ (h16 q) (fun t ht => ?_)
      rw [gH_bit, gH_bit, key t ht]
      cases hb : x.testBit t with
      | false => simp
      | true =>
        have := gOk_sub hK hx h ht hb
        have e3 : ¬ v = q := fun q => e1 q.symm
        have e4 : ¬ s % 4 = q := fun q => e2 q.symm
        simp [e3, this.2.2, e4]
def gJl (c : zG) (to x : Nat → Nat) (k : Nat) (τ : zS) : Prop := τ.2 26 7 = lN (wU c to x k) ∧ τ.2 26 8 = lN (wL x k)
theorem s_goOne (d : Nat) {σ τ : zS} {r : Nat} (hr : z_isP r) {c : zG} (hc : gWf c) (hC0 : gC r σ c) {n : Nat} {to x : Nat → Nat} (hT0 : gTc σ n to x) (hx : ∀ k, x k < 16) {k : Nat} (hkn : k < n) (hJ : gJc σ c to x k τ) (hl : gJl c to x k τ) (hok1 : ∀ i, i < k + 1 → wOk c to x i = true) : z_Ex mX4_goOne (d + 2) [.ref 26, .ref r, .int (nI k)] τ (fun rv τ' => rv = none ∧ gJc σ c to x (k + 1) τ' ∧ gJl c to x (k + 1) τ') := by
  refine x_enter (by decide) (Nat.le_of_ble_eq_true rfl) ?_
  show z_At _ _ _ [.ref 26, .ref r, .int (nI k), .null, .null, .null] _ _ _
  have hT := hT0.of hJ.1
  have hC := hC0.of hr hJ.1
  have hn18 := hT.2.1
  obtain ⟨t1, t2, t3⟩ := hT.2.2 k hkn
  have hok : ∀ i, i < k → wOk c to x i = true := fun i hi => hok1 i (by omega)
  have hsk := wS_ok hc.2.1.1 k hok
  have hNK := hc.2.1
  have hkl := wK_lt hc.2.1.1 hok1
  have hTle := wT_le hc hx k hok
  have hokk : gOk c (wS to x k) (to k) (x k) = true := hok1 k (by omega)
  have hbk := hJ.2.2.2 k (Nat.le_refl _)
  have hp4 : wS to x k % 4 < 4 := Nat.mod_lt _ (by decide)
  have hxk := hx k
  refine x_aload0 (pc2 := 1) dX4_goOne_0 rfl ?_
  refine x_getR (pc2 := 4) fX4_15 sh_26 rfl dX4_goOne_1 rfl ?_
  refine x_iload2 (pc2 := 5) dX4_goOne_4 rfl ?_
  refine x_iald (pc2 := 6) sh_28 (by exact z_in (by omega)) dX4_goOne_5 rfl ?_
  refine x_istore3 (pc2 := 7) dX4_goOne_6 rfl rfl ?_
  refine x_aload0 (pc2 := 8) dX4_goOne_7 rfl ?_
  refine x_getI (pc2 := 11) fX4_38 sh_26 rfl dX4_goOne_8 rfl ?_
  refine x_aload0 (pc2 := 12) dX4_goOne_11 rfl ?_
  refine x_getR (pc2 := 15) fX4_9 sh_26 rfl dX4_goOne_12 rfl ?_
  refine x_iload2 (pc2 := 16) dX4_goOne_15 rfl ?_
  refine x_iald (pc2 := 17) sh_27 (by exact z_in (by omega)) dX4_goOne_16 rfl ?_
  rw [nI_clamp (by omega), t1, t3, hJ.2.1.1]
  refine x_mmin (pc2 := 20) (by decide +kernel) (Nat.le_of_ble_eq_true rfl) dX4_goOne_17 rfl ?_
  rw [z_mmin (by omega) (by omega), show min (wS to x k % 4) (to k) = wK to x k from rfl]
  refine x_istore4 (pc2 := 22) dX4_goOne_20 rfl rfl ?_
  refine x_aload1 (pc2 := 23) dX4_goOne_22 rfl ?_
  refine x_aload0 (pc2 := 24) dX4_goOne_23 rfl ?_
  refine x_getR (pc2 := 27) fX4_18 sh_26 rfl dX4_goOne_24 rfl ?_
  refine x_iload2 (pc2 := 28) dX4_goOne_27 rfl ?_
  refine x_iald (pc2 := 29) sh_29 (by exact z_in (by omega)) dX4_goOne_28 rfl ?_
  rw [nI_clamp (by omega), hbk]
  refine x_fV1 (pc2 := 32) eX0_rainsIn kX4_82 (sh_P hr) rfl (Nat.le_of_ble_eq_true rfl) dX4_goOne_29 rfl (s_rainsIn _ _ hr _) ?_
  rw [hC.2.2.2.2, show z_rains (cR c) (nI (wT c to x k)) = gWet c (wT c to x k) from rfl]
  refine x_istore5 (pc2 := 34) dX4_goOne_32 rfl rfl ?_
  refine x_aload0 (pc2 := 35) dX4_goOne_34 rfl ?_
  refine x_getR (pc2 := 38) fX4_18 sh_26 rfl dX4_goOne_35 rfl ?_
  refine x_iload2 (pc2 := 39) dX4_goOne_38 rfl ?_
  refine x_iconst (v := 1) (pc2 := 40) dX4_goOne_39 rfl (by decide) ?_
  refine x_iadd (pc2 := 41) dX4_goOne_40 rfl ?_
  refine x_aload0 (pc2 := 42) dX4_goOne_41 rfl ?_
  refine x_getR (pc2 := 45) fX4_18 sh_26 rfl dX4_goOne_42 rfl ?_
  refine x_iload2 (pc2 := 46) dX4_goOne_45 rfl ?_
  refine x_iald (pc2 := 47) sh_29 (by exact z_in (by omega)) dX4_goOne_46 rfl ?_
  refine x_aload1 (pc2 := 48) dX4_goOne_47 rfl ?_
  refine x_iload4 (pc2 := 50) dX4_goOne_48 rfl ?_
  refine x_aload1 (pc2 := 51) dX4_goOne_50 rfl ?_
  refine x_iload3 (pc2 := 52) dX4_goOne_51 rfl ?_
  rw [nI_clamp (by omega), hbk]
  refine x_fV1 (pc2 := 55) eX0_load kX4_69 (sh_P hr) rfl (Nat.le_of_ble_eq_true rfl) dX4_goOne_52 rfl (s_load _ _ hr _ hC.1.1 hc.1) ?_
  refine x_iload5 (pc2 := 57) dX4_goOne_55 rfl ?_
  refine x_fV3 (pc2 := 60) eX0_minutesOver kX4_86 (sh_P hr) rfl (Nat.le_of_ble_eq_true rfl) dX4_goOne_57 rfl (s_minutesOver _ _ hr _ _ _ (z_in (by omega))) ?_
  rw [nI_clamp (by omega), hC.2.1.2, hC.2.2.1.1, hC.2.2.1.2.1, hC.2.2.1.2.2]
  have htk := gTk_nat hc hkl hxk (gWet c (wT c to x k))
  obtain ⟨l, hl36, hle, hl0⟩ := hc.ld hxk
  have hx0 : nI (x k) = 0 ↔ x k = 0 := nI_eq_iff (b := 0) (by omega) (by decide)
  have hlx : nI l = 0 ↔ nI (x k) = 0 := by
    rw [hx0, show (nI l = 0 ↔ l = 0) from nI_eq_iff (b := 0) (by omega) (by decide)]
    constructor
    · intro q; exact gOk_x0 hc.1 hxk hokk (hl0.mp q)
    · intro q; rw [q] at hl0; exact hl0.mpr (fun t _ => Nat.zero_testBit t)
  have hval : (if z_ld (cPd c) (nI (x k)) (cK c) = 0 then cLn c (wK to x k) else cLn c (wK to x k) + z_mud (cBd c (wK to x k)) (cMd c (wK to x k)) (z_b (gWet c (wT c to x k))) + z_ld (cPd c) (nI (x k)) (cK c) / 3) = nI (gTk c (wK to x k) (x k) (gWet c (wT c to x k))) := by
    rw [← htk.1]
    rw [hle]
    by_cases e : nI (x k) = 0
    · rw [if_pos e, if_pos (hlx.mpr e)]
    · rw [if_neg e, if_neg (fun q => e (hlx.mp q))]
  rw [hval]
  refine x_iadd (pc2 := 61) dX4_goOne_60 rfl ?_
  rw [z_nIadd, show wT c to x k + gTk c (wK to x k) (x k) (gWet c (wT c to x k)) = wT c to x (k + 1) from rfl, ← nI_succ]
  refine x_iast (pc2 := 62) sh_29 (by exact z_in (by omega)) dX4_goOne_61 rfl ?_
  rw [nI_clamp (by omega)]
  suffices h2 : ∀ τ1 : zS, τ1.1 = z_up τ.1 29 (upd (τ.1 29) (k + 1) (nI (wT c to x (k + 1)))) → (∀ q, q ≠ 26 → τ1.2 q = τ.2 q) → τ1.2 26 7 = lN (wU c to x (k + 1)) → τ1.2 26 8 = lN (wL x (k + 1)) → z_At mX4_goOne (d + 2) 99 [.ref 26, .ref r, .int (nI k), .int (nI (x k)), .int (nI (wK to x k)), .int (z_b (gWet c (wT c to x k)))] [] τ1 (fun rv τ' => rv = none ∧ gJc σ c to x (k + 1) τ' ∧ gJl c to x (k + 1) τ') by
    refine x_iload3 (pc2 := 63) dX4_goOne_62 rfl ?_
    refine x_if_eq (pc2 := 66) (pc3 := 99) dX4_goOne_63 rfl rfl (fun h63 => ?_) (fun h63 => ?_)
    · rw [hx0] at h63
      exact h2 _ rfl (fun _ _ => rfl) (by show τ.2 26 7 = _; rw [hl.1, wU, if_pos h63]) (by show τ.2 26 8 = _; rw [hl.2, wL, if_pos h63])
    · rw [hx0] at h63
      refine x_aload0 (pc2 := 67) dX4_goOne_66 rfl ?_
      refine x_dup (pc2 := 68) dX4_goOne_67 rfl rfl ?_
      refine x_getL (pc2 := 71) fX4_28 sh_26 rfl dX4_goOne_68 rfl ?_
      refine x_bipush (v := 10) (pc2 := 73) dX4_goOne_71 rfl (by decide) ?_
      refine x_aload1 (pc2 := 74) dX4_goOne_73 rfl ?_
      refine x_iload4 (pc2 := 76) dX4_goOne_74 rfl ?_
      refine x_iload5 (pc2 := 78) dX4_goOne_76 rfl ?_
      refine x_fV2 (pc2 := 81) eX0_mudUnder kX4_90 (sh_P hr) rfl (Nat.le_of_ble_eq_true rfl) dX4_goOne_78 rfl (s_mudUnder _ _ hr _ _ (z_in (by omega))) ?_
      have n3 : r + 3 ≠ 29 := by rcases hr with rfl | rfl <;> decide
      have n2 : r + 2 ≠ 29 := by rcases hr with rfl | rfl <;> decide
      rw [nI_clamp (by omega), z_st_row _ _ _ n3, z_st_row _ _ _ n2, hC.2.2.1.2.1, hC.2.2.1.2.2]
      have hmu := gMu_nat hc hkl (gWet c (wT c to x k))
      rw [hmu.1]
      refine x_isub (pc2 := 82) dX4_goOne_81 rfl ?_
      refine x_i2l (pc2 := 83) dX4_goOne_82 rfl ?_
      refine x_lmul (pc2 := 84) dX4_goOne_83 rfl ?_
      refine x_putL (pc2 := 87) pX4_28 sh_26 rfl dX4_goOne_84 rfl ?_
      refine x_aload0 (pc2 := 88) dX4_goOne_87 rfl ?_
      refine x_dup (pc2 := 89) dX4_goOne_88 rfl rfl ?_
      refine x_getL (pc2 := 92) fX4_32 sh_26 rfl dX4_goOne_89 rfl ?_
      refine x_ldc2 (pc2 := 95) (by decide +kernel : Cond.constantLong RX4 94 (10) ∈ lw_tbl) dX4_goOne_92 rfl ?_
      refine x_lmul (pc2 := 96) dX4_goOne_95 rfl ?_
      refine x_putL (pc2 := 99) pX4_32 sh_26 rfl dX4_goOne_96 rfl ?_
      refine h2 _ rfl (fun q hq => by simp [z_stL, z_upL, z_st, hq]) ?_ ?_
      · show τ.2 26 7 * _ = _
        rw [gb_10 _ (by omega), z_i2l_nat (by omega), hl.1, lN_mul, wU, if_neg h63]
      · show τ.2 26 8 * 10 = _
        rw [hl.2, show (10 : Int64) = lN 10 from rfl, lN_mul, wL, if_neg h63]
  intro τ1 e1 e2 e3 e4
  have a0 : τ1.1 26 = τ.1 26 := by rw [e1]; exact z_up_ne _ _ (by decide)
  have a1 : τ1.1 27 = τ.1 27 := by rw [e1]; exact z_up_ne _ _ (by decide)
  have a2 : τ1.1 30 = τ.1 30 := by rw [e1]; exact z_up_ne _ _ (by decide)
  refine x_aload0 (pc2 := 100) dX4_goOne_99 rfl ?_
  refine x_getR (pc2 := 103) fX4_21 sh_26 rfl dX4_goOne_100 rfl ?_
  refine x_aload0 (pc2 := 104) dX4_goOne_103 rfl ?_
  refine x_getI (pc2 := 107) fX4_38 sh_26 rfl dX4_goOne_104 rfl ?_
  refine x_dup2 (pc2 := 108) dX4_goOne_107 rfl rfl rfl ?_
  rw [a0, hJ.2.1.1]
  refine x_iald (pc2 := 109) sh_30 (by exact z_in hp4) dX4_goOne_108 rfl ?_
  refine x_iload3 (pc2 := 110) dX4_goOne_109 rfl ?_
  refine x_iconst (v := -1) (pc2 := 111) dX4_goOne_110 rfl (by decide) ?_
  refine x_ixor (pc2 := 112) dX4_goOne_111 rfl ?_
  refine x_iand (pc2 := 113) dX4_goOne_112 rfl ?_
  rw [nI_clamp (by omega), a2, hJ.2.2.1 _ hp4, show gH (cM c) (wS to x k) (wS to x k % 4) (cK c) = gHr c (wS to x k) from rfl, z_an, gb_andn (gHr c (wS to x k)) (gH_16 _ _ _ hc.1) _ hxk]
  refine x_iast (pc2 := 114) sh_30 (by exact z_in hp4) dX4_goOne_113 rfl ?_
  refine x_aload0 (pc2 := 115) dX4_goOne_114 rfl ?_
  refine x_aload0 (pc2 := 116) dX4_goOne_115 rfl ?_
  refine x_getR (pc2 := 119) fX4_9 sh_26 rfl dX4_goOne_116 rfl ?_
  refine x_iload2 (pc2 := 120) dX4_goOne_119 rfl ?_
  refine x_iald (pc2 := 121) sh_27 (by exact z_in (by omega)) dX4_goOne_120 rfl ?_
  rw [nI_clamp (by omega), nI_clamp (by omega), z_st_row _ _ _ (by decide), a1, t1]
  refine x_putI (pc2 := 124) pX4_38 sh_26 rfl dX4_goOne_121 rfl ?_
  refine x_aload0 (pc2 := 125) dX4_goOne_124 rfl ?_
  refine x_getR (pc2 := 128) fX4_21 sh_26 rfl dX4_goOne_125 rfl ?_
  refine x_aload0 (pc2 := 129) dX4_goOne_128 rfl ?_
  refine x_getI (pc2 := 132) fX4_38 sh_26 rfl dX4_goOne_129 rfl ?_
  refine x_dup2 (pc2 := 133) dX4_goOne_132 rfl rfl rfl ?_
  generalize hτ2 : z_st (z_st τ1 30 (wS to x k % 4) (nI (gHr c (wS to x k) &&& (15 - x k)))) 26 5 (nI (to k)) = τ2
  have b1 : ∀ q, q ≠ 26 → q ≠ 30 → τ2.1 q = τ1.1 q := fun q h1 h2 => by rw [← hτ2, z_st_row _ _ _ h1, z_st_row _ _ _ h2]
  have b2 : τ2.1 30 = upd (τ.1 30) (wS to x k % 4) (nI (gHr c (wS to x k) &&& (15 - x k))) := by rw [← hτ2, z_st_row _ _ _ (by decide), z_st_rowS, a2]
  have b3 : τ2.1 26 = upd (τ.1 26) 5 (nI (to k)) := by rw [← hτ2, z_st_rowS, z_st_row _ _ _ (by decide), a0]
  have b4 : τ2.2 = τ1.2 := by rw [← hτ2]; rfl
  clear hτ2
  have hvne : to k ≠ wS to x k % 4 := by
    have := (gOk_v hokk).2
    omega
  rw [b3, show upd (τ.1 26) 5 (nI (to k)) 5 = nI (to k) from rfl]
  refine x_iald (pc2 := 134) sh_30 (by exact z_in t2) dX4_goOne_133 rfl ?_
  refine x_iload3 (pc2 := 135) dX4_goOne_134 rfl ?_
  refine x_ior (pc2 := 136) dX4_goOne_135 rfl ?_
  rw [nI_clamp (by omega), b2, show upd (τ.1 30) (wS to x k % 4) (nI (gHr c (wS to x k) &&& (15 - x k))) (to k) = τ.1 30 (to k) from if_neg hvne, hJ.2.2.1 _ t2, gb_ior _ (gH_16 _ _ _ hc.1) _ hxk]
  refine x_iast (pc2 := 137) sh_30 (by exact z_in t2) dX4_goOne_136 rfl ?_
  refine x_vret dX4_goOne_137 rfl ?_
  rw [nI_clamp (by omega)]
  have hS1 : wS to x (k + 1) = gG (wS to x k) (to k) (x k) 4 := rfl
  refine ⟨rfl, ⟨⟨fun q h1 h2 h3 => ?_, fun j h1 h2 => ?_, fun q h1 => ?_, ?_⟩, ⟨?_, ?_⟩, fun p hp => ?_, fun i hi => ?_⟩, ?_, ?_⟩
  · rw [z_st_row _ _ _ h3, b1 q h1 h3, e1, z_up_ne _ _ h2]
    exact hJ.1.1 q h1 h2 h3
  · rw [z_st_row _ _ _ (by decide), b3]
    unfold upd
    rw [if_neg h1]
    exact hJ.1.2.1 j h1 h2
  · show τ2.2 q = _
    rw [b4, e2 q h1]
    exact hJ.1.2.2.1 q h1
  · rw [z_st_row _ _ _ (by decide), b1 29 (by decide) (by decide), e1, z_up_same]
    unfold upd
    rw [if_neg (by omega)]
    exact hJ.1.2.2.2
  · rw [z_st_row _ _ _ (by decide), b3, hS1, gG_mod t2 4 (by decide)]
    rfl
  · rw [z_st_row _ _ _ (by decide), b3]
    show τ.1 26 6 = _
    exact hJ.2.1.2
  · rw [z_st_rowS, b2, hS1, gH_move hc.1 t2 hxk hokk]
    unfold upd
    by_cases q1 : p = to k
    · rw [if_pos q1, if_pos q1]
    · rw [if_neg q1, if_neg q1]
      by_cases q2 : p = wS to x k % 4
      · rw [if_pos q2, if_pos q2]
      · rw [if_neg q2, if_neg q2]
        exact hJ.2.2.1 p hp
  · rw [z_st_row _ _ _ (by decide), b1 29 (by decide) (by decide), e1, z_up_same]
    unfold upd
    by_cases q1 : i = k + 1
    · rw [if_pos q1, q1]
    · rw [if_neg q1]
      exact hJ.2.2.2 i (by omega)
  · show τ2.2 26 7 = _
    rw [b4]
    exact e3
  · show τ2.2 26 8 = _
    rw [b4]
    exact e4
