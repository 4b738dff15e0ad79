/-! PortageTripsModel.go -/
theorem z_st_rowS (σ : zS) (r j : Nat) (v : Int32) : (z_st σ r j v).1 r = upd (σ.1 r) j v := by simp [z_st, z_up]
theorem s_goM (d : Nat) {σ : zS} {c : zG} (hc : gWf c) (hM0 : gM σ c) {n : Nat} {to x : Nat → Nat} (hT0 : gTm σ n to x) (hx : ∀ k, x k < 16) : z_Ex mX6_go (d + 3) [.ref 43] σ (fun rv τ => rv = some (.int (wR (wW c to x n))) ∧ gFm σ τ ∧ (wW c to x n = none → gJm σ c to x n τ)) := by
  refine x_enter (by decide) (Nat.le_of_ble_eq_true rfl) ?_
  show z_At _ _ _ [.ref 43, .null, .null] _ _ _
  refine x_aload0 (pc2 := 1) dX6_go_0 rfl ?_
  refine x_iconst (v := 0) (pc2 := 2) dX6_go_1 rfl (by decide) ?_
  refine x_putI (pc2 := 5) pX6_175 sh_43 rfl dX6_go_2 rfl ?_
  refine x_aload0 (pc2 := 6) dX6_go_5 rfl ?_
  refine x_iconst (v := 0) (pc2 := 7) dX6_go_6 rfl (by decide) ?_
  refine x_putI (pc2 := 10) pX6_178 sh_43 rfl dX6_go_7 rfl ?_
  refine x_aload0 (pc2 := 11) dX6_go_10 rfl ?_
  refine x_lconst (v := 1) (pc2 := 12) dX6_go_11 rfl (by decide) ?_
  refine x_putL (pc2 := 15) pX6_181 sh_43 rfl dX6_go_12 rfl ?_
  refine x_aload0 (pc2 := 16) dX6_go_15 rfl ?_
  refine x_lconst (v := 1) (pc2 := 17) dX6_go_16 rfl (by decide) ?_
  refine x_putL (pc2 := 20) pX6_185 sh_43 rfl dX6_go_17 rfl ?_
  refine x_iconst (v := 0) (pc2 := 21) dX6_go_20 rfl (by decide) ?_
  refine x_istore1 (pc2 := 22) dX6_go_21 rfl rfl ?_
  have hj0 : gJm σ c to x 0 (z_stL (z_stL (z_st (z_st σ 43 26 0) 43 27 0) 43 28 1) 43 29 1) := by
    refine ⟨⟨fun q h1 _ _ => ?_, fun j h1 h2 => ?_, fun q h1 => ?_⟩, ⟨rfl, rfl, rfl, rfl⟩, fun i hi => by omega⟩
    · simp [z_stL, z_st, z_up, h1]
    · simp [z_stL, z_st, z_up, upd, h1, h2]
    · simp [z_stL, z_st, z_upL, h1]
  generalize z_stL (z_stL (z_st (z_st σ 43 26 0) 43 27 0) 43 28 1) 43 29 1 = τ at hj0
  suffices h : ∀ m k, k + m = n → ∀ o τ, gJm σ c to x k τ → (∀ i, i < k → wOk c to x i = true) → z_At mX6_go (d + 3) 22 [.ref 43, .int (nI k), o] [] τ (fun rv τ => rv = some (.int (wR (wW c to x n))) ∧ gFm σ τ ∧ (wW c to x n = none → gJm σ c to x n τ)) from h n 0 (by omega) _ τ hj0 (fun i hi => by omega)
  clear hj0 τ
  intro m
  induction m with
  | zero =>
    intro k hk o τ hJ hok
    obtain rfl : k = n := by omega
    have hT := hT0.of hJ.1
    refine x_iload1 (pc2 := 23) dX6_go_22 rfl ?_
    refine x_aload0 (pc2 := 24) dX6_go_23 rfl ?_
    refine x_getI (pc2 := 27) fX6_172 sh_43 rfl dX6_go_24 rfl ?_
    refine x_icmp_ge (pc2 := 30) (pc3 := 194) dX6_go_27 rfl rfl (fun h27 => ?_) (fun h27 => ?_)
    · skip
      refine x_bipush (v := -9) (pc2 := 196) dX6_go_194 rfl (by decide) ?_
      refine x_iret dX6_go_196 rfl ?_
      rw [wW_none k hok]
      exact ⟨rfl, hJ.1, fun _ => hJ⟩
    · exact absurd (by rw [hT.1]; exact Int32.le_refl _) h27
  | succ m ih =>
    intro k hk o τ hJ hok
    have hT := hT0.of hJ.1
    have hM := hM0.of hJ.1
    have hkn : k < n := by omega
    have hn18 := hT.2.1
    obtain ⟨t1, t2, t3⟩ := hT.2.2 k hkn
    have hsk := wS_ok hc.2.1.1 k hok
    have hNK := hc.2.1
    refine x_iload1 (pc2 := 23) dX6_go_22 rfl ?_
    refine x_aload0 (pc2 := 24) dX6_go_23 rfl ?_
    refine x_getI (pc2 := 27) fX6_172 sh_43 rfl dX6_go_24 rfl ?_
    refine x_icmp_ge (pc2 := 30) (pc3 := 194) dX6_go_27 rfl rfl (fun h27 => ?_) (fun h27 => ?_)
    · rw [hT.1] at h27
      exact absurd h27 (nI_ge (by omega) (by omega))
    · skip
      refine x_aload0 (pc2 := 31) dX6_go_30 rfl ?_
      refine x_aload0 (pc2 := 32) dX6_go_31 rfl ?_
      refine x_getI (pc2 := 35) fX6_175 sh_43 rfl dX6_go_32 rfl ?_
      refine x_aload0 (pc2 := 36) dX6_go_35 rfl ?_
      refine x_getR (pc2 := 39) fX6_48 sh_43 rfl dX6_go_36 rfl ?_
      refine x_iload1 (pc2 := 40) dX6_go_39 rfl ?_
      refine x_iald (pc2 := 41) sh_54 (by exact z_in (by omega)) dX6_go_40 rfl ?_
      refine x_aload0 (pc2 := 42) dX6_go_41 rfl ?_
      refine x_getR (pc2 := 45) fX6_51 sh_43 rfl dX6_go_42 rfl ?_
      refine x_iload1 (pc2 := 46) dX6_go_45 rfl ?_
      refine x_iald (pc2 := 47) sh_55 (by exact z_in (by omega)) dX6_go_46 rfl ?_
      refine x_fV3 (pc2 := 50) eX6_mayGo kX6_188 sh_43 rfl (Nat.le_of_ble_eq_true rfl) dX6_go_47 rfl (s_mayGo _ _ _ _ _ hM.1.1 hc.1) ?_
      rw [nI_clamp (by omega), t1, t3, hM.1.2.1, hM.2.2.2.1, hM.2.1.1, hM.2.1.2, hM.1.2.2, hJ.2.1.1, gOk_model hc hsk.1 t2 (hx k)]
      refine x_if_ne (pc2 := 53) (pc3 := 55) dX6_go_50 rfl rfl (fun h50 => ?_) (fun h50 => ?_)
      rotate_left
      · rw [z_b0] at h50
        refine x_iload1 (pc2 := 54) dX6_go_53 rfl ?_
        refine x_iret dX6_go_54 rfl ?_
        rw [wW_some hok h50 n hkn]
        exact ⟨rfl, hJ.1, fun q => by cases q⟩
      rw [z_bn0] at h50
      have hok1 : ∀ i, i < k + 1 → wOk c to x i = true := fun i hi => by
        by_cases e : i = k
        · subst e; exact h50
        · exact hok i (by omega)
      have hkl := wK_lt hc.2.1.1 hok1
      have hTle := wT_le hc hx k hok
      have hst : (if nI (to k) ≤ nI (wS to x k % 4) then nI (to k) else nI (wS to x k % 4)) = nI (wK to x k) := z_minI (by omega) (by omega)
      refine x_aload0 (pc2 := 56) dX6_go_55 rfl ?_
      refine x_getI (pc2 := 59) fX6_175 sh_43 rfl dX6_go_56 rfl ?_
      refine x_iconst (v := 3) (pc2 := 60) dX6_go_59 rfl (by decide) ?_
      refine x_iand (pc2 := 61) dX6_go_60 rfl ?_
      refine x_istore2 (pc2 := 62) dX6_go_61 rfl rfl ?_
      rw [hJ.2.1.1, gb_spot _ hsk.1]
      suffices h2 : ∀ τ1 : zS, τ1.1 = τ.1 → (∀ q, q ≠ 43 → τ1.2 q = τ.2 q) → τ1.2 43 28 = lN (wU c to x (k + 1)) → τ1.2 43 29 = lN (wL x (k + 1)) → z_At mX6_go (d + 3) 115 [.ref 43, .int (nI k), .int (nI (wS to x k % 4))] [] τ1 (fun rv τ => rv = some (.int (wR (wW c to x n))) ∧ gFm σ τ ∧ (wW c to x n = none → gJm σ c to x n τ)) by
        refine x_aload0 (pc2 := 63) dX6_go_62 rfl ?_
        refine x_getR (pc2 := 66) fX6_51 sh_43 rfl dX6_go_63 rfl ?_
        refine x_iload1 (pc2 := 67) dX6_go_66 rfl ?_
        refine x_iald (pc2 := 68) sh_55 (by exact z_in (by omega)) dX6_go_67 rfl ?_
        rw [nI_clamp (by omega), t3]
        have hx0 : nI (x k) = 0 ↔ x k = 0 := nI_eq_iff (b := 0) (by have := hx k; omega) (by decide)
        refine x_if_eq (pc2 := 71) (pc3 := 115) dX6_go_68 rfl rfl (fun h68 => ?_) (fun h68 => ?_)
        · rw [hx0] at h68
          exact h2 τ rfl (fun _ _ => rfl) (by rw [hJ.2.1.2.2.1, wU, if_pos h68]) (by rw [hJ.2.1.2.2.2, wL, if_pos h68])
        · rw [hx0] at h68
          refine x_aload0 (pc2 := 72) dX6_go_71 rfl ?_
          refine x_dup (pc2 := 73) dX6_go_72 rfl rfl ?_
          refine x_getL (pc2 := 76) fX6_181 sh_43 rfl dX6_go_73 rfl ?_
          refine x_bipush (v := 10) (pc2 := 78) dX6_go_76 rfl (by decide) ?_
          refine x_aload0 (pc2 := 79) dX6_go_78 rfl ?_
          refine x_aload0 (pc2 := 80) dX6_go_79 rfl ?_
          refine x_iload2 (pc2 := 81) dX6_go_80 rfl ?_
          refine x_aload0 (pc2 := 82) dX6_go_81 rfl ?_
          refine x_getR (pc2 := 85) fX6_48 sh_43 rfl dX6_go_82 rfl ?_
          refine x_iload1 (pc2 := 86) dX6_go_85 rfl ?_
          refine x_iald (pc2 := 87) sh_54 (by exact z_in (by omega)) dX6_go_86 rfl ?_
          refine x_fV2 (pc2 := 90) eX6_stageOf kX6_166 sh_43 rfl (Nat.le_of_ble_eq_true rfl) dX6_go_87 rfl (s_stageOf _ _ _ _) ?_
          rw [nI_clamp (by omega), t1, hst]
          refine x_aload0 (pc2 := 91) dX6_go_90 rfl ?_
          refine x_getI (pc2 := 94) fX6_178 sh_43 rfl dX6_go_91 rfl ?_
          refine x_fV2 (pc2 := 97) eX6_mudOf kX6_169 sh_43 rfl (Nat.le_of_ble_eq_true rfl) dX6_go_94 rfl (s_mudOf _ _ _ _ (z_in (by omega))) ?_
          rw [nI_clamp (by omega), hM.2.2.1.2.2, hM.2.2.1.2.1, hM.2.2.2.2, hJ.2.1.2.1]
          have hmu := gMu_nat hc hkl (gWet c (wT c to x k))
          rw [show z_rains (cR c) (nI (wT c to x k)) = gWet c (wT c to x k) from rfl, hmu.1]
          refine x_isub (pc2 := 98) dX6_go_97 rfl ?_
          refine x_i2l (pc2 := 99) dX6_go_98 rfl ?_
          refine x_lmul (pc2 := 100) dX6_go_99 rfl ?_
          refine x_putL (pc2 := 103) pX6_181 sh_43 rfl dX6_go_100 rfl ?_
          refine x_aload0 (pc2 := 104) dX6_go_103 rfl ?_
          refine x_dup (pc2 := 105) dX6_go_104 rfl rfl ?_
          refine x_getL (pc2 := 108) fX6_185 sh_43 rfl dX6_go_105 rfl ?_
          refine x_ldc2 (pc2 := 111) (by decide +kernel : Cond.constantLong RX6 191 (10) ∈ lw_tbl) dX6_go_108 rfl ?_
          refine x_lmul (pc2 := 112) dX6_go_111 rfl ?_
          refine x_putL (pc2 := 115) pX6_185 sh_43 rfl dX6_go_112 rfl ?_
          refine h2 _ rfl (fun q hq => by simp [z_stL, z_upL, hq]) ?_ ?_
          · rw [gb_10 _ (by omega), z_i2l_nat (by omega), show (z_stL τ 43 28 (τ.2 43 28 * lN (10 - gMu c (wK to x k) (gWet c (wT c to x k))))).2 43 29 = τ.2 43 29 from rfl]
            show τ.2 43 28 * lN _ = _
            rw [hJ.2.1.2.2.1, lN_mul, wU, if_neg h68]
          · show τ.2 43 29 * 10 = _
            rw [hJ.2.1.2.2.2, show (10 : Int64) = lN 10 from rfl, lN_mul, wL, if_neg h68]
      intro τ1 e1 e2 e3 e4
      obtain ⟨f1, g1⟩ := τ1
      have e1 : f1 = τ.1 := e1
      subst e1
      refine x_aload0 (pc2 := 116) dX6_go_115 rfl ?_
      refine x_getR (pc2 := 119) fX6_54 sh_43 rfl dX6_go_116 rfl ?_
      refine x_iload1 (pc2 := 120) dX6_go_119 rfl ?_
      refine x_aload0 (pc2 := 121) dX6_go_120 rfl ?_
      refine x_getI (pc2 := 124) fX6_178 sh_43 rfl dX6_go_121 rfl ?_
      refine x_iast (pc2 := 125) sh_56 (by exact z_in (by omega)) dX6_go_124 rfl ?_
      refine x_aload0 (pc2 := 126) dX6_go_125 rfl ?_
      refine x_dup (pc2 := 127) dX6_go_126 rfl rfl ?_
      refine x_getI (pc2 := 130) fX6_178 sh_43 rfl dX6_go_127 rfl ?_
      refine x_aload0 (pc2 := 131) dX6_go_130 rfl ?_
      refine x_iload2 (pc2 := 132) dX6_go_131 rfl ?_
      refine x_aload0 (pc2 := 133) dX6_go_132 rfl ?_
      refine x_getR (pc2 := 136) fX6_48 sh_43 rfl dX6_go_133 rfl ?_
      refine x_iload1 (pc2 := 137) dX6_go_136 rfl ?_
      refine x_iald (pc2 := 138) sh_54 (by exact z_in (by omega)) dX6_go_137 rfl ?_
      refine x_aload0 (pc2 := 139) dX6_go_138 rfl ?_
      refine x_getR (pc2 := 142) fX6_51 sh_43 rfl dX6_go_139 rfl ?_
      refine x_iload1 (pc2 := 143) dX6_go_142 rfl ?_
      refine x_iald (pc2 := 144) sh_55 (by exact z_in (by omega)) dX6_go_143 rfl ?_
      refine x_aload0 (pc2 := 145) dX6_go_144 rfl ?_
      refine x_getI (pc2 := 148) fX6_178 sh_43 rfl dX6_go_145 rfl ?_
      rw [nI_clamp (by omega)]
      generalize hτ2 : z_st (τ.1, g1) 56 k (τ.1 43 27) = τ2
      have a1 : ∀ q, q ≠ 56 → τ2.1 q = τ.1 q := fun q hq => by rw [← hτ2]; exact z_st_row _ _ _ hq
      have a2 : τ2.1 56 = upd (τ.1 56) k (τ.1 43 27) := by rw [← hτ2, z_st_rowS]
      have a3 : τ2.2 = g1 := by rw [← hτ2]; rfl
      clear hτ2
      show z_At _ _ _ _ [.int (τ2.1 43 27), .int (τ2.1 55 k), .int (τ2.1 54 k), .int (nI (wS to x k % 4)), .ref 43, .int (τ2.1 43 27), .ref 43] _ _
      rw [a1 43 (by decide), a1 54 (by decide), a1 55 (by decide), hJ.2.1.2.1, t1, t3]
      refine x_fV4 (pc2 := 151) eX6_takes kX6_193 sh_43 rfl (Nat.le_of_ble_eq_true rfl) dX6_go_148 rfl (s_takes _ _ _ _ _ _ (by rw [a1 43 (by decide)]; exact hM.1.1) hc.1 (by rw [hst]; exact z_in (by omega))) ?_
      rw [hst, nI_clamp (by omega), a1 43 (by decide), a1 47 (by decide), a1 48 (by decide), a1 49 (by decide), a1 51 (by decide), hM.2.2.1.1, hM.2.2.1.2.1, hM.2.2.1.2.2, hM.2.2.2.2, hM.2.1.2]
      have htk := gTk_nat hc hkl (hx k) (gWet c (wT c to x k))
      rw [show z_rains (cR c) (nI (wT c to x k)) = gWet c (wT c to x k) from rfl, htk.1]
      refine x_iadd (pc2 := 152) dX6_go_151 rfl ?_
      rw [z_nIadd, show wT c to x k + gTk c (wK to x k) (x k) (gWet c (wT c to x k)) = wT c to x (k + 1) from rfl]
      refine x_putI (pc2 := 155) pX6_178 sh_43 rfl dX6_go_152 rfl ?_
      refine x_aload0 (pc2 := 156) dX6_go_155 rfl ?_
      refine x_getR (pc2 := 159) fX6_57 sh_43 rfl dX6_go_156 rfl ?_
      refine x_iload1 (pc2 := 160) dX6_go_159 rfl ?_
      refine x_aload0 (pc2 := 161) dX6_go_160 rfl ?_
      refine x_getI (pc2 := 164) fX6_178 sh_43 rfl dX6_go_161 rfl ?_
      refine x_iast (pc2 := 165) sh_57 (by exact z_in (by omega)) dX6_go_164 rfl ?_
      refine x_aload0 (pc2 := 166) dX6_go_165 rfl ?_
      refine x_aload0 (pc2 := 167) dX6_go_166 rfl ?_
      refine x_getI (pc2 := 170) fX6_175 sh_43 rfl dX6_go_167 rfl ?_
      refine x_aload0 (pc2 := 171) dX6_go_170 rfl ?_
      refine x_getR (pc2 := 174) fX6_48 sh_43 rfl dX6_go_171 rfl ?_
      refine x_iload1 (pc2 := 175) dX6_go_174 rfl ?_
      refine x_iald (pc2 := 176) sh_54 (by exact z_in (by omega)) dX6_go_175 rfl ?_
      refine x_aload0 (pc2 := 177) dX6_go_176 rfl ?_
      refine x_getR (pc2 := 180) fX6_51 sh_43 rfl dX6_go_177 rfl ?_
      refine x_iload1 (pc2 := 181) dX6_go_180 rfl ?_
      refine x_iald (pc2 := 182) sh_55 (by exact z_in (by omega)) dX6_go_181 rfl ?_
      rw [nI_clamp (by omega)]
      generalize hτ4 : z_st (z_st τ2 43 27 (nI (wT c to x (k + 1)))) 57 k ((z_st τ2 43 27 (nI (wT c to x (k + 1)))).1 43 27) = τ4
      have b1 : ∀ q, q ≠ 43 → q ≠ 57 → τ4.1 q = τ2.1 q := fun q h1 h2 => by rw [← hτ4, z_st_row _ _ _ h2, z_st_row _ _ _ h1]
      have b2 : τ4.1 57 = upd (τ.1 57) k (nI (wT c to x (k + 1))) := by
        rw [← hτ4, z_st_at, z_st_rowS, z_st_row _ _ _ (by decide), a1 57 (by decide)]
      have b3 : τ4.1 43 27 = nI (wT c to x (k + 1)) := by rw [← hτ4, z_st_row _ _ _ (by decide), z_st_at]
      have b4 : ∀ j, j ≠ 27 → τ4.1 43 j = τ.1 43 j := fun j hj => by rw [← hτ4, z_st_row _ _ _ (by decide), z_st_fld _ _ _ hj, a1 43 (by decide)]
      have b5 : τ4.2 = g1 := by rw [← hτ4]; exact a3
      clear hτ4
      show z_At _ _ _ _ [.int (τ4.1 55 k), .int (τ4.1 54 k), .int (τ4.1 43 26), .ref 43] _ _
      rw [b1 55 (by decide) (by decide), b1 54 (by decide) (by decide), a1 54 (by decide), a1 55 (by decide), b4 26 (by decide), t1, t3, hJ.2.1.1]
      refine x_fS3 (pc2 := 185) eX6_gone kX6_196 (Nat.le_of_ble_eq_true rfl) dX6_go_182 rfl (s_gone _ _ _ _ _) ?_
      rw [z_gn_nat hsk.1 t2 (hx k) 4 (by decide), show gG (wS to x k) (to k) (x k) 4 = wS to x (k + 1) from rfl]
      refine x_putI (pc2 := 188) pX6_175 sh_43 rfl dX6_go_185 rfl ?_
      refine x_iinc1 (pc2 := 191) dX6_go_188 rfl (z_inc1 _) rfl ?_
      refine x_goto (pc2 := 22) dX6_go_191 rfl ?_
      rw [← nI_succ]
      refine ih (k + 1) (by omega) _ _ ?_ hok1
      refine ⟨⟨fun q h1 h2 h3 => ?_, fun j h1 h2 => ?_, fun q h1 => ?_⟩, ⟨z_st_at _ _ _ _, ?_, ?_, ?_⟩, fun i hi => ?_⟩
      · rw [z_st_row _ _ _ h1, b1 q h1 h3, a1 q h2]
        exact hJ.1.1 q h1 h2 h3
      · rw [z_st_fld _ _ _ h1, b4 j h2]
        exact hJ.1.2.1 j h1 h2
      · show τ4.2 q = _
        rw [b5, show g1 q = τ.2 q from e2 q h1]
        exact hJ.1.2.2 q h1
      · rw [z_st_fld _ _ _ (by decide), b3]
      · show τ4.2 43 28 = _
        rw [b5]
        exact e3
      · show τ4.2 43 29 = _
        rw [b5]
        exact e4
      · rw [z_st_row _ _ _ (by decide), z_st_row _ _ _ (by decide), b1 56 (by decide) (by decide), a2, b2]
        unfold upd
        by_cases e : i = k
        · subst e
          rw [if_pos rfl, if_pos rfl]
          exact ⟨hJ.2.1.2.1, rfl⟩
        · rw [if_neg e, if_neg e]
          exact hJ.2.2 i (by omega)
