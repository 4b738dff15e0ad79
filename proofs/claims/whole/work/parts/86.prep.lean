/-! the class's search: prepareSet, prepare -/
theorem gMin {c : zG} (hc : gWf c) {k x : Nat} (hk : k < cN c) (hx : x < 2 ^ cK c) (wet : Bool) : (if z_ld (cPd c) (nI x) (cK c) = 0 then cLn c k else cLn c k + z_mud (cBd c k) (cMd c k) (z_b wet) + z_ld (cPd c) (nI x) (cK c) / 3) = nI (gTk c k x wet) := by
  have h2K : 2 ^ cK c ≤ 16 := (Nat.pow_le_pow_right (by decide) hc.1 : 2 ^ cK c ≤ 2 ^ 4)
  have h1 := (gTk_nat hc hk (show x < 16 by omega) wet).1
  obtain ⟨l, hl, el, h0⟩ := hc.ld (show x < 16 by omega)
  have e : z_ld (cPd c) (nI x) (cK c) = 0 ↔ nI x = 0 := by
    rw [el]
    constructor
    · intro q
      have : l = 0 := nI_inj (b := 0) (by omega) (by decide) q
      have := gb_zero (cK c) (by have := hc.1; omega) x hx (h0.mp this)
      rw [this]; rfl
    · intro q
      have : x = 0 := nI_inj (b := 0) (by omega) (by decide) q
      rw [h0.mpr (fun t _ => by rw [this]; exact Nat.zero_testBit t)]; rfl
  rw [← h1]
  by_cases q : nI x = 0
  · rw [if_pos q, if_pos (e.mpr q)]
  · rw [if_neg q, if_neg (fun r => q (e.mp r))]
theorem gC.lo {r : Nat} (hr : z_isP r) {σ τ : zS} {c : zG} (h : gC r σ c) (hf : ∀ q, q < 13 → τ.1 q = σ.1 q) : gC r τ c := by
  unfold gC
  have h7 : r ≤ 7 := by unfold z_isP at hr; omega
  rw [hf r (by omega), hf (r + 1) (by omega), hf (r + 2) (by omega), hf (r + 3) (by omega), hf (r + 4) (by omega), hf (r + 5) (by omega)]
  exact h
def gSx (τ : zS) (c : zG) (b : Bool) (n : Nat) : Prop := ∀ x, x < n → (τ.1 32 x = z_b (gGo c x) ∧ τ.1 33 x = z_b (gSt c x) ∧ τ.1 34 x = nI (sD x (cK c))) ∧ ∀ k, k < cN c → τ.1 35 (k * 16 + x) = nI (nB b (gTk c k x false)) ∧ τ.1 35 (48 + (k * 16 + x)) = nI (nB b (gTk c k x true))
theorem gb_shl : ∀ n < 4, (1 : Int32) <<< (2 * nI n + 2 &&& 31) = nI (4 ^ (n + 1)) := by decide +kernel
theorem gb_st16 : ∀ k < 3, ∀ x < 16, nI k * 16 + nI x = nI (k * 16 + x) := by decide +kernel
theorem nB_nat {b : Bool} {v : Nat} : nI (nB b v) = if b then 1 else nI v := by cases b <;> rfl
theorem s_prepareSet (d : Nat) {σ : zS} {r : Nat} (hr : z_isP r) {c : zG} {b : Bool} (hc : gWf c) (hC : gC r σ c) (h0 : σ.1 31 0 = nI (cK c)) (h1 : σ.1 31 1 = nI (cN c)) {x : Nat} (hx : x < 2 ^ cK c) (hS : gSx σ c b x) : z_Ex mX2_prepareSet (d + 3) [.ref 31, .ref r, .int (nI x), .int (z_b b)] σ (fun rv τ => rv = none ∧ (∀ q, q < 32 ∨ 35 < q → τ.1 q = σ.1 q) ∧ τ.2 = σ.2 ∧ gSx τ c b (x + 1)) := by
  have hK4 := hc.1
  have hN := hc.2.1
  have h2K : 2 ^ cK c ≤ 16 := (Nat.pow_le_pow_right (by decide) hc.1 : 2 ^ cK c ≤ 2 ^ 4)
  have hx16 : x < 16 := by omega
  have hr7 : r ≤ 7 := by unfold z_isP at hr; omega
  refine x_enter (by decide) (Nat.le_of_ble_eq_true rfl) ?_
  show z_At _ _ _ [.ref 31, .ref r, .int (nI x), .int (z_b b), .null, .null, .null, .null] _ _ _
  refine x_aload1 (pc2 := 1) dX2_prepareSet_0 rfl ?_
  refine x_iload2 (pc2 := 2) dX2_prepareSet_1 rfl ?_
  refine x_fV1 (pc2 := 5) eX0_load kX2_95 (sh_P hr) rfl (Nat.le_of_ble_eq_true rfl) dX2_prepareSet_2 rfl (s_load _ _ hr _ hC.1.1 hK4) ?_
  rw [hC.2.1.2]
  suffices h26 : z_At mX2_prepareSet (d + 3) 26 [.ref 31, .ref r, .int (nI x), .int (z_b b), .int (z_ld (cPd c) (nI x) (cK c)), .null, .null, .null] [.int (z_b (gGo c x)), .int (nI x), .ref 32] σ (fun rv τ => rv = none ∧ (∀ q, q < 32 ∨ 35 < q → τ.1 q = σ.1 q) ∧ τ.2 = σ.2 ∧ gSx τ c b (x + 1)) by
    refine x_istore4 (pc2 := 7) dX2_prepareSet_5 rfl rfl ?_
    refine x_aload0 (pc2 := 8) dX2_prepareSet_7 rfl ?_
    refine x_getR (pc2 := 11) fX2_11 sh_31 rfl dX2_prepareSet_8 rfl ?_
    refine x_iload2 (pc2 := 12) dX2_prepareSet_11 rfl ?_
    refine x_iload4 (pc2 := 14) dX2_prepareSet_12 rfl ?_
    refine x_aload1 (pc2 := 15) dX2_prepareSet_14 rfl ?_
    refine x_getI (pc2 := 18) fX2_99 (sh_P hr) rfl dX2_prepareSet_15 rfl ?_
    rw [hC.2.2.2.1]
    refine x_icmp_gt (pc2 := 21) (pc3 := 25) dX2_prepareSet_18 rfl rfl (fun h18 => ?_) (fun h18 => ?_)
    · skip
      refine x_iconst (v := 0) (pc2 := 26) dX2_prepareSet_25 rfl (by decide) ?_
      rw [show gGo c x = false from decide_eq_false (Int32.not_le.mpr h18)] at h26
      exact h26
    · skip
      refine x_iconst (v := 1) (pc2 := 22) dX2_prepareSet_21 rfl (by decide) ?_
      refine x_goto (pc2 := 26) dX2_prepareSet_22 rfl ?_
      rw [show gGo c x = true from decide_eq_true (Int32.not_lt.mp h18)] at h26
      exact h26
  refine x_zast (pc2 := 27) sh_32 (by exact z_in hx16) (by first | assumption | exact z_b01 _ | exact Or.inl rfl | exact Or.inr rfl) dX2_prepareSet_26 rfl ?_
  rw [nI_clamp (by omega)]
  have hC1 : gC r (z_st σ 32 x (z_b (gGo c x))) c := hC.lo hr (fun q hq => z_st_row _ _ _ (by omega))
  suffices h46 : z_At mX2_prepareSet (d + 3) 46 [.ref 31, .ref r, .int (nI x), .int (z_b b), .int (z_ld (cPd c) (nI x) (cK c)), .null, .null, .null] [.int (z_b (gSt c x)), .int (nI x), .ref 33] (z_st σ 32 x (z_b (gGo c x))) (fun rv τ => rv = none ∧ (∀ q, q < 32 ∨ 35 < q → τ.1 q = σ.1 q) ∧ τ.2 = σ.2 ∧ gSx τ c b (x + 1)) by
    refine x_aload0 (pc2 := 28) dX2_prepareSet_27 rfl ?_
    refine x_getR (pc2 := 31) fX2_15 sh_31 rfl dX2_prepareSet_28 rfl ?_
    refine x_iload2 (pc2 := 32) dX2_prepareSet_31 rfl ?_
    refine x_aload1 (pc2 := 33) dX2_prepareSet_32 rfl ?_
    refine x_iload2 (pc2 := 34) dX2_prepareSet_33 rfl ?_
    refine x_fV1 (pc2 := 37) eX0_wellOnes kX2_102 (sh_P hr) rfl (Nat.le_of_ble_eq_true rfl) dX2_prepareSet_34 rfl (s_wellOnes _ _ hr _ hC1.1.1 hK4) ?_
    rw [hC1.2.1.1, z_wo_wm hx16 hK4 hc.2.2.1 _ (Nat.le_refl _)]
    refine x_iload2 (pc2 := 38) dX2_prepareSet_37 rfl ?_
    refine x_icmp_ne (pc2 := 41) (pc3 := 45) dX2_prepareSet_38 rfl rfl (fun h38 => ?_) (fun h38 => ?_)
    · skip
      refine x_iconst (v := 0) (pc2 := 46) dX2_prepareSet_45 rfl (by decide) ?_
      rw [show gSt c x = false from decide_eq_false h38] at h46
      exact h46
    · skip
      refine x_iconst (v := 1) (pc2 := 42) dX2_prepareSet_41 rfl (by decide) ?_
      refine x_goto (pc2 := 46) dX2_prepareSet_42 rfl ?_
      rw [show gSt c x = true from decide_eq_true h38] at h46
      exact h46
  refine x_zast (pc2 := 47) sh_33 (by exact z_in hx16) (by first | assumption | exact z_b01 _ | exact Or.inl rfl | exact Or.inr rfl) dX2_prepareSet_46 rfl ?_
  rw [nI_clamp (by omega)]
  refine x_aload0 (pc2 := 48) dX2_prepareSet_47 rfl ?_
  refine x_getR (pc2 := 51) fX2_18 sh_31 rfl dX2_prepareSet_48 rfl ?_
  refine x_iload2 (pc2 := 52) dX2_prepareSet_51 rfl ?_
  refine x_iconst (v := 1) (pc2 := 53) dX2_prepareSet_52 rfl (by decide) ?_
  refine x_iast (pc2 := 54) sh_34 (by exact z_in hx16) dX2_prepareSet_53 rfl ?_
  refine x_iconst (v := 0) (pc2 := 55) dX2_prepareSet_54 rfl (by decide) ?_
  refine x_istore5 (pc2 := 57) dX2_prepareSet_55 rfl rfl ?_
  rw [nI_clamp (by omega)]
  generalize hυ : z_st (z_st σ 32 x (z_b (gGo c x))) 33 x (z_b (gSt c x)) = υ
  have u1 : ∀ q, q ≠ 32 → q ≠ 33 → υ.1 q = σ.1 q := fun q a1 a2 => by rw [← hυ, z_st_row _ _ _ a2, z_st_row _ _ _ a1]
  have u2 : υ.1 32 = upd (σ.1 32) x (z_b (gGo c x)) := by rw [← hυ, z_st_row _ _ _ (by decide), z_st_rowS]
  have u3 : υ.1 33 = upd (σ.1 33) x (z_b (gSt c x)) := by rw [← hυ, z_st_rowS, z_st_row _ _ _ (by decide)]
  have u4 : υ.2 = σ.2 := by rw [← hυ]; rfl
  clear hυ
  suffices hl : ∀ m k, k + m = cK c → z_At mX2_prepareSet (d + 3) 57 [.ref 31, .ref r, .int (nI x), .int (z_b b), .int (z_ld (cPd c) (nI x) (cK c)), .int (nI k), .null, .null] [] (z_st υ 34 x (nI (sD x k))) (fun rv τ => rv = none ∧ (∀ q, q < 32 ∨ 35 < q → τ.1 q = σ.1 q) ∧ τ.2 = σ.2 ∧ gSx τ c b (x + 1)) from hl (cK c) 0 (by omega)
  intro m
  induction m with
  | succ m ih =>
    intro k hk
    have e0 : (z_st υ 34 x (nI (sD x k))).1 31 0 = nI (cK c) := by rw [z_st_row _ _ _ (by decide), u1 31 (by decide) (by decide), h0]
    refine x_iload5 (pc2 := 59) dX2_prepareSet_57 rfl ?_
    refine x_aload0 (pc2 := 60) dX2_prepareSet_59 rfl ?_
    refine x_getI (pc2 := 63) fX2_68 sh_31 rfl dX2_prepareSet_60 rfl ?_
    rw [e0]
    refine x_icmp_ge (pc2 := 66) (pc3 := 98) dX2_prepareSet_63 rfl rfl (fun h63 => ?_) (fun h63 => ?_)
    · exact absurd ((nI_le_iff (by omega) (by omega)).mp h63) (by omega)
    refine x_iload2 (pc2 := 67) dX2_prepareSet_66 rfl ?_
    refine x_iload5 (pc2 := 69) dX2_prepareSet_67 rfl ?_
    refine x_fS2 (pc2 := 72) eX0_isIn kX2_105 (Nat.le_of_ble_eq_true rfl) dX2_prepareSet_69 rfl (s_isIn _ _ _ _) ?_
    rw [gb_bit x hx16 k (by omega)]
    have hih := ih (k + 1) (by omega)
    rw [sD] at hih
    refine x_if_eq (pc2 := 75) (pc3 := 92) dX2_prepareSet_72 rfl rfl (fun h72 => ?_) (fun h72 => ?_)
    · rw [z_b0] at h72
      rw [if_neg (by rw [h72]; decide)] at hih
      refine x_iinc5 (pc2 := 95) dX2_prepareSet_92 rfl (z_inc1 _) rfl ?_
      refine x_goto (pc2 := 57) dX2_prepareSet_95 rfl ?_
      rw [← nI_succ]
      exact hih
    · rw [z_bn0] at h72
      rw [if_pos h72] at hih
      refine x_aload0 (pc2 := 76) dX2_prepareSet_75 rfl ?_
      refine x_getR (pc2 := 79) fX2_18 sh_31 rfl dX2_prepareSet_76 rfl ?_
      refine x_iload2 (pc2 := 80) dX2_prepareSet_79 rfl ?_
      refine x_dup2 (pc2 := 81) dX2_prepareSet_80 rfl rfl rfl ?_
      refine x_iald (pc2 := 82) sh_34 (by exact z_in hx16) dX2_prepareSet_81 rfl ?_
      refine x_iconst (v := 1) (pc2 := 83) dX2_prepareSet_82 rfl (by decide) ?_
      refine x_iconst (v := 2) (pc2 := 84) dX2_prepareSet_83 rfl (by decide) ?_
      refine x_iload5 (pc2 := 86) dX2_prepareSet_84 rfl ?_
      refine x_imul (pc2 := 87) dX2_prepareSet_86 rfl ?_
      refine x_iconst (v := 2) (pc2 := 88) dX2_prepareSet_87 rfl (by decide) ?_
      refine x_iadd (pc2 := 89) dX2_prepareSet_88 rfl ?_
      refine x_ishl (pc2 := 90) dX2_prepareSet_89 rfl ?_
      rw [nI_clamp (by omega), z_st_at, gb_shl k (by omega)]
      refine x_iadd (pc2 := 91) dX2_prepareSet_90 rfl ?_
      rw [z_nIadd]
      refine x_iast (pc2 := 92) sh_34 (by exact z_in hx16) dX2_prepareSet_91 rfl ?_
      refine x_iinc5 (pc2 := 95) dX2_prepareSet_92 rfl (z_inc1 _) rfl ?_
      refine x_goto (pc2 := 57) dX2_prepareSet_95 rfl ?_
      rw [nI_clamp (by omega), z_st_st, ← nI_succ]
      exact hih
  | zero =>
    intro k hk
    obtain rfl : k = cK c := by omega
    have e0 : (z_st υ 34 x (nI (sD x (cK c)))).1 31 0 = nI (cK c) := by rw [z_st_row _ _ _ (by decide), u1 31 (by decide) (by decide), h0]
    refine x_iload5 (pc2 := 59) dX2_prepareSet_57 rfl ?_
    refine x_aload0 (pc2 := 60) dX2_prepareSet_59 rfl ?_
    refine x_getI (pc2 := 63) fX2_68 sh_31 rfl dX2_prepareSet_60 rfl ?_
    rw [e0]
    refine x_icmp_ge (pc2 := 66) (pc3 := 98) dX2_prepareSet_63 rfl rfl (fun h63 => ?_) (fun h63 => ?_)
    rotate_left
    · exact absurd (Int32.le_refl _) h63
    refine x_iconst (v := 0) (pc2 := 99) dX2_prepareSet_98 rfl (by decide) ?_
    refine x_istore5 (pc2 := 101) dX2_prepareSet_99 rfl rfl ?_
    have hs0 : ∀ τ : zS, τ = z_st υ 34 x (nI (sD x (cK c))) → (∀ q, q < 32 ∨ 35 < q → τ.1 q = σ.1 q) ∧ τ.2 = σ.2 ∧ gSx τ c b x ∧ (τ.1 32 x = z_b (gGo c x) ∧ τ.1 33 x = z_b (gSt c x) ∧ τ.1 34 x = nI (sD x (cK c))) := by
      rintro τ rfl
      refine ⟨fun q hq => ?_, u4, fun y hy => ?_, ?_⟩
      · rw [z_st_row _ _ _ (by omega), u1 q (by omega) (by omega)]
      · rw [z_st_row _ _ _ (by decide), z_st_row _ _ _ (by decide), z_st_fld _ _ _ (by omega), z_st_row _ _ _ (by decide), u1 34 (by decide) (by decide), u1 35 (by decide) (by decide), u2, u3]
        unfold upd
        rw [if_neg (by omega), if_neg (by omega)]
        exact hS y hy
      · rw [z_st_row _ _ _ (by decide), z_st_row _ _ _ (by decide), z_st_at, u2, u3]
        unfold upd
        exact ⟨if_pos rfl, if_pos rfl, rfl⟩
    obtain ⟨i1, i2, i3, i4⟩ := hs0 _ rfl
    generalize z_st υ 34 x (nI (sD x (cK c))) = τ at i1 i2 i3 i4
    suffices hl : ∀ m k, k + m = cN c → ∀ (τ : zS) (o6 o7 : Value), (∀ q, q < 32 ∨ 35 < q → τ.1 q = σ.1 q) → τ.2 = σ.2 → gSx τ c b x → (τ.1 32 x = z_b (gGo c x) ∧ τ.1 33 x = z_b (gSt c x) ∧ τ.1 34 x = nI (sD x (cK c))) → (∀ k', k' < k → τ.1 35 (k' * 16 + x) = nI (nB b (gTk c k' x false)) ∧ τ.1 35 (48 + (k' * 16 + x)) = nI (nB b (gTk c k' x true))) → z_At mX2_prepareSet (d + 3) 101 [.ref 31, .ref r, .int (nI x), .int (z_b b), .int (z_ld (cPd c) (nI x) (cK c)), .int (nI k), o6, o7] [] τ (fun rv τ => rv = none ∧ (∀ q, q < 32 ∨ 35 < q → τ.1 q = σ.1 q) ∧ τ.2 = σ.2 ∧ gSx τ c b (x + 1)) from
      hl (cN c) 0 (by omega) τ _ _ i1 i2 i3 i4 (fun k' h => by omega)
    clear i1 i2 i3 i4 hs0 τ e0
    intro m
    induction m with
    | zero =>
      intro k hk τ o6 o7 i1 i2 i3 i4 i5
      obtain rfl : k = cN c := by omega
      refine x_iload5 (pc2 := 103) dX2_prepareSet_101 rfl ?_
      refine x_aload0 (pc2 := 104) dX2_prepareSet_103 rfl ?_
      refine x_getI (pc2 := 107) fX2_72 sh_31 rfl dX2_prepareSet_104 rfl ?_
      rw [i1 31 (by omega), h1]
      refine x_icmp_ge (pc2 := 110) (pc3 := 180) dX2_prepareSet_107 rfl rfl (fun h107 => ?_) (fun h107 => ?_)
      rotate_left
      · exact absurd (Int32.le_refl _) h107
      refine x_vret dX2_prepareSet_180 rfl ?_
      refine ⟨rfl, i1, i2, fun y hy => ?_⟩
      by_cases e : y = x
      · subst e; exact ⟨i4, i5⟩
      · exact i3 y (by omega)
    | succ m ih =>
      intro k hk τ o6 o7 i1 i2 i3 i4 i5
      have hCt : gC r τ c := hC.lo hr (fun q hq => i1 q (by omega))
      refine x_iload5 (pc2 := 103) dX2_prepareSet_101 rfl ?_
      refine x_aload0 (pc2 := 104) dX2_prepareSet_103 rfl ?_
      refine x_getI (pc2 := 107) fX2_72 sh_31 rfl dX2_prepareSet_104 rfl ?_
      rw [i1 31 (by omega), h1]
      refine x_icmp_ge (pc2 := 110) (pc3 := 180) dX2_prepareSet_107 rfl rfl (fun h107 => ?_) (fun h107 => ?_)
      · exact absurd ((nI_le_iff (by omega) (by omega)).mp h107) (by omega)
      refine x_iload5 (pc2 := 112) dX2_prepareSet_110 rfl ?_
      refine x_bipush (v := 16) (pc2 := 114) dX2_prepareSet_112 rfl (by decide) ?_
      refine x_imul (pc2 := 115) dX2_prepareSet_114 rfl ?_
      refine x_iload2 (pc2 := 116) dX2_prepareSet_115 rfl ?_
      refine x_iadd (pc2 := 117) dX2_prepareSet_116 rfl ?_
      rw [gb_st16 k (by omega) x hx16]
      refine x_istore6 (pc2 := 119) dX2_prepareSet_117 rfl rfl ?_
      refine x_iload6 (pc2 := 121) dX2_prepareSet_119 rfl ?_
      refine x_bipush (v := 48) (pc2 := 123) dX2_prepareSet_121 rfl (by decide) ?_
      refine x_iadd (pc2 := 124) dX2_prepareSet_123 rfl ?_
      rw [show nI (k * 16 + x) + 48 = nI (48 + (k * 16 + x)) by rw [show (48 : Int32) = nI 48 from rfl, z_nIadd, Nat.add_comm]]
      have hmin : ∀ (τ : zS), gC r τ c → ∀ (wet : Bool) (ws : Int32), ws = z_b wet → (if z_ld (cPd c) (nI x) (cK c) = 0 then τ.1 (r + 1) (nI k).toNatClampNeg else τ.1 (r + 1) (nI k).toNatClampNeg + z_mud (τ.1 (r + 3) (nI k).toNatClampNeg) (τ.1 (r + 2) (nI k).toNatClampNeg) ws + z_ld (cPd c) (nI x) (cK c) / 3) = nI (gTk c k x wet) := by
        intro τ hCt wet ws hws
        rw [nI_clamp (by omega), hCt.2.2.1.1, hCt.2.2.1.2.1, hCt.2.2.1.2.2, hws]
        exact gMin hc (by omega) hx wet
      suffices h149 : z_At mX2_prepareSet (d + 3) 149 [.ref 31, .ref r, .int (nI x), .int (z_b b), .int (z_ld (cPd c) (nI x) (cK c)), .int (nI k), .int (nI (k * 16 + x)), .int (nI (48 + (k * 16 + x)))] [.int (nI (nB b (gTk c k x false))), .int (nI (k * 16 + x)), .ref 35] τ (fun rv τ => rv = none ∧ (∀ q, q < 32 ∨ 35 < q → τ.1 q = σ.1 q) ∧ τ.2 = σ.2 ∧ gSx τ c b (x + 1)) by
        rw [nB_nat] at h149
        refine x_istore7 (pc2 := 126) dX2_prepareSet_124 rfl rfl ?_
        refine x_aload0 (pc2 := 127) dX2_prepareSet_126 rfl ?_
        refine x_getR (pc2 := 130) fX2_22 sh_31 rfl dX2_prepareSet_127 rfl ?_
        refine x_iload6 (pc2 := 132) dX2_prepareSet_130 rfl ?_
        refine x_iload3 (pc2 := 133) dX2_prepareSet_132 rfl ?_
        refine x_if_eq (pc2 := 136) (pc3 := 140) dX2_prepareSet_133 rfl rfl (fun h133 => ?_) (fun h133 => ?_)
        · rw [z_b0] at h133
          rw [h133, if_neg (by decide)] at h149
          refine x_aload1 (pc2 := 141) dX2_prepareSet_140 rfl ?_
          refine x_iload5 (pc2 := 143) dX2_prepareSet_141 rfl ?_
          refine x_iload4 (pc2 := 145) dX2_prepareSet_143 rfl ?_
          refine x_iconst (v := 0) (pc2 := 146) dX2_prepareSet_145 rfl (by decide) ?_
          refine x_fV3 (pc2 := 149) eX0_minutesOver kX2_109 (sh_P hr) rfl (Nat.le_of_ble_eq_true rfl) dX2_prepareSet_146 rfl (s_minutesOver _ _ hr _ _ _ (z_in (by omega))) ?_
          rw [hmin τ hCt false 0 rfl, h133]
          exact h149
        · rw [z_bn0] at h133
          rw [h133, if_pos rfl] at h149
          refine x_iconst (v := 1) (pc2 := 137) dX2_prepareSet_136 rfl (by decide) ?_
          refine x_goto (pc2 := 149) dX2_prepareSet_137 rfl ?_
          rw [h133]
          exact h149
      refine x_iast (pc2 := 150) sh_35 (by exact z_in (by omega)) dX2_prepareSet_149 rfl ?_
      rw [nI_clamp (by omega)]
      have hCt2 : gC r (z_st τ 35 (k * 16 + x) (nI (nB b (gTk c k x false)))) c := hCt.lo hr (fun q hq => z_st_row _ _ _ (by omega))
      suffices h173 : z_At mX2_prepareSet (d + 3) 173 [.ref 31, .ref r, .int (nI x), .int (z_b b), .int (z_ld (cPd c) (nI x) (cK c)), .int (nI k), .int (nI (k * 16 + x)), .int (nI (48 + (k * 16 + x)))] [.int (nI (nB b (gTk c k x true))), .int (nI (48 + (k * 16 + x))), .ref 35] (z_st τ 35 (k * 16 + x) (nI (nB b (gTk c k x false)))) (fun rv τ => rv = none ∧ (∀ q, q < 32 ∨ 35 < q → τ.1 q = σ.1 q) ∧ τ.2 = σ.2 ∧ gSx τ c b (x + 1)) by
        generalize z_st τ 35 (k * 16 + x) (nI (nB b (gTk c k x false))) = τ5 at h173 hCt2
        rw [nB_nat] at h173
        refine x_aload0 (pc2 := 151) dX2_prepareSet_150 rfl ?_
        refine x_getR (pc2 := 154) fX2_22 sh_31 rfl dX2_prepareSet_151 rfl ?_
        refine x_iload7 (pc2 := 156) dX2_prepareSet_154 rfl ?_
        refine x_iload3 (pc2 := 157) dX2_prepareSet_156 rfl ?_
        refine x_if_eq (pc2 := 160) (pc3 := 164) dX2_prepareSet_157 rfl rfl (fun h157 => ?_) (fun h157 => ?_)
        · rw [z_b0] at h157
          rw [h157, if_neg (by decide)] at h173
          refine x_aload1 (pc2 := 165) dX2_prepareSet_164 rfl ?_
          refine x_iload5 (pc2 := 167) dX2_prepareSet_165 rfl ?_
          refine x_iload4 (pc2 := 169) dX2_prepareSet_167 rfl ?_
          refine x_iconst (v := 1) (pc2 := 170) dX2_prepareSet_169 rfl (by decide) ?_
          refine x_fV3 (pc2 := 173) eX0_minutesOver kX2_109 (sh_P hr) rfl (Nat.le_of_ble_eq_true rfl) dX2_prepareSet_170 rfl (s_minutesOver _ _ hr _ _ _ (z_in (by omega))) ?_
          rw [hmin τ5 hCt2 true 1 rfl, h157]
          exact h173
        · rw [z_bn0] at h157
          rw [h157, if_pos rfl] at h173
          refine x_iconst (v := 1) (pc2 := 161) dX2_prepareSet_160 rfl (by decide) ?_
          refine x_goto (pc2 := 173) dX2_prepareSet_161 rfl ?_
          rw [h157]
          exact h173
      refine x_iast (pc2 := 174) sh_35 (by exact z_in (by omega)) dX2_prepareSet_173 rfl ?_
      refine x_iinc5 (pc2 := 177) dX2_prepareSet_174 rfl (z_inc1 _) rfl ?_
      refine x_goto (pc2 := 101) dX2_prepareSet_177 rfl ?_
      rw [nI_clamp (by omega), ← nI_succ]
      refine ih (k + 1) (by omega) _ _ _ (fun q hq => ?_) i2 (fun y hy => ?_) ?_ (fun k' hk' => ?_)
      · rw [z_st_row _ _ _ (by omega), z_st_row _ _ _ (by omega)]
        exact i1 q hq
      · rw [z_st_row _ _ _ (by decide), z_st_row _ _ _ (by decide), z_st_row _ _ _ (by decide), z_st_row _ _ _ (by decide), z_st_row _ _ _ (by decide), z_st_row _ _ _ (by decide)]
        refine ⟨(i3 y hy).1, fun k' hk' => ?_⟩
        rw [z_st_fld _ _ _ (by omega), z_st_fld _ _ _ (by omega), z_st_fld _ _ _ (by omega), z_st_fld _ _ _ (by omega)]
        exact (i3 y hy).2 k' hk'
      · rw [z_st_row _ _ _ (by decide), z_st_row _ _ _ (by decide), z_st_row _ _ _ (by decide), z_st_row _ _ _ (by decide), z_st_row _ _ _ (by decide), z_st_row _ _ _ (by decide)]
        exact i4
      · by_cases e : k' = k
        · subst e
          rw [z_st_at, z_st_fld _ _ _ (by omega), z_st_at]
          exact ⟨rfl, rfl⟩
        · rw [z_st_fld _ _ _ (by omega), z_st_fld _ _ _ (by omega), z_st_fld _ _ _ (by omega), z_st_fld _ _ _ (by omega)]
          exact i5 k' (by omega)
