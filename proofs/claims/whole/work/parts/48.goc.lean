/-! PortageTrips$Walk.go, spotOf; the model's spotAt -/
theorem gd_0 (t : Nat) : gd 0 t = 0 := by simp [gd]
theorem gH_0 {ms K : Nat} (h : 4 ≤ ms) (hK : K ≤ 4) (p : Nat) : ∀ n, n ≤ K → gH ms 0 p n = if p = 0 then 2 ^ n - 1 else 0
  | 0, _ => by simp [gH]
  | n + 1, hn => by
    rw [gH, gH_0 h hK p n (by omega), gd_0]
    by_cases e : p = 0
    · rw [if_pos e, if_neg (by omega), if_pos e, Nat.pow_succ]
      have : 1 ≤ 2 ^ n := Nat.one_le_two_pow
      omega
    · rw [if_neg e, if_pos (Or.inr (fun q => e q.symm)), if_neg e]
theorem gb_full : ∀ K < 5, ((1 : Int32) <<< (nI K &&& 31)) - 1 = nI (2 ^ K - 1) := by decide +kernel
theorem wUL {c : zG} (hc : gWf c) {to x : Nat → Nat} : ∀ k, (∀ i, i < k → wOk c to x i = true) → 1 ≤ wU c to x k ∧ wU c to x k ≤ wL x k ∧ wL x k ≤ 10 ^ k
  | 0, _ => by simp [wU, wL]
  | k + 1, h => by
    obtain ⟨h1, h2, h3⟩ := wUL hc k (fun i hi => h i (by omega))
    have hm := (gMu_nat hc (wK_lt hc.2.1.1 h) (gWet c (wT c to x k))).2
    rw [wU, wL, Nat.pow_succ]
    by_cases e : x k = 0
    · rw [if_pos e, if_pos e]
      have : 10 ^ k ≤ 10 ^ k * 10 := Nat.le_mul_of_pos_right _ (by decide)
      exact ⟨h1, h2, by omega⟩
    · rw [if_neg e, if_neg e]
      refine ⟨?_, ?_, Nat.mul_le_mul_right _ h3⟩
      · exact Nat.mul_pos h1 (by omega)
      · exact Nat.mul_le_mul h2 (by omega)
theorem s_goC (d : Nat) {σ : zS} {r : Nat} (hr : z_isP r) {c : zG} (hc : gWf c) (hC0 : gC r σ c) {n : Nat} {to x : Nat → Nat} (hT0 : gTc σ n to x) (hx : ∀ k, x k < 16) (hvN : ∀ k, k < n → to k ≤ cN c) (hb0 : σ.1 29 0 = 0) : z_Ex mX4_go (d + 3) [.ref 26, .ref r] σ (fun rv τ => rv = none ∧ gFc σ τ ∧ τ.1 26 6 = wR (wW c to x n) ∧ (wW c to x n = none → gJc σ c to x n τ ∧ τ.2 26 7 = lN (wU c to x n / Nat.gcd (wL x n) (wU c to x n)) ∧ τ.2 26 8 = lN (wL x n / Nat.gcd (wL x n) (wU c to x n)))) := by
  refine x_enter (by decide) (Nat.le_of_ble_eq_true rfl) ?_
  show z_At _ _ _ [.ref 26, .ref r, .null] _ _ _
  refine x_aload0 (pc2 := 1) dX4_go_0 rfl ?_
  refine x_iconst (v := 0) (pc2 := 2) dX4_go_1 rfl (by decide) ?_
  refine x_putI (pc2 := 5) pX4_38 sh_26 rfl dX4_go_2 rfl ?_
  refine x_aload0 (pc2 := 6) dX4_go_5 rfl ?_
  refine x_bipush (v := -9) (pc2 := 8) dX4_go_6 rfl (by decide) ?_
  refine x_putI (pc2 := 11) pX4_24 sh_26 rfl dX4_go_8 rfl ?_
  refine x_aload0 (pc2 := 12) dX4_go_11 rfl ?_
  refine x_lconst (v := 1) (pc2 := 13) dX4_go_12 rfl (by decide) ?_
  refine x_putL (pc2 := 16) pX4_28 sh_26 rfl dX4_go_13 rfl ?_
  refine x_aload0 (pc2 := 17) dX4_go_16 rfl ?_
  refine x_lconst (v := 1) (pc2 := 18) dX4_go_17 rfl (by decide) ?_
  refine x_putL (pc2 := 21) pX4_32 sh_26 rfl dX4_go_18 rfl ?_
  refine x_aload0 (pc2 := 22) dX4_go_21 rfl ?_
  refine x_getR (pc2 := 25) fX4_21 sh_26 rfl dX4_go_22 rfl ?_
  refine x_iconst (v := 0) (pc2 := 26) dX4_go_25 rfl (by decide) ?_
  refine x_pS2 (pc2 := 29) eJ7_fill_53178 kX4_41 (Nat.le_of_ble_eq_true rfl) dX4_go_26 rfl (s_fill _ _ sh_30 (by decide) _) ?_
  refine x_aload0 (pc2 := 30) dX4_go_29 rfl ?_
  refine x_getR (pc2 := 33) fX4_21 sh_26 rfl dX4_go_30 rfl ?_
  refine x_iconst (v := 0) (pc2 := 34) dX4_go_33 rfl (by decide) ?_
  refine x_iconst (v := 1) (pc2 := 35) dX4_go_34 rfl (by decide) ?_
  refine x_aload1 (pc2 := 36) dX4_go_35 rfl ?_
  refine x_getI (pc2 := 39) fX4_47 (sh_P hr) rfl dX4_go_36 rfl ?_
  rw [show (z_fill (z_stL (z_stL (z_st (z_st σ 26 5 0) 26 6 (-9)) 26 7 1) 26 8 1) 30 4 0).1 r 6 = σ.1 r 6 from by rcases hr with rfl | rfl <;> rfl, hC0.1.1]
  refine x_ishl (pc2 := 40) dX4_go_39 rfl ?_
  refine x_iconst (v := 1) (pc2 := 41) dX4_go_40 rfl (by decide) ?_
  refine x_isub (pc2 := 42) dX4_go_41 rfl ?_
  rw [gb_full _ (by have := hc.1; omega)]
  refine x_iast (pc2 := 43) sh_30 (by exact z_in (t := 0) (by decide)) dX4_go_42 rfl ?_
  refine x_iconst (v := 0) (pc2 := 44) dX4_go_43 rfl (by decide) ?_
  refine x_istore2 (pc2 := 45) dX4_go_44 rfl rfl ?_
  have hj0 : gJc σ c to x 0 (z_st (z_fill (z_stL (z_stL (z_st (z_st σ 26 5 0) 26 6 (-9)) 26 7 1) 26 8 1) 30 4 0) 30 0 (nI (2 ^ cK c - 1))) ∧ gJl c to x 0 (z_st (z_fill (z_stL (z_stL (z_st (z_st σ 26 5 0) 26 6 (-9)) 26 7 1) 26 8 1) 30 4 0) 30 0 (nI (2 ^ cK c - 1))) := by
    refine ⟨⟨⟨fun q h1 h2 h3 => ?_, fun j h1 h2 => ?_, fun q h1 => ?_, rfl⟩, ⟨rfl, rfl⟩, fun p hp => ?_, fun i hi => ?_⟩, rfl, rfl⟩
    · simp [z_st, z_fill, z_stL, z_up, h1, h3]
    · simp [z_st, z_fill, z_stL, z_up, upd, h1, h2]
    · simp [z_st, z_fill, z_stL, z_upL, h1]
    · rw [z_st_rowS, show wS to x 0 = 0 from rfl, gH_0 hC0.1.2.2 hc.1 p _ (Nat.le_refl _)]
      unfold upd
      by_cases e : p = 0
      · rw [if_pos e, if_pos e]
      · rw [if_neg e, if_neg e]
        rw [show nI 0 = 0 from rfl]
        simp [z_fill, z_up, hp]
    · obtain rfl : i = 0 := by omega
      exact hb0
  show z_At mX4_go _ _ _ _ (z_st (z_fill (z_stL (z_stL (z_st (z_st σ 26 5 0) 26 6 (-9)) 26 7 1) 26 8 1) 30 4 0) 30 0 (nI (2 ^ cK c - 1))) _
  generalize z_st (z_fill (z_stL (z_stL (z_st (z_st σ 26 5 0) 26 6 (-9)) 26 7 1) 26 8 1) 30 4 0) 30 0 (nI (2 ^ cK c - 1)) = τ at hj0 ⊢
  suffices h : ∀ m k, k + m = n → ∀ τ, gJc σ c to x k τ → gJl c to x k τ → (∀ i, i < k → wOk c to x i = true) → z_At mX4_go (d + 3) 45 [.ref 26, .ref r, .int (nI k)] [] τ (fun rv τ => rv = none ∧ gFc σ τ ∧ τ.1 26 6 = wR (wW c to x n) ∧ (wW c to x n = none → gJc σ c to x n τ ∧ τ.2 26 7 = lN (wU c to x n / Nat.gcd (wL x n) (wU c to x n)) ∧ τ.2 26 8 = lN (wL x n / Nat.gcd (wL x n) (wU c to x n)))) from h n 0 (by omega) τ hj0.1 hj0.2 (fun i hi => by omega)
  clear hj0 τ
  have hn18 := hT0.2.1
  intro m
  induction m with
  | zero =>
    intro k hk τ hJ hl hok
    obtain rfl : k = n := by omega
    have hT := hT0.of hJ.1
    refine x_iload2 (pc2 := 46) dX4_go_45 rfl ?_
    refine x_aload0 (pc2 := 47) dX4_go_46 rfl ?_
    refine x_getI (pc2 := 50) fX4_35 sh_26 rfl dX4_go_47 rfl ?_
    refine x_icmp_ge (pc2 := 53) (pc3 := 80) dX4_go_50 rfl rfl (fun h50 => ?_) (fun h50 => ?_)
    · obtain ⟨u1, u2, u3⟩ := wUL hc k hok
      have u4 : (10 : Nat) ^ k ≤ 10 ^ 18 := Nat.pow_le_pow_right (by decide) hn18
      refine x_aload0 (pc2 := 81) dX4_go_80 rfl ?_
      refine x_pV0 (pc2 := 84) eX4_cutShare kX4_60 sh_26 rfl (Nat.le_of_ble_eq_true rfl) dX4_go_81 rfl (s_cutShare _ hl.1 hl.2 u1 u2 (by omega)) ?_
      refine x_vret dX4_go_84 rfl ?_
      rw [wW_none k hok]
      refine ⟨rfl, ⟨hJ.1.1, hJ.1.2.1, fun q h1 => ?_, hJ.1.2.2.2⟩, hJ.2.1.2, fun _ => ⟨⟨⟨hJ.1.1, hJ.1.2.1, fun q h1 => ?_, hJ.1.2.2.2⟩, hJ.2⟩, rfl, rfl⟩⟩
      · rw [← hJ.1.2.2.1 q h1]
        simp [z_stL, z_upL, h1]
      · rw [← hJ.1.2.2.1 q h1]
        simp [z_stL, z_upL, h1]
    · exact absurd (by rw [hT.1]; exact Int32.le_refl _) h50
  | succ m ih =>
    intro k hk τ hJ hl hok
    have hT := hT0.of hJ.1
    have hC := hC0.of hr hJ.1
    have hkn : k < n := by omega
    obtain ⟨t1, t2, t3⟩ := hT.2.2 k hkn
    have hsk := wS_ok hc.2.1.1 k hok
    refine x_iload2 (pc2 := 46) dX4_go_45 rfl ?_
    refine x_aload0 (pc2 := 47) dX4_go_46 rfl ?_
    refine x_getI (pc2 := 50) fX4_35 sh_26 rfl dX4_go_47 rfl ?_
    refine x_icmp_ge (pc2 := 53) (pc3 := 80) dX4_go_50 rfl rfl (fun h50 => ?_) (fun h50 => ?_)
    · rw [hT.1] at h50
      exact absurd h50 (nI_ge (by omega) (by omega))
    · skip
      refine x_aload0 (pc2 := 54) dX4_go_53 rfl ?_
      refine x_aload1 (pc2 := 55) dX4_go_54 rfl ?_
      refine x_iload2 (pc2 := 56) dX4_go_55 rfl ?_
      refine x_fV2 (pc2 := 59) eX4_canGo kX4_52 sh_26 rfl (Nat.le_of_ble_eq_true rfl) dX4_go_56 rfl (s_canGo _ hr hc hC hsk.1 hJ.2.1.1 (hJ.2.2.1 _ (Nat.mod_lt _ (by decide))) (by omega) t1 t2 (hvN k hkn) t3 (hx k)) ?_
      refine x_if_ne (pc2 := 62) (pc3 := 68) dX4_go_59 rfl rfl (fun h59 => ?_) (fun h59 => ?_)
      · rw [z_bn0] at h59
        have hok1 : ∀ i, i < k + 1 → wOk c to x i = true := fun i hi => by
          by_cases e : i = k
          · subst e; exact h59
          · exact hok i (by omega)
        refine x_aload0 (pc2 := 69) dX4_go_68 rfl ?_
        refine x_aload1 (pc2 := 70) dX4_go_69 rfl ?_
        refine x_iload2 (pc2 := 71) dX4_go_70 rfl ?_
        refine x_cV2 eX4_goOne kX4_56 sh_26 rfl (Nat.le_of_ble_eq_true rfl) dX4_go_71 ?_
        refine (s_goOne d hr hc hC0 hT0 hx hkn hJ hl hok1).mono ?_
        rintro rv τ' ⟨rfl, hJ', hl'⟩
        show z_At _ _ 74 _ [] _ _
        refine x_iinc2 (pc2 := 77) dX4_go_74 rfl (z_inc1 _) rfl ?_
        refine x_goto (pc2 := 45) dX4_go_77 rfl ?_
        rw [← nI_succ]
        exact ih (k + 1) (by omega) τ' hJ' hl' hok1
      · rw [z_b0] at h59
        refine x_aload0 (pc2 := 63) dX4_go_62 rfl ?_
        refine x_iload2 (pc2 := 64) dX4_go_63 rfl ?_
        refine x_putI (pc2 := 67) pX4_24 sh_26 rfl dX4_go_64 rfl ?_
        refine x_vret dX4_go_67 rfl ?_
        rw [wW_some hok h59 n hkn]
        refine ⟨rfl, ⟨fun q h1 h2 h3 => ?_, fun j h1 h2 => ?_, fun q h1 => hJ.1.2.2.1 q h1, hJ.1.2.2.2⟩, z_st_at _ _ _ _, fun q => by cases q⟩
        · rw [z_st_row _ _ _ h1]; exact hJ.1.1 q h1 h2 h3
        · rw [z_st_fld _ _ _ h2]; exact hJ.1.2.1 j h1 h2

/-- where a thing is as a minute ends -/
def wA (c : zG) (to x : Nat → Nat) (t m : Nat) : Nat → Int32
  | 0 => 0
  | k + 1 => if (x k).testBit t = true ∧ wT c to x k ≤ m then (if m < wT c to x (k + 1) then -9 else nI (to k)) else wA c to x t m k
theorem wA_stop {c : zG} {to x : Nat → Nat} {t m k : Nat} : ∀ n, (∀ j, k ≤ j → j < k + n → m < wT c to x j) → wA c to x t m (k + n) = wA c to x t m k
  | 0, _ => rfl
  | n + 1, h => by
    rw [← Nat.add_assoc, wA, if_neg (fun q => by have := h (k + n) (by omega) (by omega); omega)]
    exact wA_stop n (fun j h1 h2 => h j h1 (by omega))
theorem wT_lt {c : zG} (hc : gWf c) {to x : Nat → Nat} (hx : ∀ k, x k < 16) {n : Nat} (h : ∀ i, i < n → wOk c to x i = true) : ∀ j k, k + j ≤ n → wT c to x k + j ≤ wT c to x (k + j)
  | 0, k, _ => by simp
  | j + 1, k, hk => by
    have h1 := wT_lt hc hx h j k (by omega)
    have h2 := (gTk_nat hc (wK_lt hc.2.1.1 (fun i hi => h i (by omega) : ∀ i, i < k + j + 1 → wOk c to x i = true)) (hx (k + j)) (gWet c (wT c to x (k + j)))).2.1
    show wT c to x k + (j + 1) ≤ wT c to x (k + j + 1)
    rw [wT]
    omega
theorem s_spotOf (d : Nat) {τ : zS} {c : zG} (hc : gWf c) {n : Nat} {to x : Nat → Nat} (hT : gTc τ n to x) (hx : ∀ k, x k < 16) (hok : ∀ i, i < n → wOk c to x i = true) (hb : ∀ i, i ≤ n → τ.1 29 i = nI (wT c to x i)) {t m : Nat} (ht : t < 4) (hm : m < 2 ^ 31) : z_Fn mX4_spotOf (d + 1) [.ref 26, .int (nI t), .int (nI m)] τ (.int (wA c to x t m n)) τ := by
  refine x_enter (by decide) (Nat.le_of_ble_eq_true rfl) ?_
  show z_At _ _ _ [.ref 26, .int (nI t), .int (nI m), .null, .null] _ _ _
  have hn18 := hT.2.1
  have hTle : ∀ k, k ≤ n → wT c to x k ≤ 29 * k := fun k hk => wT_le hc hx k (fun i hi => hok i (by omega))
  refine x_iconst (v := 0) (pc2 := 1) dX4_spotOf_0 rfl (by decide) ?_
  refine x_istore3 (pc2 := 2) dX4_spotOf_1 rfl rfl ?_
  refine x_iconst (v := 0) (pc2 := 3) dX4_spotOf_2 rfl (by decide) ?_
  refine x_istore4 (pc2 := 5) dX4_spotOf_3 rfl rfl ?_
  suffices h : ∀ j k, k + j = n → z_At mX4_spotOf (d + 1) 5 [.ref 26, .int (nI t), .int (nI m), .int (wA c to x t m k), .int (nI k)] [] τ (fun rv σ' => rv = some (.int (wA c to x t m n)) ∧ σ' = τ) from h n 0 (by omega)
  intro j
  induction j with
  | zero =>
    intro k hk
    obtain rfl : k = n := by omega
    refine x_iload4 (pc2 := 7) dX4_spotOf_5 rfl ?_
    refine x_aload0 (pc2 := 8) dX4_spotOf_7 rfl ?_
    refine x_getI (pc2 := 11) fX4_35 sh_26 rfl dX4_spotOf_8 rfl ?_
    refine x_icmp_ge (pc2 := 14) (pc3 := 69) dX4_spotOf_11 rfl rfl (fun h11 => ?_) (fun h11 => ?_)
    · skip
      refine x_iload3 (pc2 := 70) dX4_spotOf_69 rfl ?_
      refine x_iret dX4_spotOf_70 rfl ?_
      exact ⟨rfl, rfl⟩
    · exact absurd (by rw [hT.1]; exact Int32.le_refl _) h11
  | succ j ih =>
    intro k hk
    obtain ⟨t1, t2, t3⟩ := hT.2.2 k (by omega)
    have e1 := hTle k (by omega)
    have e2 := hTle (k + 1) (by omega)
    have hmn : ∀ i, i ≤ n → k + 1 ≤ i → wT c to x (k + 1) ≤ wT c to x i := fun i hi h1 => by
      have := wT_lt hc hx hok (i - (k + 1)) (k + 1) (by omega)
      rw [show k + 1 + (i - (k + 1)) = i by omega] at this
      omega
    have hmk := wT_lt hc hx hok 1 k (by omega)
    refine x_iload4 (pc2 := 7) dX4_spotOf_5 rfl ?_
    refine x_aload0 (pc2 := 8) dX4_spotOf_7 rfl ?_
    refine x_getI (pc2 := 11) fX4_35 sh_26 rfl dX4_spotOf_8 rfl ?_
    refine x_icmp_ge (pc2 := 14) (pc3 := 69) dX4_spotOf_11 rfl rfl (fun h11 => ?_) (fun h11 => ?_)
    · rw [hT.1] at h11
      exact absurd h11 (nI_ge (by omega) (by omega))
    · skip
      refine x_aload0 (pc2 := 15) dX4_spotOf_14 rfl ?_
      refine x_getR (pc2 := 18) fX4_18 sh_26 rfl dX4_spotOf_15 rfl ?_
      refine x_iload4 (pc2 := 20) dX4_spotOf_18 rfl ?_
      refine x_iald (pc2 := 21) sh_29 (by exact z_in (by omega)) dX4_spotOf_20 rfl ?_
      refine x_iload2 (pc2 := 22) dX4_spotOf_21 rfl ?_
      rw [nI_clamp (by omega), hb k (by omega)]
      refine x_icmp_gt (pc2 := 25) (pc3 := 69) dX4_spotOf_22 rfl rfl (fun h22 => ?_) (fun h22 => ?_)
      · rw [nI_lt_iff hm (by omega)] at h22
        refine x_iload3 (pc2 := 70) dX4_spotOf_69 rfl ?_
        refine x_iret dX4_spotOf_70 rfl ?_
        have := wA_stop (c := c) (to := to) (x := x) (t := t) (m := m) (k := k) (j + 1) (fun i h1 h2 => by
          by_cases q : i = k
          · subst q; exact h22
          · have := hmn i (by omega) (by omega)
            omega)
        rw [hk] at this
        exact ⟨by rw [this], rfl⟩
      · rw [nI_lt_iff hm (by omega)] at h22
        refine x_aload0 (pc2 := 26) dX4_spotOf_25 rfl ?_
        refine x_getR (pc2 := 29) fX4_15 sh_26 rfl dX4_spotOf_26 rfl ?_
        refine x_iload4 (pc2 := 31) dX4_spotOf_29 rfl ?_
        refine x_iald (pc2 := 32) sh_28 (by exact z_in (by omega)) dX4_spotOf_31 rfl ?_
        refine x_iload1 (pc2 := 33) dX4_spotOf_32 rfl ?_
        rw [nI_clamp (by omega), t3]
        refine x_fS2 (pc2 := 36) eX0_isIn kX4_96 (Nat.le_of_ble_eq_true rfl) dX4_spotOf_33 rfl (s_isIn _ _ _ _) ?_
        rw [gb_bit _ (hx k) t ht]
        refine x_if_eq (pc2 := 39) (pc3 := 63) dX4_spotOf_36 rfl rfl (fun h36 => ?_) (fun h36 => ?_)
        · rw [z_b0] at h36
          refine x_iinc4 (pc2 := 66) dX4_spotOf_63 rfl (z_inc1 _) rfl ?_
          refine x_goto (pc2 := 5) dX4_spotOf_66 rfl ?_
          rw [← nI_succ]
          have := ih (k + 1) (by omega)
          rw [wA, if_neg (fun q => by rw [h36] at q; cases q.1)] at this
          exact this
        · rw [z_bn0] at h36
          refine x_iload2 (pc2 := 40) dX4_spotOf_39 rfl ?_
          refine x_aload0 (pc2 := 41) dX4_spotOf_40 rfl ?_
          refine x_getR (pc2 := 44) fX4_18 sh_26 rfl dX4_spotOf_41 rfl ?_
          refine x_iload4 (pc2 := 46) dX4_spotOf_44 rfl ?_
          refine x_iconst (v := 1) (pc2 := 47) dX4_spotOf_46 rfl (by decide) ?_
          refine x_iadd (pc2 := 48) dX4_spotOf_47 rfl ?_
          rw [← nI_succ]
          refine x_iald (pc2 := 49) sh_29 (by exact z_in (by omega)) dX4_spotOf_48 rfl ?_
          rw [nI_clamp (by omega), hb (k + 1) (by omega)]
          refine x_icmp_ge (pc2 := 52) (pc3 := 55) dX4_spotOf_49 rfl rfl (fun h49 => ?_) (fun h49 => ?_)
          · rw [nI_le_iff (by omega) hm] at h49
            refine x_aload0 (pc2 := 56) dX4_spotOf_55 rfl ?_
            refine x_getR (pc2 := 59) fX4_9 sh_26 rfl dX4_spotOf_56 rfl ?_
            refine x_iload4 (pc2 := 61) dX4_spotOf_59 rfl ?_
            refine x_iald (pc2 := 62) sh_27 (by exact z_in (by omega)) dX4_spotOf_61 rfl ?_
            refine x_istore3 (pc2 := 63) dX4_spotOf_62 rfl rfl ?_
            refine x_iinc4 (pc2 := 66) dX4_spotOf_63 rfl (z_inc1 _) rfl ?_
            refine x_goto (pc2 := 5) dX4_spotOf_66 rfl ?_
            rw [← nI_succ, nI_clamp (by omega), t1]
            have := ih (k + 1) (by omega)
            rw [wA, if_pos ⟨h36, by omega⟩, if_neg (by omega)] at this
            exact this
          · rw [nI_le_iff (by omega) hm] at h49
            refine x_bipush (v := -9) (pc2 := 54) dX4_spotOf_52 rfl (by decide) ?_
            refine x_iret dX4_spotOf_54 rfl ?_
            have := wA_stop (c := c) (to := to) (x := x) (t := t) (m := m) (k := k + 1) j (fun i h1 h2 => by
              have := hmn i (by omega) (by omega)
              omega)
            rw [show k + 1 + j = n by omega, wA, if_pos ⟨h36, by omega⟩, if_pos (by omega)] at this
            exact ⟨by rw [this], rfl⟩
theorem s_spotAt (d : Nat) {τ : zS} {c : zG} (hc : gWf c) {n : Nat} {to x : Nat → Nat} (hT : gTm τ n to x) (hx : ∀ k, x k < 16) (hok : ∀ i, i < n → wOk c to x i = true) (hb : ∀ i, i < n → τ.1 56 i = nI (wT c to x i) ∧ τ.1 57 i = nI (wT c to x (i + 1))) {t m : Nat} (ht : t < 4) (hm : m < 2 ^ 31) : z_Fn mX6_spotAt d [.ref 43, .int (nI t), .int (nI m)] τ (.int (wA c to x t m n)) τ := by
  refine x_enter (by decide) (Nat.le_of_ble_eq_true rfl) ?_
  show z_At _ _ _ [.ref 43, .int (nI t), .int (nI m), .null, .null] _ _ _
  have hn18 := hT.2.1
  have hTle : ∀ k, k ≤ n → wT c to x k ≤ 29 * k := fun k hk => wT_le hc hx k (fun i hi => hok i (by omega))
  refine x_iconst (v := 0) (pc2 := 1) dX6_spotAt_0 rfl (by decide) ?_
  refine x_istore3 (pc2 := 2) dX6_spotAt_1 rfl rfl ?_
  refine x_iconst (v := 0) (pc2 := 3) dX6_spotAt_2 rfl (by decide) ?_
  refine x_istore4 (pc2 := 5) dX6_spotAt_3 rfl rfl ?_
  suffices h : ∀ j k, k + j = n → z_At mX6_spotAt d 5 [.ref 43, .int (nI t), .int (nI m), .int (wA c to x t m k), .int (nI k)] [] τ (fun rv σ' => rv = some (.int (wA c to x t m n)) ∧ σ' = τ) from h n 0 (by omega)
  intro j
  induction j with
  | zero =>
    intro k hk
    obtain rfl : k = n := by omega
    refine x_iload4 (pc2 := 7) dX6_spotAt_5 rfl ?_
    refine x_aload0 (pc2 := 8) dX6_spotAt_7 rfl ?_
    refine x_getI (pc2 := 11) fX6_172 sh_43 rfl dX6_spotAt_8 rfl ?_
    refine x_icmp_ge (pc2 := 14) (pc3 := 70) dX6_spotAt_11 rfl rfl (fun h11 => ?_) (fun h11 => ?_)
    · skip
      refine x_iload3 (pc2 := 71) dX6_spotAt_70 rfl ?_
      refine x_iret dX6_spotAt_71 rfl ?_
      exact ⟨rfl, rfl⟩
    · exact absurd (by rw [hT.1]; exact Int32.le_refl _) h11
  | succ j ih =>
    intro k hk
    obtain ⟨t1, t2, t3⟩ := hT.2.2 k (by omega)
    obtain ⟨b1, b2⟩ := hb k (by omega)
    have e1 := hTle k (by omega)
    have e2 := hTle (k + 1) (by omega)
    have hbit := gb_bit _ (hx k) t ht
    unfold z_bit at hbit
    refine x_iload4 (pc2 := 7) dX6_spotAt_5 rfl ?_
    refine x_aload0 (pc2 := 8) dX6_spotAt_7 rfl ?_
    refine x_getI (pc2 := 11) fX6_172 sh_43 rfl dX6_spotAt_8 rfl ?_
    refine x_icmp_ge (pc2 := 14) (pc3 := 70) dX6_spotAt_11 rfl rfl (fun h11 => ?_) (fun h11 => ?_)
    · rw [hT.1] at h11
      exact absurd h11 (nI_ge (by omega) (by omega))
    · skip
      refine x_aload0 (pc2 := 15) dX6_spotAt_14 rfl ?_
      refine x_getR (pc2 := 18) fX6_51 sh_43 rfl dX6_spotAt_15 rfl ?_
      refine x_iload4 (pc2 := 20) dX6_spotAt_18 rfl ?_
      refine x_iald (pc2 := 21) sh_55 (by exact z_in (by omega)) dX6_spotAt_20 rfl ?_
      refine x_iload1 (pc2 := 22) dX6_spotAt_21 rfl ?_
      refine x_ishr (pc2 := 23) dX6_spotAt_22 rfl ?_
      refine x_iconst (v := 1) (pc2 := 24) dX6_spotAt_23 rfl (by decide) ?_
      refine x_iand (pc2 := 25) dX6_spotAt_24 rfl ?_
      refine x_iconst (v := 1) (pc2 := 26) dX6_spotAt_25 rfl (by decide) ?_
      rw [nI_clamp (by omega), t3]
      refine x_icmp_ne (pc2 := 29) (pc3 := 64) dX6_spotAt_26 rfl rfl (fun h26 => ?_) (fun h26 => ?_)
      · have hf : (x k).testBit t = false := by rw [← hbit]; exact decide_eq_false h26
        refine x_iinc4 (pc2 := 67) dX6_spotAt_64 rfl (z_inc1 _) rfl ?_
        refine x_goto (pc2 := 5) dX6_spotAt_67 rfl ?_
        rw [← nI_succ]
        have := ih (k + 1) (by omega)
        rw [wA, if_neg (fun q => by rw [hf] at q; cases q.1)] at this
        exact this
      · have hf : (x k).testBit t = true := by rw [← hbit]; exact decide_eq_true h26
        refine x_aload0 (pc2 := 30) dX6_spotAt_29 rfl ?_
        refine x_getR (pc2 := 33) fX6_54 sh_43 rfl dX6_spotAt_30 rfl ?_
        refine x_iload4 (pc2 := 35) dX6_spotAt_33 rfl ?_
        refine x_iald (pc2 := 36) sh_56 (by exact z_in (by omega)) dX6_spotAt_35 rfl ?_
        refine x_iload2 (pc2 := 37) dX6_spotAt_36 rfl ?_
        rw [nI_clamp (by omega), b1]
        refine x_icmp_gt (pc2 := 40) (pc3 := 64) dX6_spotAt_37 rfl rfl (fun h37 => ?_) (fun h37 => ?_)
        · rw [nI_lt_iff hm (by omega)] at h37
          refine x_iinc4 (pc2 := 67) dX6_spotAt_64 rfl (z_inc1 _) rfl ?_
          refine x_goto (pc2 := 5) dX6_spotAt_67 rfl ?_
          rw [← nI_succ]
          have := ih (k + 1) (by omega)
          rw [wA, if_neg (fun q => by omega)] at this
          exact this
        · rw [nI_lt_iff hm (by omega)] at h37
          refine x_iload2 (pc2 := 41) dX6_spotAt_40 rfl ?_
          refine x_aload0 (pc2 := 42) dX6_spotAt_41 rfl ?_
          refine x_getR (pc2 := 45) fX6_57 sh_43 rfl dX6_spotAt_42 rfl ?_
          refine x_iload4 (pc2 := 47) dX6_spotAt_45 rfl ?_
          refine x_iald (pc2 := 48) sh_57 (by exact z_in (by omega)) dX6_spotAt_47 rfl ?_
          rw [nI_clamp (by omega), b2]
          refine x_icmp_ge (pc2 := 51) (pc3 := 56) dX6_spotAt_48 rfl rfl (fun h48 => ?_) (fun h48 => ?_)
          · rw [nI_le_iff (by omega) hm] at h48
            refine x_aload0 (pc2 := 57) dX6_spotAt_56 rfl ?_
            refine x_getR (pc2 := 60) fX6_48 sh_43 rfl dX6_spotAt_57 rfl ?_
            refine x_iload4 (pc2 := 62) dX6_spotAt_60 rfl ?_
            refine x_iald (pc2 := 63) sh_54 (by exact z_in (by omega)) dX6_spotAt_62 rfl ?_
            refine x_istore3 (pc2 := 64) dX6_spotAt_63 rfl rfl ?_
            refine x_iinc4 (pc2 := 67) dX6_spotAt_64 rfl (z_inc1 _) rfl ?_
            refine x_goto (pc2 := 5) dX6_spotAt_67 rfl ?_
            rw [← nI_succ, nI_clamp (by omega), t1]
            have := ih (k + 1) (by omega)
            rw [wA, if_pos ⟨hf, by omega⟩, if_neg (by omega)] at this
            exact this
          · rw [nI_le_iff (by omega) hm] at h48
            refine x_bipush (v := -9) (pc2 := 53) dX6_spotAt_51 rfl (by decide) ?_
            refine x_goto (pc2 := 63) dX6_spotAt_53 rfl ?_
            refine x_istore3 (pc2 := 64) dX6_spotAt_63 rfl rfl ?_
            refine x_iinc4 (pc2 := 67) dX6_spotAt_64 rfl (z_inc1 _) rfl ?_
            refine x_goto (pc2 := 5) dX6_spotAt_67 rfl ?_
            rw [← nI_succ]
            have := ih (k + 1) (by omega)
            rw [wA, if_pos ⟨hf, by omega⟩, if_pos (by omega)] at this
            exact this
