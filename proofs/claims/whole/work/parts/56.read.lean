/-! readings -/
def wRd (c : zG) (to x : Nat → Nat) (n : Nat) (rt rm : Nat → Nat) (rs : Nat → Int32) : Nat → Bool
  | 0 => true
  | q + 1 => wRd c to x n rt rm rs q && decide (wA c to x (rt q) (rm q) n = rs q)
theorem wRd_false {c : zG} {to x : Nat → Nat} {n : Nat} {rt rm : Nat → Nat} {rs : Nat → Int32} {k : Nat} (h : wRd c to x n rt rm rs k = false) : ∀ j, wRd c to x n rt rm rs (k + j) = false
  | 0 => h
  | j + 1 => by rw [← Nat.add_assoc, wRd, wRd_false h j, Bool.false_and]
def wAs (c : zG) (to x : Nat → Nat) (n : Nat) (rt rm : Nat → Nat) (rs : Nat → Int32) (q : Nat) : Bool := (wW c to x n).isNone && wRd c to x n rt rm rs q
theorem gEq_wOk {c c' : zG} (h : gEq c c') (to x : Nat → Nat) (k : Nat) : wOk c to x k = wOk c' to x k := h.ok _ _ _
theorem gEq_wW {c c' : zG} (h : gEq c c') (to x : Nat → Nat) : ∀ n, wW c to x n = wW c' to x n
  | 0 => rfl
  | n + 1 => by rw [wW, wW, gEq_wW h to x n, gEq_wOk h]
theorem gEq_wT {c c' : zG} (h : gEq c c') (hN : cN c ≤ 3) {to x : Nat → Nat} : ∀ k, (∀ i, i < k → wOk c to x i = true) → wT c to x k = wT c' to x k
  | 0, _ => rfl
  | k + 1, hk => by
    have h1 := gEq_wT h hN k (fun i hi => hk i (by omega))
    rw [wT, wT, h1, ← h.wet, h.tk (wK_lt hN hk)]
theorem gEq_wA {c c' : zG} (h : gEq c c') (hN : cN c ≤ 3) {to x : Nat → Nat} (t m n : Nat) (hn : ∀ i, i < n → wOk c to x i = true) : wA c to x t m n = wA c' to x t m n := by
  induction n with
  | zero => rfl
  | succ n ih =>
    have e1 := gEq_wT h hN n (fun i hi => hn i (by omega))
    have e2 := gEq_wT h hN (n + 1) hn
    have e3 := ih (fun i hi => hn i (by omega))
    unfold wA
    rw [e1, e2, e3]
theorem gEq_wRd {c c' : zG} (h : gEq c c') (hN : cN c ≤ 3) {to x : Nat → Nat} {n : Nat} (hn : ∀ i, i < n → wOk c to x i = true) (rt rm : Nat → Nat) (rs : Nat → Int32) : ∀ q, wRd c to x n rt rm rs q = wRd c' to x n rt rm rs q
  | 0 => rfl
  | q + 1 => by rw [wRd, wRd, gEq_wRd h hN hn rt rm rs q, gEq_wA h hN _ _ n hn]
theorem gEq_wAs {c c' : zG} (h : gEq c c') (hN : cN c ≤ 3) (to x : Nat → Nat) (n : Nat) (rt rm : Nat → Nat) (rs : Nat → Int32) (q : Nat) : wAs c to x n rt rm rs q = wAs c' to x n rt rm rs q := by
  unfold wAs
  rw [← gEq_wW h to x n]
  cases e : wW c to x n with
  | some k => rw [Option.isNone_some, Bool.false_and, Bool.false_and]
  | none => rw [gEq_wRd h hN (wW_ok _ e)]
/-- readings held by three rows -/
def gRd (σ : zS) (a0 a1 a2 q : Nat) (rt rm : Nat → Nat) (rs : Nat → Int32) : Prop := q ≤ 8 ∧ ∀ k, k < q → σ.1 a0 k = nI (rt k) ∧ rt k < 4 ∧ σ.1 a1 k = rs k ∧ σ.1 a2 k = nI (rm k) ∧ rm k < 2 ^ 31
theorem s_areSoBy (d : Nat) {τ : zS} {c : zG} (hc : gWf c) {n : Nat} {to x : Nat → Nat} (hT : gTc τ n to x) (hx : ∀ k, x k < 16) (hok : ∀ i, i < n → wOk c to x i = true) (hb : ∀ i, i ≤ n → τ.1 29 i = nI (wT c to x i)) {q : Nat} {rt rm : Nat → Nat} {rs : Nat → Int32} (hq : τ.1 22 0 = nI q) (hR : gRd τ 23 24 25 q rt rm rs) : z_Fn mX1_areSoBy (d + 2) [.ref 22, .ref 26] τ (.int (z_b (wRd c to x n rt rm rs q))) τ := by
  refine x_enter (by decide) (Nat.le_of_ble_eq_true rfl) ?_
  show z_At _ _ _ [.ref 22, .ref 26, .null] _ _ _
  have hq8 := hR.1
  refine x_iconst (v := 0) (pc2 := 1) dX1_areSoBy_0 rfl (by decide) ?_
  refine x_istore2 (pc2 := 2) dX1_areSoBy_1 rfl rfl ?_
  suffices h : ∀ j k, k + j = q → wRd c to x n rt rm rs k = true → z_At mX1_areSoBy (d + 2) 2 [.ref 22, .ref 26, .int (nI k)] [] τ (fun rv σ' => rv = some (.int (z_b (wRd c to x n rt rm rs q))) ∧ σ' = τ) from h q 0 (by omega) rfl
  intro j
  induction j with
  | zero =>
    intro k hk ht
    obtain rfl : k = q := by omega
    refine x_iload2 (pc2 := 3) dX1_areSoBy_2 rfl ?_
    refine x_aload0 (pc2 := 4) dX1_areSoBy_3 rfl ?_
    refine x_getI (pc2 := 7) fX1_21 sh_22 rfl dX1_areSoBy_4 rfl ?_
    refine x_icmp_ge (pc2 := 10) (pc3 := 43) dX1_areSoBy_7 rfl rfl (fun h7 => ?_) (fun h7 => ?_)
    · skip
      refine x_iconst (v := 1) (pc2 := 44) dX1_areSoBy_43 rfl (by decide) ?_
      refine x_zret dX1_areSoBy_44 rfl (by first | assumption | exact z_b01 _ | exact Or.inl rfl | exact Or.inr rfl) ?_
      rw [ht]
      exact ⟨rfl, rfl⟩
    · exact absurd (by rw [hq]; exact Int32.le_refl _) h7
  | succ j ih =>
    intro k hk ht
    obtain ⟨r1, r2, r3, r4, r5⟩ := hR.2 k (by omega)
    refine x_iload2 (pc2 := 3) dX1_areSoBy_2 rfl ?_
    refine x_aload0 (pc2 := 4) dX1_areSoBy_3 rfl ?_
    refine x_getI (pc2 := 7) fX1_21 sh_22 rfl dX1_areSoBy_4 rfl ?_
    refine x_icmp_ge (pc2 := 10) (pc3 := 43) dX1_areSoBy_7 rfl rfl (fun h7 => ?_) (fun h7 => ?_)
    · rw [hq] at h7
      exact absurd h7 (nI_ge (by omega) (by omega))
    · skip
      refine x_aload1 (pc2 := 11) dX1_areSoBy_10 rfl ?_
      refine x_aload0 (pc2 := 12) dX1_areSoBy_11 rfl ?_
      refine x_getR (pc2 := 15) fX1_9 sh_22 rfl dX1_areSoBy_12 rfl ?_
      refine x_iload2 (pc2 := 16) dX1_areSoBy_15 rfl ?_
      refine x_iald (pc2 := 17) sh_23 (by exact z_in (by omega)) dX1_areSoBy_16 rfl ?_
      refine x_aload0 (pc2 := 18) dX1_areSoBy_17 rfl ?_
      refine x_getR (pc2 := 21) fX1_18 sh_22 rfl dX1_areSoBy_18 rfl ?_
      refine x_iload2 (pc2 := 22) dX1_areSoBy_21 rfl ?_
      refine x_iald (pc2 := 23) sh_25 (by exact z_in (by omega)) dX1_areSoBy_22 rfl ?_
      rw [nI_clamp (by omega), r1, r4]
      refine x_fV2 (pc2 := 26) eX4_spotOf kX1_25 sh_26 rfl (Nat.le_of_ble_eq_true rfl) dX1_areSoBy_23 rfl (s_spotOf _ hc hT hx hok hb r2 r5) ?_
      refine x_aload0 (pc2 := 27) dX1_areSoBy_26 rfl ?_
      refine x_getR (pc2 := 30) fX1_15 sh_22 rfl dX1_areSoBy_27 rfl ?_
      refine x_iload2 (pc2 := 31) dX1_areSoBy_30 rfl ?_
      refine x_iald (pc2 := 32) sh_24 (by exact z_in (by omega)) dX1_areSoBy_31 rfl ?_
      rw [nI_clamp (by omega), r3]
      refine x_icmp_eq (pc2 := 35) (pc3 := 37) dX1_areSoBy_32 rfl rfl (fun h32 => ?_) (fun h32 => ?_)
      · skip
        refine x_iinc2 (pc2 := 40) dX1_areSoBy_37 rfl (z_inc1 _) rfl ?_
        refine x_goto (pc2 := 2) dX1_areSoBy_40 rfl ?_
        rw [← nI_succ]
        exact ih (k + 1) (by omega) (by rw [wRd, ht, Bool.true_and]; exact decide_eq_true h32)
      · skip
        refine x_iconst (v := 0) (pc2 := 36) dX1_areSoBy_35 rfl (by decide) ?_
        refine x_zret dX1_areSoBy_36 rfl (by first | assumption | exact z_b01 _ | exact Or.inl rfl | exact Or.inr rfl) ?_
        have := wRd_false (k := k + 1) (c := c) (to := to) (x := x) (n := n) (rt := rt) (rm := rm) (rs := rs) (by rw [wRd, decide_eq_false h32, Bool.and_false]) j
        rw [show k + 1 + j = q by omega] at this
        rw [this]
        exact ⟨rfl, rfl⟩
theorem s_areSo (d : Nat) {σ : zS} {c : zG} (hc : gWf c) (hM0 : gM σ c) {n : Nat} {to x : Nat → Nat} (hT0 : gTm σ n to x) (hx : ∀ k, x k < 16) {q : Nat} {rt rm : Nat → Nat} {rs : Nat → Int32} (hq0 : σ.1 43 34 = nI q) (hR0 : gRd σ 60 61 62 q rt rm rs) : z_Ex mX6_areSo (d + 4) [.ref 43] σ (fun rv τ => rv = some (.int (z_b (wAs c to x n rt rm rs q))) ∧ gFm σ τ) := by
  refine x_enter (by decide) (Nat.le_of_ble_eq_true rfl) ?_
  show z_At _ _ _ [.ref 43, .null] _ _ _
  have hn18 := hT0.2.1
  have hq8 := hR0.1
  refine x_aload0 (pc2 := 1) dX6_areSo_0 rfl ?_
  refine x_cV0 eX6_go kX6_205 sh_43 rfl (Nat.le_of_ble_eq_true rfl) dX6_areSo_1 ?_
  refine (s_goM d hc hM0 hT0 hx).mono ?_
  rintro rv τ ⟨rfl, hF, hJ⟩
  show z_At _ _ 4 _ [.int _] _ _
  unfold wAs
  refine x_bipush (v := -9) (pc2 := 6) dX6_areSo_4 rfl (by decide) ?_
  refine x_icmp_eq (pc2 := 9) (pc3 := 11) dX6_areSo_6 rfl rfl (fun h6 => ?_) (fun h6 => ?_)
  rotate_left
  · rw [wR_none (fun k hk => by have := wW_lt _ _ hk; omega)] at h6
    refine x_iconst (v := 0) (pc2 := 10) dX6_areSo_9 rfl (by decide) ?_
    refine x_zret dX6_areSo_10 rfl (by first | assumption | exact z_b01 _ | exact Or.inl rfl | exact Or.inr rfl) ?_
    cases e : wW c to x n with
    | none => exact absurd e h6
    | some k => exact ⟨rfl, hF⟩
  rw [wR_none (fun k hk => by have := wW_lt _ _ hk; omega)] at h6
  have hJ := hJ h6
  rw [h6, Option.isNone_none, Bool.true_and]
  have hok := wW_ok _ h6
  have hT := hT0.of hF
  have hq : τ.1 43 34 = nI q := by rw [hF.2.1 34 (by decide) (by decide)]; exact hq0
  have hR : gRd τ 60 61 62 q rt rm rs := ⟨hR0.1, fun k hk => by
    rw [hF.1 60 (by decide) (by decide) (by decide), hF.1 61 (by decide) (by decide) (by decide), hF.1 62 (by decide) (by decide) (by decide)]
    exact hR0.2 k hk⟩
  refine x_iconst (v := 0) (pc2 := 12) dX6_areSo_11 rfl (by decide) ?_
  refine x_istore1 (pc2 := 13) dX6_areSo_12 rfl rfl ?_
  suffices h : ∀ j k, k + j = q → wRd c to x n rt rm rs k = true → z_At mX6_areSo (d + 4) 13 [.ref 43, .int (nI k)] [] τ (fun rv σ' => rv = some (.int (z_b (wRd c to x n rt rm rs q))) ∧ gFm σ σ') from h q 0 (by omega) rfl
  intro j
  induction j with
  | zero =>
    intro k hk ht
    obtain rfl : k = q := by omega
    refine x_iload1 (pc2 := 14) dX6_areSo_13 rfl ?_
    refine x_aload0 (pc2 := 15) dX6_areSo_14 rfl ?_
    refine x_getI (pc2 := 18) fX6_123 sh_43 rfl dX6_areSo_15 rfl ?_
    refine x_icmp_ge (pc2 := 21) (pc3 := 54) dX6_areSo_18 rfl rfl (fun h18 => ?_) (fun h18 => ?_)
    · skip
      refine x_iconst (v := 1) (pc2 := 55) dX6_areSo_54 rfl (by decide) ?_
      refine x_zret dX6_areSo_55 rfl (by first | assumption | exact z_b01 _ | exact Or.inl rfl | exact Or.inr rfl) ?_
      rw [ht]
      exact ⟨rfl, hF⟩
    · exact absurd (by rw [hq]; exact Int32.le_refl _) h18
  | succ j ih =>
    intro k hk ht
    obtain ⟨r1, r2, r3, r4, r5⟩ := hR.2 k (by omega)
    refine x_iload1 (pc2 := 14) dX6_areSo_13 rfl ?_
    refine x_aload0 (pc2 := 15) dX6_areSo_14 rfl ?_
    refine x_getI (pc2 := 18) fX6_123 sh_43 rfl dX6_areSo_15 rfl ?_
    refine x_icmp_ge (pc2 := 21) (pc3 := 54) dX6_areSo_18 rfl rfl (fun h18 => ?_) (fun h18 => ?_)
    · rw [hq] at h18
      exact absurd h18 (nI_ge (by omega) (by omega))
    · skip
      refine x_aload0 (pc2 := 22) dX6_areSo_21 rfl ?_
      refine x_aload0 (pc2 := 23) dX6_areSo_22 rfl ?_
      refine x_getR (pc2 := 26) fX6_66 sh_43 rfl dX6_areSo_23 rfl ?_
      refine x_iload1 (pc2 := 27) dX6_areSo_26 rfl ?_
      refine x_iald (pc2 := 28) sh_60 (by exact z_in (by omega)) dX6_areSo_27 rfl ?_
      refine x_aload0 (pc2 := 29) dX6_areSo_28 rfl ?_
      refine x_getR (pc2 := 32) fX6_72 sh_43 rfl dX6_areSo_29 rfl ?_
      refine x_iload1 (pc2 := 33) dX6_areSo_32 rfl ?_
      refine x_iald (pc2 := 34) sh_62 (by exact z_in (by omega)) dX6_areSo_33 rfl ?_
      rw [nI_clamp (by omega), r1, r4]
      refine x_fV2 (pc2 := 37) eX6_spotAt kX6_208 sh_43 rfl (Nat.le_of_ble_eq_true rfl) dX6_areSo_34 rfl (s_spotAt _ hc hT hx hok hJ.2.2 r2 r5) ?_
      refine x_aload0 (pc2 := 38) dX6_areSo_37 rfl ?_
      refine x_getR (pc2 := 41) fX6_69 sh_43 rfl dX6_areSo_38 rfl ?_
      refine x_iload1 (pc2 := 42) dX6_areSo_41 rfl ?_
      refine x_iald (pc2 := 43) sh_61 (by exact z_in (by omega)) dX6_areSo_42 rfl ?_
      rw [nI_clamp (by omega), r3]
      refine x_icmp_eq (pc2 := 46) (pc3 := 48) dX6_areSo_43 rfl rfl (fun h43 => ?_) (fun h43 => ?_)
      · skip
        refine x_iinc1 (pc2 := 51) dX6_areSo_48 rfl (z_inc1 _) rfl ?_
        refine x_goto (pc2 := 13) dX6_areSo_51 rfl ?_
        rw [← nI_succ]
        exact ih (k + 1) (by omega) (by rw [wRd, ht, Bool.true_and]; exact decide_eq_true h43)
      · skip
        refine x_iconst (v := 0) (pc2 := 47) dX6_areSo_46 rfl (by decide) ?_
        refine x_zret dX6_areSo_47 rfl (by first | assumption | exact z_b01 _ | exact Or.inl rfl | exact Or.inr rfl) ?_
        have := wRd_false (k := k + 1) (c := c) (to := to) (x := x) (n := n) (rt := rt) (rm := rm) (rs := rs) (by rw [wRd, decide_eq_false h43, Bool.and_false]) j
        rw [show k + 1 + j = q by omega] at this
        rw [this]
        exact ⟨rfl, hF⟩
