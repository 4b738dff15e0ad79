/-! the class: makePlan, soonest, trip, fewest -/
/-- a plan that is right -/
def gPl (c : zG) (mins : Int32) (n : Nat) (row : Nat → Int32) : Prop := (∀ T, pD (nG c) 1000000 T → mins = eM (T (nE c))) ∧ n ≤ 1024 ∧ (∀ T, pD (nG c) 1000000 T → T (nE c) = 1000000 → n = 0) ∧ ∀ T L, pD (nG c) 1000000 T → T (nE c) < 1000000 → pL (nG c) T (nE c) L → (L 0 = 1000000 → n = 0) ∧ (L 0 < 1000000 → n = L 0 ∧ ∀ k, k < n → ∀ s0 mv s1, pQ (nG c) T L k s0 → pNx (nG c) T L s0 mv s1 → row k = nI (nV s0 mv * 16 + mv % 16))
def gCh (σ : zS) (c : zG) : Prop := σ.1 0 9 = 0 ∨ (σ.1 0 9 = 1 ∧ ∃ n, σ.1 0 8 = nI n ∧ gPl c (σ.1 0 7) n (σ.1 42))
def gCf (σ : zS) (c : zG) : Prop := σ.1 0 11 = 0 ∨ (σ.1 0 11 = 1 ∧ ∀ T, pD (nG1 c) 1000000 T → σ.1 0 10 = eM (T (nE c)))
/-- what a plan may write -/
def gFpl (σ τ : zS) : Prop := (∀ q, q ≠ 0 → q < 31 ∨ 42 < q → τ.1 q = σ.1 q) ∧ (∀ j, j ≠ 7 → j ≠ 8 → j ≠ 9 → j ≠ 10 → j ≠ 11 → τ.1 0 j = σ.1 0 j) ∧ τ.2 = σ.2
theorem gFpl.rf {σ : zS} : gFpl σ σ := ⟨fun _ _ _ => rfl, fun _ _ _ _ _ _ => rfl, rfl⟩
theorem gFpl.st {σ τ : zS} (h : gFpl σ τ) {j : Nat} (hj : 7 ≤ j ∧ j ≤ 11) (v : Int32) : gFpl σ (z_st τ 0 j v) := by
  refine ⟨fun q h0 hq => by rw [z_st_row _ _ _ h0]; exact h.1 q h0 hq, fun k a b c d e => ?_, h.2.2⟩
  rw [z_st_fld _ _ _ (by omega)]
  exact h.2.1 k a b c d e
theorem gFpl.s {σ τ υ : zS} (h : gFpl σ τ) (hs : sF τ υ) : gFpl σ υ := by
  refine ⟨fun q h0 hq => by rw [hs.1 q (by omega)]; exact h.1 q h0 hq, fun k a b c d e => ?_, by rw [hs.2]; exact h.2.2⟩
  rw [hs.1 0 (by omega)]
  exact h.2.1 k a b c d e
theorem sR_least {c : zG} {b : Bool} {v : Int32} {τ : zS} (hc : gWf c) (h : sR c b (some (.int v)) τ) : (∀ T, pD (nGb c b) 1000000 T → v = eM (T (nE c))) := by
  intro T' hT'
  have hg := nGb_gr hc b
  have hE := nE_lt hc
  obtain ⟨T, h⟩ := h
  rcases h with ⟨h1, h2, h3⟩ | ⟨now, O, h1, h2, h3, h4, -, -⟩
  · have e1 : v = -9 := by simpa using h1
    rw [e1, pD_full hg h2 hT' hE, h3]
    rfl
  · have e1 : v = nI now := by simpa using h1
    have e2 := pD_eq hg h4 hT' hE (by omega) (by omega) (by omega)
    rw [e1, e2, h3, eM_nI (by omega)]
theorem s_makePlan (d : Nat) {σ : zS} {c : zG} (hc : gWf c) (hC : gC 1 σ c) (hch : gCh σ c) : z_Ex mX5_makePlan (d + 6) [.ref 0] σ (fun rv τ => rv = none ∧ gFpl σ τ ∧ (τ.1 0 10 = σ.1 0 10 ∧ τ.1 0 11 = σ.1 0 11) ∧ τ.1 0 9 = 1 ∧ ∃ n, τ.1 0 8 = nI n ∧ gPl c (τ.1 0 7) n (τ.1 42)) := by
  have hg := nG_gr hc
  have hE := nE_lt hc
  have hm4 := hC.1.2.2
  refine x_enter (by decide) (Nat.le_of_ble_eq_true rfl) ?_
  show z_At _ _ _ [.ref 0] _ _ _
  refine x_aload0 (pc2 := 1) dX5_makePlan_0 rfl ?_
  refine x_getI (pc2 := 4) fX5_198 sh_0 rfl dX5_makePlan_1 rfl ?_
  rcases hch with h9 | ⟨h9, n, h8, hpl⟩
  rotate_left
  · rw [h9]
    refine x_if_eq (pc2 := 7) (pc3 := 8) dX5_makePlan_4 rfl rfl (fun h4 => ?_) (fun h4 => ?_)
    · exact absurd h4 (by decide)
    refine x_vret dX5_makePlan_7 rfl ?_
    exact ⟨rfl, gFpl.rf, ⟨rfl, rfl⟩, h9, n, h8, hpl⟩
  rw [h9]
  refine x_if_eq (pc2 := 7) (pc3 := 8) dX5_makePlan_4 rfl rfl (fun h4 => ?_) (fun h4 => ?_)
  rotate_left
  · exact absurd rfl h4
  refine x_aload0 (pc2 := 9) dX5_makePlan_8 rfl ?_
  refine x_aload0 (pc2 := 10) dX5_makePlan_9 rfl ?_
  refine x_getR (pc2 := 13) fX5_44 sh_0 rfl dX5_makePlan_10 rfl ?_
  refine x_aload0 (pc2 := 14) dX5_makePlan_13 rfl ?_
  refine x_getR (pc2 := 17) fX5_12 sh_0 rfl dX5_makePlan_14 rfl ?_
  refine x_iconst (v := 0) (pc2 := 18) dX5_makePlan_17 rfl (by decide) ?_
  refine x_cV2 eX2_least kX5_187 sh_31 rfl (Nat.le_of_ble_eq_true rfl) dX5_makePlan_18 ?_
  refine (s_least d z_P1 (b := false) hc hC).mono ?_
  rintro rv τ ⟨hF, hR⟩
  obtain ⟨v, rfl⟩ : ∃ v, rv = some (.int v) := by
    obtain ⟨T, h⟩ := hR
    rcases h with h | ⟨now, O, h, -⟩
    · exact ⟨_, h.1⟩
    · exact ⟨_, h⟩
  show z_At _ _ 21 _ [.int v, .ref 0] _ _
  have hmin := sR_least hc hR
  refine x_putI (pc2 := 24) pX5_177 sh_0 rfl dX5_makePlan_21 rfl ?_
  refine x_aload0 (pc2 := 25) dX5_makePlan_24 rfl ?_
  refine x_aload0 (pc2 := 26) dX5_makePlan_25 rfl ?_
  refine x_getI (pc2 := 29) fX5_177 sh_0 rfl dX5_makePlan_26 rfl ?_
  refine x_bipush (v := -9) (pc2 := 31) dX5_makePlan_29 rfl (by decide) ?_
  rw [z_st_at]
  have hF7 : gFpl σ (z_st τ 0 7 v) := (gFpl.rf.s hF).st (by omega) v
  have hfin : ∀ (n : Nat) (τ2 : zS), gFpl σ τ2 → (τ2.1 0 10 = σ.1 0 10 ∧ τ2.1 0 11 = σ.1 0 11) → τ2.1 0 7 = v → gPl c v n (τ2.1 42) → z_At mX5_makePlan (d + 6) 49 [.ref 0] [.int (nI n), .ref 0] τ2 (fun rv τ => rv = none ∧ gFpl σ τ ∧ (τ.1 0 10 = σ.1 0 10 ∧ τ.1 0 11 = σ.1 0 11) ∧ τ.1 0 9 = 1 ∧ ∃ n, τ.1 0 8 = nI n ∧ gPl c (τ.1 0 7) n (τ.1 42)) := by
    intro n τ2 f1 f2 f3 f4
    refine x_putI (pc2 := 52) pX5_180 sh_0 rfl dX5_makePlan_49 rfl ?_
    refine x_aload0 (pc2 := 53) dX5_makePlan_52 rfl ?_
    refine x_iconst (v := 1) (pc2 := 54) dX5_makePlan_53 rfl (by decide) ?_
    refine x_putZ (pc2 := 57) pX5_198 sh_0 rfl (by first | assumption | exact z_b01 _ | exact Or.inl rfl | exact Or.inr rfl) dX5_makePlan_54 rfl ?_
    refine x_vret dX5_makePlan_57 rfl ?_
    refine ⟨rfl, (f1.st (by omega) _).st (by omega) _, ?_, z_st_at _ _ _ _, n, ?_, ?_⟩
    · rw [z_st_fld _ _ _ (by decide), z_st_fld _ _ _ (by decide), z_st_fld _ _ _ (by decide), z_st_fld _ _ _ (by decide)]
      exact f2
    · rw [z_st_fld _ _ _ (by decide), z_st_at]
    · rw [z_st_fld _ _ _ (by decide), z_st_fld _ _ _ (by decide), z_st_row _ _ _ (by decide), z_st_row _ _ _ (by decide), f3]
      exact f4
  have h1011 : (z_st τ 0 7 v).1 0 10 = σ.1 0 10 ∧ (z_st τ 0 7 v).1 0 11 = σ.1 0 11 := by
    rw [z_st_fld _ _ _ (by decide), z_st_fld _ _ _ (by decide), hF.1 0 (by omega)]
    exact ⟨rfl, rfl⟩
  obtain ⟨T, hR⟩ := hR
  rcases hR with ⟨h1, h2, h3⟩ | ⟨now, O, h1, h2, h3, h5, h6, h7⟩
  · have e1 : v = -9 := by simpa using h1
    subst e1
    refine x_icmp_ne (pc2 := 34) (pc3 := 38) dX5_makePlan_31 rfl rfl (fun h31 => ?_) (fun h31 => ?_)
    · exact absurd rfl h31
    refine x_iconst (v := 0) (pc2 := 35) dX5_makePlan_34 rfl (by decide) ?_
    refine x_goto (pc2 := 49) dX5_makePlan_35 rfl ?_
    refine hfin 0 _ hF7 h1011 (z_st_at _ _ _ _) ⟨hmin, by omega, fun _ _ _ => rfl, fun T' L hT' hlt => ?_⟩
    have := pD_full hg h2 hT' hE
    omega
  · have e1 : v = nI now := by simpa using h1
    subst e1
    refine x_icmp_ne (pc2 := 34) (pc3 := 38) dX5_makePlan_31 rfl rfl (fun h31 => ?_) (fun h31 => ?_)
    rotate_left
    · exact absurd h31 (nI_n9 (by omega))
    refine x_aload0 (pc2 := 39) dX5_makePlan_38 rfl ?_
    refine x_getR (pc2 := 42) fX5_44 sh_0 rfl dX5_makePlan_39 rfl ?_
    refine x_aload0 (pc2 := 43) dX5_makePlan_42 rfl ?_
    refine x_getR (pc2 := 46) fX5_48 sh_0 rfl dX5_makePlan_43 rfl ?_
    have hL7 : sL c false (z_st τ 0 7 (nI now)) T now O [] := by
      obtain ⟨l1, l2, l3, l4⟩ := h6
      exact ⟨l1.of (fun j _ => by rw [z_st_row _ _ _ (by decide)]) (fun q _ _ => z_st_row _ _ _ (by omega)), l2, by rw [z_st_row _ _ _ (by decide), z_st_row _ _ _ (by decide)]; exact l3, l4⟩
    have hT : ∀ s, s < 1024 → T s ≤ 1000000 := fun s hs => by have := h5.2.2.2 s hs; omega
    refine x_cV1 eX2_layRow kX5_201 sh_31 rfl (Nat.le_of_ble_eq_true rfl) dX5_makePlan_46 ?_
    refine (s_layRow d hc hm4 h2 hL7 (fun s hs => by rw [z_st_row _ _ _ (by decide)]; exact h7 s hs) hT h3).mono ?_
    rintro rv τ2 ⟨g1, g2, n, L, rfl, g3, hL, g4, g5⟩
    show z_At _ _ 49 _ [.int (nI n), .ref 0] _ _
    have hL : pL (nG c) T (nE c) L := hL
    have h5 : pD (nG c) now T := h5
    have hF2 : gFpl σ τ2 := by
      refine ⟨fun q h0 hq => by rw [g1 q (by omega) (by omega)]; exact hF7.1 q h0 hq, fun k a b c d e => ?_, by rw [g2]; exact hF7.2.2⟩
      rw [g1 0 (by decide) (by decide)]
      exact hF7.2.1 k a b c d e
    refine hfin n τ2 hF2 (by rw [g1 0 (by decide) (by decide)]; exact h1011) (by rw [g1 0 (by decide) (by decide), z_st_at]) ⟨hmin, g3, fun T' hT' hFar => ?_, fun T' L' hT' hlt hL' => ?_⟩
    · have := pD_eq hg h5 hT' hE (by omega) (by omega) (by omega)
      omega
    · have e2 := pD_eq hg h5 hT' hE (by omega) (by omega) (by omega)
      have hLL := pL_eq (pL_tr hg h5 hT' hE (by omega) (by omega) (by omega) hL) hL' (s := 0) (by decide)
      rw [← hLL]
      refine ⟨g4, fun hlt0 => ⟨(g5 hlt0).1, fun k hk s0 mv s1 hQ hN => ?_⟩⟩
      have hQ' := pQ_tr hg hT' h5 hE (by omega) (by omega) (by omega) hL' hL (by omega) k s0 hQ
      have hl := pQ_L k s0 hQ
      have hN' := pNx_tr hg hT' h5 hE (by omega) (by omega) (by omega) hL' hL (pQ_lt hg k s0 hQ) (by omega) hN
      exact (g5 hlt0).2 k hk s0 mv s1 hQ' hN'
theorem gC1_fp {σ τ : zS} {c : zG} (h : gC 1 σ c) (hf : gFpl σ τ) : gC 1 τ c := by
  unfold gC
  rw [hf.1 1 (by decide) (by omega), hf.1 (1 + 1) (by decide) (by omega), hf.1 (1 + 2) (by decide) (by omega), hf.1 (1 + 3) (by decide) (by omega), hf.1 (1 + 4) (by decide) (by omega), hf.1 (1 + 5) (by decide) (by omega)]
  exact h
theorem z_pos_nat {N : Nat} (h : N < 2 ^ 31) : z_pos (nI N) = decide (1 ≤ N) := by
  unfold z_pos
  rcases Nat.eq_zero_or_pos N with e | e
  · rw [e]; rfl
  · rw [decide_eq_false (nI_nle e h), decide_eq_true (show 1 ≤ N from e)]; rfl
theorem s_soonestC (d : Nat) {σ : zS} {c : zG} (hN : σ.1 1 2 = nI (cN c)) (hN3 : cN c ≤ 3) (hcC : 1 ≤ cN c → gWf c ∧ gC 1 σ c ∧ gCh σ c) : z_Ex mX5_soonest (d + 7) [.ref 0] σ (fun rv τ => (cN c = 0 ∧ rv = some (.int (-3)) ∧ τ = σ) ∨ (1 ≤ cN c ∧ gFpl σ τ ∧ (τ.1 0 10 = σ.1 0 10 ∧ τ.1 0 11 = σ.1 0 11) ∧ gCh τ c ∧ ∃ v, rv = some (.int v) ∧ ∀ T, pD (nG c) 1000000 T → v = eM (T (nE c)))) := by
  refine x_enter (by decide) (Nat.le_of_ble_eq_true rfl) ?_
  show z_At _ _ _ [.ref 0] _ _ _
  refine x_aload0 (pc2 := 1) dX5_soonest_0 rfl ?_
  refine x_getR (pc2 := 4) fX5_12 sh_0 rfl dX5_soonest_1 rfl ?_
  refine x_fV0 (pc2 := 7) eX0_isThere kX5_114 sh_1 rfl (Nat.le_of_ble_eq_true rfl) dX5_soonest_4 rfl (s_isThere _ _ z_P1) ?_
  rw [hN, z_pos_nat (by omega)]
  refine x_if_ne (pc2 := 10) (pc3 := 13) dX5_soonest_7 rfl rfl (fun h7 => ?_) (fun h7 => ?_)
  rotate_left
  · rw [z_b0] at h7
    have := of_decide_eq_false h7
    refine x_bipush (v := -3) (pc2 := 12) dX5_soonest_10 rfl (by decide) ?_
    refine x_iret dX5_soonest_12 rfl ?_
    exact Or.inl ⟨by omega, rfl, rfl⟩
  rw [z_bn0] at h7
  have h1 := of_decide_eq_true h7
  obtain ⟨hc, hC, hch⟩ := hcC h1
  refine x_aload0 (pc2 := 14) dX5_soonest_13 rfl ?_
  refine x_cV0 eX5_makePlan kX5_174 sh_0 rfl (Nat.le_of_ble_eq_true rfl) dX5_soonest_14 ?_
  refine (s_makePlan d hc hC hch).mono ?_
  rintro rv τ ⟨rfl, hF, h1011, h9, n, h8, hpl⟩
  show z_At _ _ 17 _ [] _ _
  refine x_aload0 (pc2 := 18) dX5_soonest_17 rfl ?_
  refine x_getI (pc2 := 21) fX5_177 sh_0 rfl dX5_soonest_18 rfl ?_
  refine x_iret dX5_soonest_21 rfl ?_
  exact Or.inr ⟨h1, hF, h1011, Or.inr ⟨h9, n, h8, hpl⟩, _, rfl, hpl.1⟩
theorem s_fewestC (d : Nat) {σ : zS} {c : zG} (hN : σ.1 1 2 = nI (cN c)) (hN3 : cN c ≤ 3) (hcC : 1 ≤ cN c → gWf c ∧ gC 1 σ c ∧ gCf σ c) : z_Ex mX5_fewest (d + 6) [.ref 0] σ (fun rv τ => (cN c = 0 ∧ rv = some (.int (-3)) ∧ τ = σ) ∨ (1 ≤ cN c ∧ gFpl σ τ ∧ (τ.1 0 7 = σ.1 0 7 ∧ τ.1 0 8 = σ.1 0 8 ∧ τ.1 0 9 = σ.1 0 9 ∧ τ.1 42 = σ.1 42) ∧ gCf τ c ∧ ∃ v, rv = some (.int v) ∧ ∀ T, pD (nG1 c) 1000000 T → v = eM (T (nE c)))) := by
  refine x_enter (by decide) (Nat.le_of_ble_eq_true rfl) ?_
  show z_At _ _ _ [.ref 0] _ _ _
  refine x_aload0 (pc2 := 1) dX5_fewest_0 rfl ?_
  refine x_getR (pc2 := 4) fX5_12 sh_0 rfl dX5_fewest_1 rfl ?_
  refine x_fV0 (pc2 := 7) eX0_isThere kX5_114 sh_1 rfl (Nat.le_of_ble_eq_true rfl) dX5_fewest_4 rfl (s_isThere _ _ z_P1) ?_
  rw [hN, z_pos_nat (by omega)]
  refine x_if_ne (pc2 := 10) (pc3 := 13) dX5_fewest_7 rfl rfl (fun h7 => ?_) (fun h7 => ?_)
  rotate_left
  · rw [z_b0] at h7
    have := of_decide_eq_false h7
    refine x_bipush (v := -3) (pc2 := 12) dX5_fewest_10 rfl (by decide) ?_
    refine x_iret dX5_fewest_12 rfl ?_
    exact Or.inl ⟨by omega, rfl, rfl⟩
  rw [z_bn0] at h7
  have h1 := of_decide_eq_true h7
  obtain ⟨hc, hC, hch⟩ := hcC h1
  refine x_aload0 (pc2 := 14) dX5_fewest_13 rfl ?_
  refine x_getI (pc2 := 17) fX5_183 sh_0 rfl dX5_fewest_14 rfl ?_
  rcases hch with h11 | ⟨h11, hpl⟩
  rotate_left
  · rw [h11]
    refine x_if_ne (pc2 := 20) (pc3 := 41) dX5_fewest_17 rfl rfl (fun h17 => ?_) (fun h17 => ?_)
    rotate_left
    · exact absurd h17 (by decide)
    refine x_aload0 (pc2 := 42) dX5_fewest_41 rfl ?_
    refine x_getI (pc2 := 45) fX5_191 sh_0 rfl dX5_fewest_42 rfl ?_
    refine x_iret dX5_fewest_45 rfl ?_
    exact Or.inr ⟨h1, gFpl.rf, ⟨rfl, rfl, rfl, rfl⟩, Or.inr ⟨h11, hpl⟩, _, rfl, hpl⟩
  rw [h11]
  refine x_if_ne (pc2 := 20) (pc3 := 41) dX5_fewest_17 rfl rfl (fun h17 => ?_) (fun h17 => ?_)
  · exact absurd rfl h17
  refine x_aload0 (pc2 := 21) dX5_fewest_20 rfl ?_
  refine x_aload0 (pc2 := 22) dX5_fewest_21 rfl ?_
  refine x_getR (pc2 := 25) fX5_44 sh_0 rfl dX5_fewest_22 rfl ?_
  refine x_aload0 (pc2 := 26) dX5_fewest_25 rfl ?_
  refine x_getR (pc2 := 29) fX5_12 sh_0 rfl dX5_fewest_26 rfl ?_
  refine x_iconst (v := 1) (pc2 := 30) dX5_fewest_29 rfl (by decide) ?_
  refine x_cV2 eX2_least kX5_187 sh_31 rfl (Nat.le_of_ble_eq_true rfl) dX5_fewest_30 ?_
  refine (s_least d z_P1 (b := true) hc hC).mono ?_
  rintro rv τ ⟨hF, hR⟩
  obtain ⟨v, rfl⟩ : ∃ v, rv = some (.int v) := by
    obtain ⟨T, h⟩ := hR
    rcases h with h | ⟨now, O, h, -⟩
    · exact ⟨_, h.1⟩
    · exact ⟨_, h⟩
  show z_At _ _ 33 _ [.int v, .ref 0] _ _
  have hmin := sR_least hc hR
  refine x_putI (pc2 := 36) pX5_191 sh_0 rfl dX5_fewest_33 rfl ?_
  refine x_aload0 (pc2 := 37) dX5_fewest_36 rfl ?_
  refine x_iconst (v := 1) (pc2 := 38) dX5_fewest_37 rfl (by decide) ?_
  refine x_putZ (pc2 := 41) pX5_183 sh_0 rfl (by first | assumption | exact z_b01 _ | exact Or.inl rfl | exact Or.inr rfl) dX5_fewest_38 rfl ?_
  refine x_aload0 (pc2 := 42) dX5_fewest_41 rfl ?_
  refine x_getI (pc2 := 45) fX5_191 sh_0 rfl dX5_fewest_42 rfl ?_
  rw [z_st_fld _ _ _ (by decide), z_st_at]
  refine x_iret dX5_fewest_45 rfl ?_
  refine Or.inr ⟨h1, ((gFpl.rf.s hF).st (by omega) v).st (by omega) _, ?_, Or.inr ⟨z_st_at _ _ _ _, ?_⟩, _, rfl, hmin⟩
  · rw [z_st_fld _ _ _ (by decide), z_st_fld _ _ _ (by decide), z_st_fld _ _ _ (by decide), z_st_fld _ _ _ (by decide), z_st_fld _ _ _ (by decide), z_st_fld _ _ _ (by decide), z_st_row _ _ _ (by decide), z_st_row _ _ _ (by decide), hF.1 0 (by omega), hF.1 42 (by omega)]
    exact ⟨rfl, rfl, rfl, rfl⟩
  · intro T hT
    rw [z_st_fld _ _ _ (by decide), z_st_at]
    exact hmin T hT
