/-! the model: isNext, findNext, trip -/
def pNb (g : zX) (T L : Nat → Nat) (s mv : Nat) : Bool := pTb g T s mv && (match g.1 s mv with
  | none => false
  | some s' => decide (L s' + 1 = L s))
theorem pNb_of {g : zX} {T L : Nat → Nat} {s mv s' : Nat} (h : pTi g T s mv s') : pNb g T L s mv = decide (L s' + 1 = L s) := by
  unfold pNb
  rw [pTb_of h.2.1 h.1, h.2.1, decide_eq_true h.2.2]
  rfl
theorem pNb_no {g : zX} {T L : Nat → Nat} {s mv : Nat} (h : pTb g T s mv = false) : pNb g T L s mv = false := by
  unfold pNb
  rw [h]
  rfl
theorem pNb_true {g : zX} {T L : Nat → Nat} {s mv : Nat} (h : pNb g T L s mv = true) : ∃ s', pTi g T s mv s' ∧ L s' + 1 = L s := by
  cases e : pTb g T s mv with
  | false => rw [pNb_no e] at h; cases h
  | true =>
    obtain ⟨s', ht⟩ := pTb_true e
    rw [pNb_of ht] at h
    exact ⟨s', ht, of_decide_eq_true h⟩
theorem pNb_false {g : zX} {T L : Nat → Nat} {s mv : Nat} (h : pNb g T L s mv = false) (s' : Nat) (ht : pTi g T s mv s') : L s' + 1 ≠ L s := by
  rw [pNb_of ht] at h
  exact of_decide_eq_false h
theorem nI_m1 {a : Nat} (h : 1 ≤ a) : nI a - 1 = nI (a - 1) := (Int32.ofNat_sub (a := a) (b := 1) h).symm
theorem s_isNext (d : Nat) {τ : zS} {c : zG} {T L : Nat → Nat} (hc : gWf c) (hM : gM τ c) (h58 : ∀ s, s < 1024 → τ.1 58 s = eM (T s)) (h59 : ∀ s, s < 1024 → τ.1 59 s = eM (L s)) (hD : pD (nG c) 1000000 T) (hLe : ∀ s, s < 1024 → L s ≤ 1000000) {s mv : Nat} (hs : s < 1024) (h1 : 1 ≤ L s) (hf : L s < 1000000) : z_Fn mX6_isNext (d + 4) [.ref 43, .int (nI s), .int (nI4 s mv), .int (nI (mv % 16))] τ (.int (z_b (pNb (nG c) T L s mv))) τ := by
  have hx : mv % 16 < 16 := Nat.mod_lt _ (by decide)
  refine x_enter (by decide) (Nat.le_of_ble_eq_true rfl) ?_
  show z_At _ _ _ [.ref 43, .int (nI s), .int (nI4 s mv), .int (nI (mv % 16))] _ _ _
  refine x_aload0 (pc2 := 1) dX6_isNext_0 rfl ?_
  refine x_iload1 (pc2 := 2) dX6_isNext_1 rfl ?_
  refine x_iload2 (pc2 := 3) dX6_isNext_2 rfl ?_
  refine x_iload3 (pc2 := 4) dX6_isNext_3 rfl ?_
  refine x_fV3 (pc2 := 7) eX6_isTight kX6_227 sh_43 rfl (Nat.le_of_ble_eq_true rfl) dX6_isNext_4 rfl (s_isTight d hc hM h58 hD hs) ?_
  refine x_if_eq (pc2 := 10) (pc3 := 36) dX6_isNext_7 rfl rfl (fun h7 => ?_) (fun h7 => ?_)
  · rw [z_b0] at h7
    refine x_iconst (v := 0) (pc2 := 37) dX6_isNext_36 rfl (by decide) ?_
    refine x_zret dX6_isNext_37 rfl (by first | assumption | exact z_b01 _ | exact Or.inl rfl | exact Or.inr rfl) ?_
    rw [pNb_no h7]
    exact ⟨rfl, rfl⟩
  rw [z_bn0] at h7
  obtain ⟨s', ht⟩ := pTb_true h7
  have hlt := nX_lt hc hs ht.2.1
  obtain ⟨hst, hto⟩ := nSt hc hs ht.2.1
  have hgo := (nX_some ht.2.1).2.2
  have hL' := hLe s' hlt.1
  rw [pNb_of ht]
  refine x_aload0 (pc2 := 11) dX6_isNext_10 rfl ?_
  refine x_getR (pc2 := 14) fX6_63 sh_43 rfl dX6_isNext_11 rfl ?_
  refine x_iload1 (pc2 := 15) dX6_isNext_14 rfl ?_
  refine x_iload2 (pc2 := 16) dX6_isNext_15 rfl ?_
  refine x_iload3 (pc2 := 17) dX6_isNext_16 rfl ?_
  refine x_fS3 (pc2 := 20) eX6_gone kX6_196 (Nat.le_of_ble_eq_true rfl) dX6_isNext_17 rfl (s_gone _ _ _ _ _) ?_
  rw [hto, z_gn_nat hs hlt.2.2.1 hx 4 (by decide), ← hgo]
  refine x_iald (pc2 := 21) sh_59 (by exact z_in (by omega)) dX6_isNext_20 rfl ?_
  refine x_aload0 (pc2 := 22) dX6_isNext_21 rfl ?_
  refine x_getR (pc2 := 25) fX6_63 sh_43 rfl dX6_isNext_22 rfl ?_
  refine x_iload1 (pc2 := 26) dX6_isNext_25 rfl ?_
  refine x_iald (pc2 := 27) sh_59 (by exact z_in (by omega)) dX6_isNext_26 rfl ?_
  refine x_iconst (v := 1) (pc2 := 28) dX6_isNext_27 rfl (by decide) ?_
  rw [nI_clamp (by omega), nI_clamp (by omega), h59 s hs, h59 s' hlt.1, eM_nI hf]
  refine x_isub (pc2 := 29) dX6_isNext_28 rfl ?_
  rw [nI_m1 h1, ← eM_nI (show L s - 1 < 1000000 by omega)]
  refine x_icmp_ne (pc2 := 32) (pc3 := 36) dX6_isNext_29 rfl rfl (fun h29 => ?_) (fun h29 => ?_)
  · skip
    refine x_iconst (v := 0) (pc2 := 37) dX6_isNext_36 rfl (by decide) ?_
    refine x_zret dX6_isNext_37 rfl (by first | assumption | exact z_b01 _ | exact Or.inl rfl | exact Or.inr rfl) ?_
    rw [decide_eq_false (fun q => h29 (by rw [show L s' = L s - 1 by omega]))]
    exact ⟨rfl, rfl⟩
  · skip
    refine x_iconst (v := 1) (pc2 := 33) dX6_isNext_32 rfl (by decide) ?_
    refine x_goto (pc2 := 37) dX6_isNext_33 rfl ?_
    refine x_zret dX6_isNext_37 rfl (by first | assumption | exact z_b01 _ | exact Or.inl rfl | exact Or.inr rfl) ?_
    have := eM_inj (by omega) (by omega) h29
    rw [decide_eq_true (show L s' + 1 = L s by omega)]
    exact ⟨rfl, rfl⟩
theorem s_findNext (d : Nat) {τ : zS} {c : zG} {T L : Nat → Nat} (hc : gWf c) (hM : gM τ c) (h58 : ∀ s, s < 1024 → τ.1 58 s = eM (T s)) (h59 : ∀ s, s < 1024 → τ.1 59 s = eM (L s)) (hD : pD (nG c) 1000000 T) (hL : pL (nG c) T (nE c) L) {s : Nat} (hs : s < 1024) (h1 : 1 ≤ L s) (hf : L s < 1000000) : z_Ex mX6_findNext (d + 5) [.ref 43, .int (nI s)] τ (fun rv τ' => rv = none ∧ ∃ mv s', pNx (nG c) T L s mv s' ∧ τ' = z_st (z_st τ 43 32 (nI (nV s mv))) 43 33 (nI (mv % 16))) := by
  have hK := hc.1
  have h2K : 2 ^ cK c ≤ 16 := (Nat.pow_le_pow_right (by decide) hK : 2 ^ cK c ≤ 2 ^ 4)
  have h2K1 : 1 ≤ 2 ^ cK c := Nat.one_le_two_pow
  have hLe : ∀ s, s < 1024 → L s ≤ 1000000 := fun s hs => (hL s hs).2.2
  have inner : ∀ (bs : Nat) (by_ : Int32), (bs = 0 ∧ by_ = -1 ∨ bs = 16 ∧ by_ = 1) → ((∀ mv' s'', mv' < bs + 16 → pTi (nG c) T s mv' s'' → L s'' + 1 ≠ L s) → ∀ o, z_At mX6_findNext (d + 5) 52 [.ref 43, .int (nI s), .int by_, o] [] τ (fun rv τ' => rv = none ∧ ∃ mv s', pNx (nG c) T L s mv s' ∧ τ' = z_st (z_st τ 43 32 (nI (nV s mv))) 43 33 (nI (mv % 16)))) → ∀ j x, x + j = 2 ^ cK c → (∀ mv' s'', mv' < bs + x → pTi (nG c) T s mv' s'' → L s'' + 1 ≠ L s) → z_At mX6_findNext (d + 5) 9 [.ref 43, .int (nI s), .int by_, .int (nI x)] [] τ (fun rv τ' => rv = none ∧ ∃ mv s', pNx (nG c) T L s mv s' ∧ τ' = z_st (z_st τ 43 32 (nI (nV s mv))) 43 33 (nI (mv % 16))) := by
    intro bs by_ hb hexit j
    induction j with
    | zero =>
      intro x hx hno
      refine x_iload3 (pc2 := 10) dX6_findNext_9 rfl ?_
      refine x_aload0 (pc2 := 11) dX6_findNext_10 rfl ?_
      refine x_fV0 (pc2 := 14) eX6_allThings kX6_149 sh_43 rfl (Nat.le_of_ble_eq_true rfl) dX6_findNext_11 rfl (s_allThings _ _) ?_
      rw [hM.1.1, z_allN _ (by omega)]
      refine x_icmp_gt (pc2 := 17) (pc3 := 52) dX6_findNext_14 rfl rfl (fun h14 => ?_) (fun h14 => ?_)
      rotate_left
      · exact absurd ((nI_lt_iff (by omega) (by omega)).mpr (by omega)) h14
      refine hexit (fun mv' s'' hm ht => ?_) _
      by_cases e : mv' < bs + x
      · exact hno mv' s'' e ht
      · have := ht.2.1
        rw [show (nG c).1 s mv' = nX c s mv' from rfl, nX_big hK (by omega)] at this
        cases this
    | succ j ih =>
      intro x hx hno
      have e4 : nI (s % 4) + by_ = nI4 s (bs + x) := by
        rcases hb with ⟨rfl, rfl⟩ | ⟨rfl, rfl⟩
        · rw [Nat.zero_add, nI4_dn (by omega), Int32.sub_eq_add_neg]
        · rw [nI4_up]
      have e5 : (bs + x) % 16 = x := by omega
      refine x_iload3 (pc2 := 10) dX6_findNext_9 rfl ?_
      refine x_aload0 (pc2 := 11) dX6_findNext_10 rfl ?_
      refine x_fV0 (pc2 := 14) eX6_allThings kX6_149 sh_43 rfl (Nat.le_of_ble_eq_true rfl) dX6_findNext_11 rfl (s_allThings _ _) ?_
      rw [hM.1.1, z_allN _ (by omega)]
      refine x_icmp_gt (pc2 := 17) (pc3 := 52) dX6_findNext_14 rfl rfl (fun h14 => ?_) (fun h14 => ?_)
      · exact absurd ((nI_lt_iff (by omega) (by omega)).mp h14) (by omega)
      refine x_aload0 (pc2 := 18) dX6_findNext_17 rfl ?_
      refine x_iload1 (pc2 := 19) dX6_findNext_18 rfl ?_
      refine x_iload1 (pc2 := 20) dX6_findNext_19 rfl ?_
      refine x_iconst (v := 3) (pc2 := 21) dX6_findNext_20 rfl (by decide) ?_
      refine x_iand (pc2 := 22) dX6_findNext_21 rfl ?_
      rw [gb_spot s hs]
      refine x_iload2 (pc2 := 23) dX6_findNext_22 rfl ?_
      refine x_iadd (pc2 := 24) dX6_findNext_23 rfl ?_
      rw [e4]
      refine x_iload3 (pc2 := 25) dX6_findNext_24 rfl ?_
      have e6 := s_isNext d hc hM h58 h59 hD hLe (mv := bs + x) hs h1 hf
      rw [e5] at e6
      refine x_fV3 (pc2 := 28) eX6_isNext kX6_233 sh_43 rfl (Nat.le_of_ble_eq_true rfl) dX6_findNext_25 rfl e6 ?_
      refine x_if_eq (pc2 := 31) (pc3 := 46) dX6_findNext_28 rfl rfl (fun h28 => ?_) (fun h28 => ?_)
      · rw [z_b0] at h28
        refine x_iinc3 (pc2 := 49) dX6_findNext_46 rfl (z_inc1 _) rfl ?_
        refine x_goto (pc2 := 9) dX6_findNext_49 rfl ?_
        rw [← nI_succ]
        refine ih (x + 1) (by omega) (fun mv' s'' hm ht => ?_)
        by_cases e : mv' = bs + x
        · subst e; exact pNb_false h28 s'' ht
        · exact hno mv' s'' (by omega) ht
      · rw [z_bn0] at h28
        obtain ⟨s', ht, hl⟩ := pNb_true h28
        obtain ⟨-, hto⟩ := nSt hc hs ht.2.1
        refine x_aload0 (pc2 := 32) dX6_findNext_31 rfl ?_
        refine x_iload1 (pc2 := 33) dX6_findNext_32 rfl ?_
        refine x_iconst (v := 3) (pc2 := 34) dX6_findNext_33 rfl (by decide) ?_
        refine x_iand (pc2 := 35) dX6_findNext_34 rfl ?_
        rw [gb_spot s hs]
        refine x_iload2 (pc2 := 36) dX6_findNext_35 rfl ?_
        refine x_iadd (pc2 := 37) dX6_findNext_36 rfl ?_
        rw [e4, hto]
        refine x_putI (pc2 := 40) pX6_236 sh_43 rfl dX6_findNext_37 rfl ?_
        refine x_aload0 (pc2 := 41) dX6_findNext_40 rfl ?_
        refine x_iload3 (pc2 := 42) dX6_findNext_41 rfl ?_
        refine x_putI (pc2 := 45) pX6_239 sh_43 rfl dX6_findNext_42 rfl ?_
        refine x_vret dX6_findNext_45 rfl ?_
        refine ⟨rfl, bs + x, s', ⟨by omega, ht, hl, fun mv' s'' hm => hno mv' s'' hm⟩, ?_⟩
        rw [e5]
  refine x_enter (by decide) (Nat.le_of_ble_eq_true rfl) ?_
  show z_At _ _ _ [.ref 43, .int (nI s), .null, .null] _ _ _
  refine x_iconst (v := -1) (pc2 := 1) dX6_findNext_0 rfl (by decide) ?_
  refine x_istore2 (pc2 := 2) dX6_findNext_1 rfl rfl ?_
  refine x_iload2 (pc2 := 3) dX6_findNext_2 rfl ?_
  refine x_iconst (v := 2) (pc2 := 4) dX6_findNext_3 rfl (by decide) ?_
  refine x_icmp_ge (pc2 := 7) (pc3 := 58) dX6_findNext_4 rfl rfl (fun h4 => ?_) (fun h4 => ?_)
  · exact absurd h4 (by decide)
  refine x_iconst (v := 0) (pc2 := 8) dX6_findNext_7 rfl (by decide) ?_
  refine x_istore3 (pc2 := 9) dX6_findNext_8 rfl rfl ?_
  refine inner 0 (-1) (Or.inl ⟨rfl, rfl⟩) (fun hno o => ?_) (2 ^ cK c) 0 (by omega) (fun mv' s'' hm => by omega)
  refine x_iinc2 (pc2 := 55) dX6_findNext_52 rfl (z_inc2 _) rfl ?_
  refine x_goto (pc2 := 2) dX6_findNext_55 rfl ?_
  rw [show (-1 : Int32) + 2 = 1 from by decide]
  refine x_iload2 (pc2 := 3) dX6_findNext_2 rfl ?_
  refine x_iconst (v := 2) (pc2 := 4) dX6_findNext_3 rfl (by decide) ?_
  refine x_icmp_ge (pc2 := 7) (pc3 := 58) dX6_findNext_4 rfl rfl (fun h4 => ?_) (fun h4 => ?_)
  · exact absurd h4 (by decide)
  refine x_iconst (v := 0) (pc2 := 8) dX6_findNext_7 rfl (by decide) ?_
  refine x_istore3 (pc2 := 9) dX6_findNext_8 rfl rfl ?_
  refine inner 16 1 (Or.inr ⟨rfl, rfl⟩) (fun hno o => ?_) (2 ^ cK c) 0 (by omega) (fun mv' s'' hm => hno mv' s'' (by omega))
  exfalso
  obtain ⟨mv, s', hm, ht, hl⟩ := pNx_ex (nG_gr hc) hL hs hf h1
  exact hno mv s' (by omega) ht hl
/-- what a question for a trip answers -/
def gTr (c : zG) (k : Nat) (w v : Int32) : Prop := ∃ T, pD (nG c) 1000000 T ∧ ((T (nE c) = 1000000 ∧ v = -9) ∨ (T (nE c) < 1000000 ∧ ∃ L, pL (nG c) T (nE c) L ∧ (((L 0 = 1000000 ∨ L 0 ≤ k) ∧ v = -9) ∨ (k < L 0 ∧ L 0 < 1000000 ∧ ∃ s0 mv s1, pQ (nG c) T L k s0 ∧ pNx (nG c) T L s0 mv s1 ∧ v = if w = 0 then nI (nV s0 mv) else nI (mv % 16)))))
def gFT (σ τ : zS) : Prop := (∀ q, q ≠ 43 → q ≠ 58 → q ≠ 59 → τ.1 q = σ.1 q) ∧ (∀ j, j ≠ 32 → j ≠ 33 → τ.1 43 j = σ.1 43 j) ∧ τ.2 = σ.2
theorem s_tripM (d : Nat) {σ : zS} {c : zG} (k w : Int32) (hN : σ.1 43 6 = nI (cN c)) (hN3 : cN c ≤ 3) (hcM : 1 ≤ cN c → gWf c ∧ gM σ c) : z_Ex mX6_trip (d + 6) [.ref 43, .int k, .int w] σ (fun rv τ => gFT σ τ ∧ ((k < 0 ∧ rv = some (.int (-1))) ∨ (¬ k < 0 ∧ z_wi w 0 1 = false ∧ rv = some (.int (-2))) ∨ (¬ k < 0 ∧ z_wi w 0 1 = true ∧ cN c = 0 ∧ rv = some (.int (-3))) ∨ (¬ k < 0 ∧ z_wi w 0 1 = true ∧ 1 ≤ cN c ∧ ∃ v, gTr c k.toNatClampNeg w v ∧ rv = some (.int v)))) := by
  have hrf : gFT σ σ := ⟨fun _ _ _ _ => rfl, fun _ _ _ => rfl, rfl⟩
  refine x_enter (by decide) (Nat.le_of_ble_eq_true rfl) ?_
  show z_At _ _ _ [.ref 43, .int k, .int w, .null, .null] _ _ _
  refine x_iload1 (pc2 := 1) dX6_trip_0 rfl ?_
  refine x_if_ge (pc2 := 4) (pc3 := 6) dX6_trip_1 rfl rfl (fun h1 => ?_) (fun h1 => ?_)
  rotate_left
  · skip
    refine x_iconst (v := -1) (pc2 := 5) dX6_trip_4 rfl (by decide) ?_
    refine x_iret dX6_trip_5 rfl ?_
    exact ⟨hrf, Or.inl ⟨Int32.not_le.mp h1, rfl⟩⟩
  have hk0 : ¬ k < 0 := Int32.not_lt.mpr h1
  refine x_iload2 (pc2 := 7) dX6_trip_6 rfl ?_
  refine x_iconst (v := 0) (pc2 := 8) dX6_trip_7 rfl (by decide) ?_
  refine x_iconst (v := 1) (pc2 := 9) dX6_trip_8 rfl (by decide) ?_
  refine x_fS3 (pc2 := 12) eX6_within kX6_80 (Nat.le_of_ble_eq_true rfl) dX6_trip_9 rfl (s_within _ _ _ _ _) ?_
  refine x_if_ne (pc2 := 15) (pc3 := 18) dX6_trip_12 rfl rfl (fun h12 => ?_) (fun h12 => ?_)
  rotate_left
  · rw [z_b0] at h12
    refine x_bipush (v := -2) (pc2 := 17) dX6_trip_15 rfl (by decide) ?_
    refine x_iret dX6_trip_17 rfl ?_
    exact ⟨hrf, Or.inr (Or.inl ⟨hk0, h12, rfl⟩)⟩
  rw [z_bn0] at h12
  refine x_aload0 (pc2 := 19) dX6_trip_18 rfl ?_
  refine x_getI (pc2 := 22) fX6_84 sh_43 rfl dX6_trip_19 rfl ?_
  rw [hN]
  refine x_if_ne (pc2 := 25) (pc3 := 28) dX6_trip_22 rfl rfl (fun h22 => ?_) (fun h22 => ?_)
  rotate_left
  · skip
    refine x_bipush (v := -3) (pc2 := 27) dX6_trip_25 rfl (by decide) ?_
    refine x_iret dX6_trip_27 rfl ?_
    exact ⟨hrf, Or.inr (Or.inr (Or.inl ⟨hk0, h12, nI_inj (b := 0) (by omega) (by decide) h22, rfl⟩))⟩
  have hN1 : 1 ≤ cN c := by
    rcases Nat.eq_zero_or_pos (cN c) with e | e
    · rw [e] at h22; exact absurd rfl h22
    · exact e
  obtain ⟨hc, hM⟩ := hcM hN1
  obtain ⟨kn, hkn, rfl⟩ := nI_of hk0
  rw [nI_clamp hkn]
  suffices hfin : ∀ τ v, gFT σ τ → gTr c kn w v → (gFT σ τ ∧ ((nI kn < 0 ∧ some (Value.int v) = some (.int (-1))) ∨ (¬ nI kn < 0 ∧ z_wi w 0 1 = false ∧ some (Value.int v) = some (.int (-2))) ∨ (¬ nI kn < 0 ∧ z_wi w 0 1 = true ∧ cN c = 0 ∧ some (Value.int v) = some (.int (-3))) ∨ (¬ nI kn < 0 ∧ z_wi w 0 1 = true ∧ 1 ≤ cN c ∧ ∃ v', gTr c kn w v' ∧ some (Value.int v) = some (.int v')))) by
    have hE := nE_lt hc
    refine x_aload0 (pc2 := 29) dX6_trip_28 rfl ?_
    refine x_cV0 eX6_soonestNow kX6_224 sh_43 rfl (Nat.le_of_ble_eq_true rfl) dX6_trip_29 ?_
    refine (s_soonestNow d hc hM).mono ?_
    rintro rv τ1 ⟨T, rfl, hq1, hD⟩
    have hTE := hD.2.2.2 _ hE
    show z_At _ _ 32 _ [.int _] _ _
    have hM1 : gM τ1 c := hM.q (T := T) hq1.1 (by decide)
    have hF1 : gFT σ τ1 := ⟨fun q _ h2 _ => hq1.1 q h2, fun j _ _ => by rw [hq1.1 43 (by decide)], hq1.2.1⟩
    refine x_bipush (v := -9) (pc2 := 34) dX6_trip_32 rfl (by decide) ?_
    refine x_icmp_ne (pc2 := 37) (pc3 := 40) dX6_trip_34 rfl rfl (fun h34 => ?_) (fun h34 => ?_)
    rotate_left
    · rw [eM_9 (by omega)] at h34
      refine x_bipush (v := -9) (pc2 := 39) dX6_trip_37 rfl (by decide) ?_
      refine x_iret dX6_trip_39 rfl ?_
      exact hfin _ _ hF1 ⟨T, hD, Or.inl ⟨h34, rfl⟩⟩
    rw [eM_9 (by omega)] at h34
    refine x_aload0 (pc2 := 41) dX6_trip_40 rfl ?_
    refine x_cV0 eX6_layLeft kX6_242 sh_43 rfl (Nat.le_of_ble_eq_true rfl) dX6_trip_41 ?_
    refine (s_layLeft d hc hM1 hq1.2.2 hD).mono ?_
    rintro rv τ2 ⟨rfl, L, hq2, hL, hJ⟩
    show z_At _ _ 44 _ [] _ _
    have hF2 : gFT σ τ2 := ⟨fun q h1 h2 h3 => by rw [hq2.1 q h3, hF1.1 q h1 h2 h3], fun j h1 h2 => by rw [hq2.1 43 (by decide), hF1.2.1 j h1 h2], by rw [hq2.2.1, hF1.2.2]⟩
    have hL0 := hJ.2.2 0 (by decide)
    refine x_iload1 (pc2 := 45) dX6_trip_44 rfl ?_
    refine x_aload0 (pc2 := 46) dX6_trip_45 rfl ?_
    refine x_getR (pc2 := 49) fX6_63 sh_43 rfl dX6_trip_46 rfl ?_
    refine x_iconst (v := 0) (pc2 := 50) dX6_trip_49 rfl (by decide) ?_
    refine x_iald (pc2 := 51) sh_59 (by exact z_in (t := 0) (by omega)) dX6_trip_50 rfl ?_
    rw [show (0 : Int32).toNatClampNeg = 0 from rfl, hq2.2.2 0 (by decide)]
    refine x_icmp_lt (pc2 := 54) (pc3 := 57) dX6_trip_51 rfl rfl (fun h51 => ?_) (fun h51 => ?_)
    rotate_left
    · skip
      refine x_bipush (v := -9) (pc2 := 56) dX6_trip_54 rfl (by decide) ?_
      refine x_iret dX6_trip_56 rfl ?_
      refine hfin _ _ hF2 ⟨T, hD, Or.inr ⟨by omega, L, hL, Or.inl ⟨?_, rfl⟩⟩⟩
      by_cases e : L 0 = 1000000
      · exact Or.inl e
      · rw [eM_nI (by omega), nI_lt_iff hkn (by omega)] at h51
        exact Or.inr (by omega)
    have hlt : kn < L 0 ∧ L 0 < 1000000 := by
      by_cases e : L 0 = 1000000
      · rw [e, show eM 1000000 = -9 from rfl] at h51
        have : ¬ nI kn < -9 := by
          rw [Int32.lt_iff_toInt_lt, nI_toInt hkn]
          have : (-9 : Int32).toInt = -9 := by decide
          omega
        exact absurd h51 this
      · rw [eM_nI (by omega), nI_lt_iff hkn (by omega)] at h51
        exact ⟨h51, by omega⟩
    refine x_iconst (v := 0) (pc2 := 58) dX6_trip_57 rfl (by decide) ?_
    refine x_istore3 (pc2 := 59) dX6_trip_58 rfl rfl ?_
    refine x_iconst (v := 0) (pc2 := 60) dX6_trip_59 rfl (by decide) ?_
    refine x_istore4 (pc2 := 62) dX6_trip_60 rfl rfl ?_
    suffices hl : ∀ m x, x + m = kn + 1 → ∀ s τ3, pQ (nG c) T L x s → (∀ q, q ≠ 43 → τ3.1 q = τ2.1 q) → (∀ j, j ≠ 32 → j ≠ 33 → τ3.1 43 j = τ2.1 43 j) → τ3.2 = τ2.2 → (1 ≤ x → ∃ s0 mv, pQ (nG c) T L (x - 1) s0 ∧ pNx (nG c) T L s0 mv s ∧ τ3.1 43 32 = nI (nV s0 mv) ∧ τ3.1 43 33 = nI (mv % 16)) → z_At mX6_trip (d + 6) 62 [.ref 43, .int (nI kn), .int w, .int (nI s), .int (nI x)] [] τ3 _ from
      hl (kn + 1) 0 (by omega) 0 τ2 rfl (fun _ _ => rfl) (fun _ _ _ => rfl) rfl (fun h => by omega)
    intro m
    induction m with
    | zero =>
      intro x hx s τ3 hQ g1 g2 g3 hlast
      obtain ⟨s0, mv, hQ0, hn, e1, e2⟩ := hlast (by omega)
      have hF3 : gFT σ τ3 := ⟨fun q h1 h2 h3 => by rw [g1 q h1, hF2.1 q h1 h2 h3], fun j h1 h2 => by rw [g2 j h1 h2, hF2.2.1 j h1 h2], by rw [g3, hF2.2.2]⟩
      rw [show x - 1 = kn by omega] at hQ0
      refine x_iload4 (pc2 := 64) dX6_trip_62 rfl ?_
      refine x_iload1 (pc2 := 65) dX6_trip_64 rfl ?_
      refine x_icmp_gt (pc2 := 68) (pc3 := 92) dX6_trip_65 rfl rfl (fun h65 => ?_) (fun h65 => ?_)
      rotate_left
      · exact absurd ((nI_lt_iff (by omega) (by omega)).mpr (by omega)) h65
      refine x_iload2 (pc2 := 93) dX6_trip_92 rfl ?_
      refine x_if_ne (pc2 := 96) (pc3 := 103) dX6_trip_93 rfl rfl (fun h93 => ?_) (fun h93 => ?_)
      · skip
        refine x_aload0 (pc2 := 104) dX6_trip_103 rfl ?_
        refine x_getI (pc2 := 107) fX6_239 sh_43 rfl dX6_trip_104 rfl ?_
        refine x_iret dX6_trip_107 rfl ?_
        rw [e2]
        exact hfin _ _ hF3 ⟨T, hD, Or.inr ⟨by omega, L, hL, Or.inr ⟨hlt.1, hlt.2, s0, mv, s, hQ0, hn, by rw [if_neg h93]⟩⟩⟩
      · skip
        refine x_aload0 (pc2 := 97) dX6_trip_96 rfl ?_
        refine x_getI (pc2 := 100) fX6_236 sh_43 rfl dX6_trip_97 rfl ?_
        refine x_goto (pc2 := 107) dX6_trip_100 rfl ?_
        refine x_iret dX6_trip_107 rfl ?_
        rw [e1]
        exact hfin _ _ hF3 ⟨T, hD, Or.inr ⟨by omega, L, hL, Or.inr ⟨hlt.1, hlt.2, s0, mv, s, hQ0, hn, by rw [if_pos h93]⟩⟩⟩
    | succ m ih =>
      intro x hx s τ3 hQ g1 g2 g3 hlast
      have hsl := pQ_lt (nG_gr hc) x s hQ
      have hLs := pQ_L x s hQ
      have hM3 : gM τ3 c := by
        have a1 : ∀ q, q ≠ 43 → q < 58 → τ3.1 q = σ.1 q := fun q h1 h2 => by rw [g1 q h1, hF2.1 q h1 (by omega) (by omega)]
        have a2 : ∀ j, j < 32 → τ3.1 43 j = σ.1 43 j := fun j h1 => by rw [g2 j (by omega) (by omega), hF2.2.1 j (by omega) (by omega)]
        unfold gM
        rw [a1 50 (by decide) (by decide), a1 51 (by decide) (by decide), a1 47 (by decide) (by decide), a1 48 (by decide) (by decide), a1 49 (by decide) (by decide), a2 7 (by decide), a2 6 (by decide), a2 14 (by decide), a2 5 (by decide), a2 8 (by decide)]
        exact hM
      refine x_iload4 (pc2 := 64) dX6_trip_62 rfl ?_
      refine x_iload1 (pc2 := 65) dX6_trip_64 rfl ?_
      refine x_icmp_gt (pc2 := 68) (pc3 := 92) dX6_trip_65 rfl rfl (fun h65 => ?_) (fun h65 => ?_)
      · exact absurd ((nI_lt_iff (by omega) (by omega)).mp h65) (by omega)
      refine x_aload0 (pc2 := 69) dX6_trip_68 rfl ?_
      refine x_iload3 (pc2 := 70) dX6_trip_69 rfl ?_
      refine x_cV1 eX6_findNext kX6_245 sh_43 rfl (Nat.le_of_ble_eq_true rfl) dX6_trip_70 ?_
      refine (s_findNext d hc hM3 (T := T) (L := L) (fun s hs => by rw [g1 58 (by decide), hq2.1 58 (by decide)]; exact hq1.2.2 s hs) (fun s hs => by rw [g1 59 (by decide)]; exact hq2.2.2 s hs) hD hL hsl (by omega) (by omega)).mono ?_
      rintro rv τ4 ⟨rfl, mv, s', hn, rfl⟩
      show z_At _ _ 73 _ [] _ _
      have hlt2 := nX_lt hc hsl hn.2.1.2.1
      have hgo := (nX_some hn.2.1.2.1).2.2
      refine x_iload3 (pc2 := 74) dX6_trip_73 rfl ?_
      refine x_aload0 (pc2 := 75) dX6_trip_74 rfl ?_
      refine x_getI (pc2 := 78) fX6_236 sh_43 rfl dX6_trip_75 rfl ?_
      refine x_aload0 (pc2 := 79) dX6_trip_78 rfl ?_
      refine x_getI (pc2 := 82) fX6_239 sh_43 rfl dX6_trip_79 rfl ?_
      rw [z_st_at, z_st_fld _ _ _ (by decide), z_st_at]
      refine x_fS3 (pc2 := 85) eX6_gone kX6_196 (Nat.le_of_ble_eq_true rfl) dX6_trip_82 rfl (s_gone _ _ _ _ _) ?_
      rw [z_gn_nat hsl hlt2.2.2.1 (Nat.mod_lt _ (by decide)) 4 (by decide), ← hgo]
      refine x_istore3 (pc2 := 86) dX6_trip_85 rfl rfl ?_
      refine x_iinc4 (pc2 := 89) dX6_trip_86 rfl (z_inc1 _) rfl ?_
      refine x_goto (pc2 := 62) dX6_trip_89 rfl ?_
      rw [← nI_succ]
      refine ih (x + 1) (by omega) s' _ ⟨s, mv, hQ, hn⟩ (fun q hq => ?_) (fun j h1 h2 => ?_) g3 (fun _ => ⟨s, mv, hQ, hn, ?_, ?_⟩)
      · rw [z_st_row _ _ _ hq, z_st_row _ _ _ hq, g1 q hq]
      · rw [z_st_fld _ _ _ h2, z_st_fld _ _ _ h1, g2 j h1 h2]
      · rw [z_st_fld _ _ _ (by decide), z_st_at]
      · rw [z_st_at]
  intro τ v hF hT
  exact ⟨hF, Or.inr (Or.inr (Or.inr ⟨hk0, h12, hN1, v, hT, rfl⟩))⟩
