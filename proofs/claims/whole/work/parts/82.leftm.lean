/-! the model: isTight, shorten, layLeft -/
def pTb (g : zX) (T : Nat → Nat) (s mv : Nat) : Bool := decide (T s < 1000000) && (match g.1 s mv with
  | none => false
  | some s' => decide (T s' = T s + g.2 s mv (T s)))
theorem pTb_of {g : zX} {T : Nat → Nat} {s mv s' : Nat} (h : g.1 s mv = some s') (hf : T s < 1000000) : pTb g T s mv = decide (T s' = T s + g.2 s mv (T s)) := by
  unfold pTb
  rw [h, decide_eq_true hf]
  rfl
theorem pTb_none {g : zX} {T : Nat → Nat} {s mv : Nat} (h : g.1 s mv = none) : pTb g T s mv = false := by
  unfold pTb
  rw [h]
  simp
theorem pTb_far {g : zX} {T : Nat → Nat} {s mv : Nat} (h : T s = 1000000) : pTb g T s mv = false := by
  unfold pTb
  rw [decide_eq_false (by omega)]
  rfl
theorem pTb_true {g : zX} {T : Nat → Nat} {s mv : Nat} (h : pTb g T s mv = true) : ∃ s', pTi g T s mv s' := by
  unfold pTb at h
  rw [Bool.and_eq_true, decide_eq_true_eq] at h
  obtain ⟨h1, h2⟩ := h
  cases e : g.1 s mv with
  | none => rw [e] at h2; cases h2
  | some s' =>
    rw [e] at h2
    exact ⟨s', h1, e, of_decide_eq_true h2⟩
theorem pTb_false {g : zX} {T : Nat → Nat} {s mv : Nat} (h : pTb g T s mv = false) (s' : Nat) : ¬ pTi g T s mv s' := by
  rintro ⟨h1, h2, h3⟩
  rw [pTb_of h2 h1] at h
  exact (of_decide_eq_false h) h3
theorem s_isTight (d : Nat) {τ : zS} {c : zG} {T : Nat → Nat} (hc : gWf c) (hM : gM τ c) (h58 : ∀ s, s < 1024 → τ.1 58 s = eM (T s)) (hD : pD (nG c) 1000000 T) {s mv : Nat} (hs : s < 1024) : z_Fn mX6_isTight (d + 3) [.ref 43, .int (nI s), .int (nI4 s mv), .int (nI (mv % 16))] τ (.int (z_b (pTb (nG c) T s mv))) τ := by
  have hx : mv % 16 < 16 := Nat.mod_lt _ (by decide)
  have hTs := hD.2.2.2 s hs
  refine x_enter (by decide) (Nat.le_of_ble_eq_true rfl) ?_
  show z_At _ _ _ [.ref 43, .int (nI s), .int (nI4 s mv), .int (nI (mv % 16)), .null] _ _ _
  refine x_aload0 (pc2 := 1) dX6_isTight_0 rfl ?_
  refine x_getR (pc2 := 4) fX6_60 sh_43 rfl dX6_isTight_1 rfl ?_
  refine x_iload1 (pc2 := 5) dX6_isTight_4 rfl ?_
  refine x_iald (pc2 := 6) sh_58 (by exact z_in (by omega)) dX6_isTight_5 rfl ?_
  refine x_bipush (v := -9) (pc2 := 8) dX6_isTight_6 rfl (by decide) ?_
  rw [nI_clamp (by omega), h58 s hs]
  refine x_icmp_eq (pc2 := 11) (pc3 := 21) dX6_isTight_8 rfl rfl (fun h8 => ?_) (fun h8 => ?_)
  · rw [eM_9 (by omega)] at h8
    refine x_iconst (v := 0) (pc2 := 22) dX6_isTight_21 rfl (by decide) ?_
    refine x_zret dX6_isTight_22 rfl (by first | assumption | exact z_b01 _ | exact Or.inl rfl | exact Or.inr rfl) ?_
    rw [pTb_far h8]
    exact ⟨rfl, rfl⟩
  rw [eM_9 (by omega)] at h8
  have hf : T s < 1000000 := by omega
  refine x_aload0 (pc2 := 12) dX6_isTight_11 rfl ?_
  refine x_iload1 (pc2 := 13) dX6_isTight_12 rfl ?_
  refine x_iload2 (pc2 := 14) dX6_isTight_13 rfl ?_
  refine x_iload3 (pc2 := 15) dX6_isTight_14 rfl ?_
  refine x_fV3 (pc2 := 18) eX6_mayGo kX6_188 sh_43 rfl (Nat.le_of_ble_eq_true rfl) dX6_isTight_15 rfl (s_mayGo _ _ _ _ _ hM.1.1 hc.1) ?_
  rw [hM.1.2.1, hM.2.2.2.1, hM.2.1.1, hM.2.1.2, hM.1.2.2, nMgo hc hs]
  refine x_if_ne (pc2 := 21) (pc3 := 23) dX6_isTight_18 rfl rfl (fun h18 => ?_) (fun h18 => ?_)
  rotate_left
  · rw [z_b0] at h18
    refine x_iconst (v := 0) (pc2 := 22) dX6_isTight_21 rfl (by decide) ?_
    refine x_zret dX6_isTight_22 rfl (by first | assumption | exact z_b01 _ | exact Or.inl rfl | exact Or.inr rfl) ?_
    rw [pTb_none (show (nG c).1 s mv = none from nX_no h18)]
    exact ⟨rfl, rfl⟩
  rw [z_bn0] at h18
  have hsp := pI_spot hc hD.2.1 hs hf
  have he := nX_of hsp h18
  have hlt := nX_lt hc hs he
  obtain ⟨hst, hto⟩ := nSt hc hs he
  generalize hgo : gG s (nV s mv) (mv % 16) 4 = s' at he hlt
  have htk := gTk_nat hc hlt.2.2.2 hx (gWet c (T s))
  refine x_aload0 (pc2 := 24) dX6_isTight_23 rfl ?_
  refine x_getR (pc2 := 27) fX6_60 sh_43 rfl dX6_isTight_24 rfl ?_
  refine x_iload1 (pc2 := 28) dX6_isTight_27 rfl ?_
  refine x_iald (pc2 := 29) sh_58 (by exact z_in (by omega)) dX6_isTight_28 rfl ?_
  refine x_aload0 (pc2 := 30) dX6_isTight_29 rfl ?_
  refine x_iload1 (pc2 := 31) dX6_isTight_30 rfl ?_
  refine x_iconst (v := 3) (pc2 := 32) dX6_isTight_31 rfl (by decide) ?_
  refine x_iand (pc2 := 33) dX6_isTight_32 rfl ?_
  refine x_iload2 (pc2 := 34) dX6_isTight_33 rfl ?_
  refine x_iload3 (pc2 := 35) dX6_isTight_34 rfl ?_
  refine x_aload0 (pc2 := 36) dX6_isTight_35 rfl ?_
  refine x_getR (pc2 := 39) fX6_60 sh_43 rfl dX6_isTight_36 rfl ?_
  refine x_iload1 (pc2 := 40) dX6_isTight_39 rfl ?_
  refine x_iald (pc2 := 41) sh_58 (by exact z_in (by omega)) dX6_isTight_40 rfl ?_
  rw [nI_clamp (by omega), h58 s hs, eM_nI hf, gb_spot s hs, hto]
  rw [hto] at hst
  refine x_fV4 (pc2 := 44) eX6_takes kX6_193 sh_43 rfl (Nat.le_of_ble_eq_true rfl) dX6_isTight_41 rfl (s_takes _ _ _ _ _ _ hM.1.1 hc.1 (by rw [hst]; exact z_in (by have := hc.2.1; omega))) ?_
  rw [hst, nI_clamp (by have := hc.2.1; omega), hM.2.2.1.1, hM.2.2.1.2.1, hM.2.2.1.2.2, hM.2.2.2.2, hM.2.1.2, show z_rains (cR c) (nI (T s)) = gWet c (T s) from rfl, htk.1]
  refine x_iadd (pc2 := 45) dX6_isTight_44 rfl ?_
  rw [z_nIadd, show T s + gTk c (nK s mv) (mv % 16) (gWet c (T s)) = T s + (nG c).2 s mv (T s) from rfl]
  have hby : T s + (nG c).2 s mv (T s) < 1000000 := by
    have : (nG c).2 s mv (T s) ≤ 29 := htk.2.2
    omega
  have hT' := hD.2.2.2 s' hlt.1
  rw [pTb_of (show (nG c).1 s mv = some s' from he) hf]
  refine x_istore4 (pc2 := 47) dX6_isTight_45 rfl rfl ?_
  refine x_aload0 (pc2 := 48) dX6_isTight_47 rfl ?_
  refine x_getR (pc2 := 51) fX6_60 sh_43 rfl dX6_isTight_48 rfl ?_
  refine x_iload1 (pc2 := 52) dX6_isTight_51 rfl ?_
  refine x_iload2 (pc2 := 53) dX6_isTight_52 rfl ?_
  refine x_iload3 (pc2 := 54) dX6_isTight_53 rfl ?_
  refine x_fS3 (pc2 := 57) eX6_gone kX6_196 (Nat.le_of_ble_eq_true rfl) dX6_isTight_54 rfl (s_gone _ _ _ _ _) ?_
  rw [z_gn_nat hs hlt.2.2.1 hx 4 (by decide), hgo]
  refine x_iald (pc2 := 58) sh_58 (by exact z_in (by omega)) dX6_isTight_57 rfl ?_
  refine x_iload4 (pc2 := 60) dX6_isTight_58 rfl ?_
  rw [nI_clamp (by omega), h58 s' hlt.1, ← eM_nI hby]
  refine x_icmp_ne (pc2 := 63) (pc3 := 67) dX6_isTight_60 rfl rfl (fun h60 => ?_) (fun h60 => ?_)
  · skip
    refine x_iconst (v := 0) (pc2 := 68) dX6_isTight_67 rfl (by decide) ?_
    refine x_zret dX6_isTight_68 rfl (by first | assumption | exact z_b01 _ | exact Or.inl rfl | exact Or.inr rfl) ?_
    have : ¬ T s' = T s + (nG c).2 s mv (T s) := fun q => h60 (by rw [q])
    rw [decide_eq_false this]
    exact ⟨rfl, rfl⟩
  · skip
    refine x_iconst (v := 1) (pc2 := 64) dX6_isTight_63 rfl (by decide) ?_
    refine x_goto (pc2 := 68) dX6_isTight_64 rfl ?_
    refine x_zret dX6_isTight_68 rfl (by first | assumption | exact z_b01 _ | exact Or.inl rfl | exact Or.inr rfl) ?_
    have : T s' = T s + (nG c).2 s mv (T s) := eM_inj (by omega) (by omega) h60
    rw [decide_eq_true this]
    exact ⟨rfl, rfl⟩
theorem s_shorten (d : Nat) {σ τ : zS} {c : zG} {T L : Nat → Nat} (hc : gWf c) (hM : gM σ c) (h58 : ∀ s, s < 1024 → σ.1 58 s = eM (T s)) (hD : pD (nG c) 1000000 T) (hq : qM 59 σ τ L) (hJ : pJ (nG c) T (nE c) L) {s mv : Nat} (hs : s < 1024) (hmv : mv < 32) : z_Ex mX6_shorten (d + 4) [.ref 43, .int (nI s), .int (nI4 s mv), .int (nI (mv % 16))] τ (fun rv τ' => ∃ b L', rv = some (.int (z_b b)) ∧ qM 59 σ τ' L' ∧ pSl (nG c) T (nE c) L s mv b L') := by
  have hM' : gM τ c := hM.q (T := L) hq.1 (by decide)
  have h58' : ∀ s, s < 1024 → τ.1 58 s = eM (T s) := fun s hs => by rw [hq.1 58 (by decide)]; exact h58 s hs
  have hx : mv % 16 < 16 := Nat.mod_lt _ (by decide)
  have hLs := hJ.2.2 s hs
  refine x_enter (by decide) (Nat.le_of_ble_eq_true rfl) ?_
  show z_At _ _ _ [.ref 43, .int (nI s), .int (nI4 s mv), .int (nI (mv % 16)), .null] _ _ _
  refine x_aload0 (pc2 := 1) dX6_shorten_0 rfl ?_
  refine x_iload1 (pc2 := 2) dX6_shorten_1 rfl ?_
  refine x_iload2 (pc2 := 3) dX6_shorten_2 rfl ?_
  refine x_iload3 (pc2 := 4) dX6_shorten_3 rfl ?_
  refine x_fV3 (pc2 := 7) eX6_isTight kX6_227 sh_43 rfl (Nat.le_of_ble_eq_true rfl) dX6_shorten_4 rfl (s_isTight d hc hM' h58' hD hs) ?_
  refine x_if_ne (pc2 := 10) (pc3 := 12) dX6_shorten_7 rfl rfl (fun h7 => ?_) (fun h7 => ?_)
  rotate_left
  · rw [z_b0] at h7
    refine x_iconst (v := 0) (pc2 := 11) dX6_shorten_10 rfl (by decide) ?_
    refine x_zret dX6_shorten_11 rfl (by first | assumption | exact z_b01 _ | exact Or.inl rfl | exact Or.inr rfl) ?_
    exact ⟨false, L, rfl, hq, Or.inl ⟨rfl, rfl, fun s' ht => absurd ht (pTb_false h7 s')⟩⟩
  rw [z_bn0] at h7
  obtain ⟨s', ht⟩ := pTb_true h7
  have hlt := nX_lt hc hs ht.2.1
  obtain ⟨hst, hto⟩ := nSt hc hs ht.2.1
  have hgo := (nX_some ht.2.1).2.2
  have hLs' := hJ.2.2 s' hlt.1
  have hno : L s' = 1000000 ∨ L s ≤ L s' + 1 → pCL (nG c) T L s mv := fun q s2 h2 hf => by
    have : s2 = s' := Option.some.inj (h2.2.1.symm.trans ht.2.1)
    subst this
    omega
  refine x_aload0 (pc2 := 13) dX6_shorten_12 rfl ?_
  refine x_getR (pc2 := 16) fX6_63 sh_43 rfl dX6_shorten_13 rfl ?_
  refine x_iload1 (pc2 := 17) dX6_shorten_16 rfl ?_
  refine x_iload2 (pc2 := 18) dX6_shorten_17 rfl ?_
  refine x_iload3 (pc2 := 19) dX6_shorten_18 rfl ?_
  refine x_fS3 (pc2 := 22) eX6_gone kX6_196 (Nat.le_of_ble_eq_true rfl) dX6_shorten_19 rfl (s_gone _ _ _ _ _) ?_
  rw [hto, z_gn_nat hs hlt.2.2.1 hx 4 (by decide), ← hgo]
  refine x_iald (pc2 := 23) sh_59 (by exact z_in (by omega)) dX6_shorten_22 rfl ?_
  refine x_istore4 (pc2 := 25) dX6_shorten_23 rfl rfl ?_
  refine x_iload4 (pc2 := 27) dX6_shorten_25 rfl ?_
  refine x_bipush (v := -9) (pc2 := 29) dX6_shorten_27 rfl (by decide) ?_
  rw [nI_clamp (by omega), hq.2.2 s' hlt.1]
  refine x_icmp_eq (pc2 := 32) (pc3 := 56) dX6_shorten_29 rfl rfl (fun h29 => ?_) (fun h29 => ?_)
  · rw [eM_9 (by omega)] at h29
    refine x_iconst (v := 0) (pc2 := 57) dX6_shorten_56 rfl (by decide) ?_
    refine x_zret dX6_shorten_57 rfl (by first | assumption | exact z_b01 _ | exact Or.inl rfl | exact Or.inr rfl) ?_
    exact ⟨false, L, rfl, hq, Or.inl ⟨rfl, rfl, hno (Or.inl h29)⟩⟩
  rw [eM_9 (by omega)] at h29
  rw [eM_nI (show L s' < 1000000 by omega)]
  have hup : L s' + 1 < L s → z_At mX6_shorten (d + 4) 58 [.ref 43, .int (nI s), .int (nI (nV s mv)), .int (nI (mv % 16)), .int (nI (L s'))] [] τ (fun rv τ' => ∃ b L', rv = some (.int (z_b b)) ∧ qM 59 σ τ' L' ∧ pSl (nG c) T (nE c) L s mv b L') := by
    intro hl
    refine x_aload0 (pc2 := 59) dX6_shorten_58 rfl ?_
    refine x_getR (pc2 := 62) fX6_63 sh_43 rfl dX6_shorten_59 rfl ?_
    refine x_iload1 (pc2 := 63) dX6_shorten_62 rfl ?_
    refine x_iload4 (pc2 := 65) dX6_shorten_63 rfl ?_
    refine x_iconst (v := 1) (pc2 := 66) dX6_shorten_65 rfl (by decide) ?_
    refine x_iadd (pc2 := 67) dX6_shorten_66 rfl ?_
    rw [← nI_succ, ← eM_nI (show L s' + 1 < 1000000 by omega)]
    refine x_iast (pc2 := 68) sh_59 (by exact z_in (by omega)) dX6_shorten_67 rfl ?_
    rw [nI_clamp (by omega)]
    refine x_iconst (v := 1) (pc2 := 69) dX6_shorten_68 rfl (by decide) ?_
    refine x_zret dX6_shorten_69 rfl (by first | assumption | exact z_b01 _ | exact Or.inl rfl | exact Or.inr rfl) ?_
    obtain ⟨j1, j2⟩ := pJ_up (nG_gr hc) hJ hs hmv ht (by omega) hl
    exact ⟨true, _, rfl, hq.up s _, Or.inr ⟨rfl, j1, j2⟩⟩
  refine x_aload0 (pc2 := 33) dX6_shorten_32 rfl ?_
  refine x_getR (pc2 := 36) fX6_63 sh_43 rfl dX6_shorten_33 rfl ?_
  refine x_iload1 (pc2 := 37) dX6_shorten_36 rfl ?_
  refine x_iald (pc2 := 38) sh_59 (by exact z_in (by omega)) dX6_shorten_37 rfl ?_
  refine x_bipush (v := -9) (pc2 := 40) dX6_shorten_38 rfl (by decide) ?_
  rw [nI_clamp (by omega), hq.2.2 s hs]
  refine x_icmp_eq (pc2 := 43) (pc3 := 58) dX6_shorten_40 rfl rfl (fun h40 => ?_) (fun h40 => ?_)
  · rw [eM_9 (by omega)] at h40
    exact hup (by omega)
  rw [eM_9 (by omega)] at h40
  refine x_aload0 (pc2 := 44) dX6_shorten_43 rfl ?_
  refine x_getR (pc2 := 47) fX6_63 sh_43 rfl dX6_shorten_44 rfl ?_
  refine x_iload1 (pc2 := 48) dX6_shorten_47 rfl ?_
  refine x_iald (pc2 := 49) sh_59 (by exact z_in (by omega)) dX6_shorten_48 rfl ?_
  refine x_iload4 (pc2 := 51) dX6_shorten_49 rfl ?_
  refine x_iconst (v := 1) (pc2 := 52) dX6_shorten_51 rfl (by decide) ?_
  rw [nI_clamp (by omega), hq.2.2 s hs, eM_nI (show L s < 1000000 by omega)]
  refine x_iadd (pc2 := 53) dX6_shorten_52 rfl ?_
  rw [← nI_succ]
  refine x_icmp_gt (pc2 := 56) (pc3 := 58) dX6_shorten_53 rfl rfl (fun h53 => ?_) (fun h53 => ?_)
  · rw [nI_lt_iff (by omega) (by omega)] at h53
    exact hup h53
  · rw [nI_lt_iff (by omega) (by omega)] at h53
    refine x_iconst (v := 0) (pc2 := 57) dX6_shorten_56 rfl (by decide) ?_
    refine x_zret dX6_shorten_57 rfl (by first | assumption | exact z_b01 _ | exact Or.inl rfl | exact Or.inr rfl) ?_
    exact ⟨false, L, rfl, hq, Or.inl ⟨rfl, rfl, hno (Or.inr (by omega))⟩⟩
theorem s_layLeft_loop (d : Nat) {σ : zS} {c : zG} {T : Nat → Nat} (hc : gWf c) (hM : gM σ c) (h58 : ∀ s, s < 1024 → σ.1 58 s = eM (T s)) (hD : pD (nG c) 1000000 T) {Q : Option Value → zS → Prop} (hend : ∀ τ L a b e, qM 59 σ τ L → pL (nG c) T (nE c) L → pJ (nG c) T (nE c) L → z_At mX6_layLeft (d + 5) 103 [.ref 43, a, b, e] [] τ Q) : ∀ n L τ, pS L 1024 < n → qM 59 σ τ L → pJ (nG c) T (nE c) L → ∀ b e, z_At mX6_layLeft (d + 5) 35 [.ref 43, .int 1, b, e] [] τ Q := by
  intro n
  induction n with
  | zero => intro L τ hn; omega
  | succ n ih =>
  intro L τ hn hq hI b e
  have hK := hc.1
  have h2K : 2 ^ cK c ≤ 16 := (Nat.pow_le_pow_right (by decide) hK : 2 ^ cK c ≤ 2 ^ 4)
  have h2K1 : 1 ≤ 2 ^ cK c := Nat.one_le_two_pow
  refine x_iload1 (pc2 := 36) dX6_layLeft_35 rfl ?_
  refine x_if_eq (pc2 := 39) (pc3 := 103) dX6_layLeft_36 rfl rfl (fun h36 => ?_) (fun h36 => ?_)
  · exact absurd h36 (by decide)
  suffices ho : ∀ m s, s + m = 1024 → ∀ more L1 τ1 e, qM 59 σ τ1 L1 → pPl (nG c) T (nE c) L L1 more s 0 → z_At mX6_layLeft (d + 5) 43 [.ref 43, .int (z_b more), .int (nI s), e] [] τ1 Q by
    refine x_iconst (v := 0) (pc2 := 40) dX6_layLeft_39 rfl (by decide) ?_
    refine x_istore1 (pc2 := 41) dX6_layLeft_40 rfl rfl ?_
    refine x_iconst (v := 0) (pc2 := 42) dX6_layLeft_41 rfl (by decide) ?_
    refine x_istore2 (pc2 := 43) dX6_layLeft_42 rfl rfl ?_
    exact ho 1024 0 rfl false L τ e hq (pPl_0 hI)
  intro m
  induction m with
  | zero =>
    intro s hs more L1 τ1 e hq1 hp
    obtain rfl : s = 1024 := by omega
    refine x_iload2 (pc2 := 44) dX6_layLeft_43 rfl ?_
    refine x_sipush (v := 1024) (pc2 := 47) dX6_layLeft_44 rfl (by decide) ?_
    refine x_icmp_ge (pc2 := 50) (pc3 := 100) dX6_layLeft_47 rfl rfl (fun h47 => ?_) (fun h47 => ?_)
    rotate_left
    · exact absurd (by decide) h47
    refine x_goto (pc2 := 35) dX6_layLeft_100 rfl ?_
    cases more with
    | false =>
      refine x_iload1 (pc2 := 36) dX6_layLeft_35 rfl ?_
      refine x_if_eq (pc2 := 39) (pc3 := 103) dX6_layLeft_36 rfl rfl (fun h36 => ?_) (fun h36 => ?_)
      · exact hend _ _ _ _ _ hq1 (pPl_end (nG_gr hc) hp).1 (pPl_end (nG_gr hc) hp).2
      · exact absurd rfl h36
    | true =>
      have hp := pPl_more hp
      exact ih L1 τ1 (by omega) hq1 hp.1 _ _
  | succ m ihm =>
    intro s hs more L1 τ1 e hq1 hp
    refine x_iload2 (pc2 := 44) dX6_layLeft_43 rfl ?_
    refine x_sipush (v := 1024) (pc2 := 47) dX6_layLeft_44 rfl (by decide) ?_
    refine x_icmp_ge (pc2 := 50) (pc3 := 100) dX6_layLeft_47 rfl rfl (fun h47 => ?_) (fun h47 => ?_)
    · exact absurd ((nI_le_iff (a := 1024) (by omega) (by omega)).mp h47) (by omega)
    refine x_iconst (v := 0) (pc2 := 51) dX6_layLeft_50 rfl (by decide) ?_
    refine x_istore3 (pc2 := 52) dX6_layLeft_51 rfl rfl ?_
    suffices hi : ∀ j x, x + j = 2 ^ cK c → ∀ more L1 τ1, qM 59 σ τ1 L1 → pPl (nG c) T (nE c) L L1 more s x → z_At mX6_layLeft (d + 5) 52 [.ref 43, .int (z_b more), .int (nI s), .int (nI x)] [] τ1 Q from
      hi (2 ^ cK c) 0 (by omega) more L1 τ1 hq1 hp
    clear hp hq1 more L1 τ1 e
    intro j
    induction j with
    | zero =>
      intro x hx more L1 τ1 hq1 hp
      have hM1 : gM τ1 c := hM.q (T := L1) hq1.1 (by decide)
      refine x_iload3 (pc2 := 53) dX6_layLeft_52 rfl ?_
      refine x_aload0 (pc2 := 54) dX6_layLeft_53 rfl ?_
      refine x_fV0 (pc2 := 57) eX6_allThings kX6_149 sh_43 rfl (Nat.le_of_ble_eq_true rfl) dX6_layLeft_54 rfl (s_allThings _ _) ?_
      rw [hM1.1.1, z_allN _ (by omega)]
      refine x_icmp_gt (pc2 := 60) (pc3 := 94) dX6_layLeft_57 rfl rfl (fun h57 => ?_) (fun h57 => ?_)
      rotate_left
      · exact absurd ((nI_lt_iff (by omega) (by omega)).mpr (by omega)) h57
      refine x_iinc2 (pc2 := 97) dX6_layLeft_94 rfl (z_inc1 _) rfl ?_
      refine x_goto (pc2 := 43) dX6_layLeft_97 rfl ?_
      rw [← nI_succ]
      exact ihm (s + 1) (by omega) more L1 τ1 _ hq1 (pPl_next hp (fun mv _ h => nX_big hK (by omega)))
    | succ j ihj =>
      intro x hx more L1 τ1 hq1 hp
      have hM1 : gM τ1 c := hM.q (T := L1) hq1.1 (by decide)
      have hI1 := hp.1
      refine x_iload3 (pc2 := 53) dX6_layLeft_52 rfl ?_
      refine x_aload0 (pc2 := 54) dX6_layLeft_53 rfl ?_
      refine x_fV0 (pc2 := 57) eX6_allThings kX6_149 sh_43 rfl (Nat.le_of_ble_eq_true rfl) dX6_layLeft_54 rfl (s_allThings _ _) ?_
      rw [hM1.1.1, z_allN _ (by omega)]
      refine x_icmp_gt (pc2 := 60) (pc3 := 94) dX6_layLeft_57 rfl rfl (fun h57 => ?_) (fun h57 => ?_)
      · exact absurd ((nI_lt_iff (by omega) (by omega)).mp h57) (by omega)
      refine x_iload1 (pc2 := 61) dX6_layLeft_60 rfl ?_
      refine x_aload0 (pc2 := 62) dX6_layLeft_61 rfl ?_
      refine x_iload2 (pc2 := 63) dX6_layLeft_62 rfl ?_
      refine x_iload2 (pc2 := 64) dX6_layLeft_63 rfl ?_
      refine x_iconst (v := 3) (pc2 := 65) dX6_layLeft_64 rfl (by decide) ?_
      refine x_iand (pc2 := 66) dX6_layLeft_65 rfl ?_
      rw [gb_spot s (by omega)]
      refine x_iconst (v := 1) (pc2 := 67) dX6_layLeft_66 rfl (by decide) ?_
      refine x_iadd (pc2 := 68) dX6_layLeft_67 rfl ?_
      refine x_iload3 (pc2 := 69) dX6_layLeft_68 rfl ?_
      refine x_cV3 eX6_shorten kX6_230 sh_43 rfl (Nat.le_of_ble_eq_true rfl) dX6_layLeft_69 ?_
      have e1 := s_shorten (d := d) (σ := σ) hc hM h58 hD hq1 hI1 (s := s) (mv := 16 + x) (by omega) (by omega)
      rw [nI4_up, show (16 + x) % 16 = x by omega] at e1
      refine e1.mono ?_
      rintro rv τ2 ⟨b1, L2, rfl, hq2, hs2⟩
      show z_At _ _ 72 _ [.int (z_b b1), .int (z_b more)] _ _
      refine x_ior (pc2 := 73) dX6_layLeft_72 rfl ?_
      rw [z_b_or]
      have hI2 := hs2.keep hI1
      refine x_istore1 (pc2 := 74) dX6_layLeft_73 rfl rfl ?_
      refine x_iload1 (pc2 := 75) dX6_layLeft_74 rfl ?_
      refine x_aload0 (pc2 := 76) dX6_layLeft_75 rfl ?_
      refine x_iload2 (pc2 := 77) dX6_layLeft_76 rfl ?_
      refine x_iload2 (pc2 := 78) dX6_layLeft_77 rfl ?_
      refine x_iconst (v := 3) (pc2 := 79) dX6_layLeft_78 rfl (by decide) ?_
      refine x_iand (pc2 := 80) dX6_layLeft_79 rfl ?_
      rw [gb_spot s (by omega)]
      refine x_iconst (v := 1) (pc2 := 81) dX6_layLeft_80 rfl (by decide) ?_
      refine x_isub (pc2 := 82) dX6_layLeft_81 rfl ?_
      refine x_iload3 (pc2 := 83) dX6_layLeft_82 rfl ?_
      refine x_cV3 eX6_shorten kX6_230 sh_43 rfl (Nat.le_of_ble_eq_true rfl) dX6_layLeft_83 ?_
      have e2 := s_shorten (d := d) (σ := σ) hc hM h58 hD hq2 hI2 (s := s) (mv := x) (by omega) (by omega)
      rw [nI4_dn (by omega), show x % 16 = x by omega] at e2
      refine e2.mono ?_
      rintro rv τ3 ⟨b2, L3, rfl, hq3, hs3⟩
      show z_At _ _ 86 _ [.int (z_b b2), .int (z_b (more || b1))] _ _
      refine x_ior (pc2 := 87) dX6_layLeft_86 rfl ?_
      rw [z_b_or]
      refine x_istore1 (pc2 := 88) dX6_layLeft_87 rfl rfl ?_
      refine x_iinc3 (pc2 := 91) dX6_layLeft_88 rfl (z_inc1 _) rfl ?_
      refine x_goto (pc2 := 52) dX6_layLeft_91 rfl ?_
      rw [← nI_succ]
      exact ihj (x + 1) (by omega) _ L3 τ3 hq3 (pPl_two (by omega) hp hs2 hs3)
theorem qM_E0 {r : Nat} {σ τ : zS} (h1 : ∀ q, q ≠ r → τ.1 q = σ.1 q) (h2 : τ.2 = σ.2) (e : Nat) : qM r σ (z_st (z_fill τ r 1024 (-9)) r e 0) (pE0 e) := by
  refine ⟨fun q hq => ?_, h2, fun s hs => ?_⟩
  · rw [z_st_row _ _ _ hq, z_fill_row _ _ _ _ hq, h1 q hq]
  · by_cases c : s = e
    · subst c; rw [z_st_at]; simp [pE0, eM]; rfl
    · rw [z_st_fld _ _ _ c, z_fill_at _ _ _ _ hs]
      simp [pE0, c, eM]
theorem s_layLeft (d : Nat) {σ : zS} {c : zG} {T : Nat → Nat} (hc : gWf c) (hM : gM σ c) (h58 : ∀ s, s < 1024 → σ.1 58 s = eM (T s)) (hD : pD (nG c) 1000000 T) : z_Ex mX6_layLeft (d + 5) [.ref 43] σ (fun rv τ => rv = none ∧ ∃ L, qM 59 σ τ L ∧ pL (nG c) T (nE c) L ∧ pJ (nG c) T (nE c) L) := by
  refine x_enter (by decide) (Nat.le_of_ble_eq_true rfl) ?_
  show z_At _ _ _ [.ref 43, .null, .null, .null] _ _ _
  refine x_iconst (v := 0) (pc2 := 1) dX6_layLeft_0 rfl (by decide) ?_
  refine x_istore1 (pc2 := 2) dX6_layLeft_1 rfl rfl ?_
  suffices hl : ∀ m k, k + m = 1024 → z_At mX6_layLeft (d + 5) 2 [.ref 43, .int (nI k), .null, .null] [] (z_fill σ 59 k (-9)) (fun rv τ => rv = none ∧ ∃ L, qM 59 σ τ L ∧ pL (nG c) T (nE c) L ∧ pJ (nG c) T (nE c) L) by
    have := hl 1024 0 rfl
    rw [z_fill_0] at this
    exact this
  intro m
  induction m with
  | zero =>
    intro k hk
    obtain rfl : k = 1024 := by omega
    have hE := nE_lt hc
    have hM' : gM (z_fill σ 59 1024 (-9)) c := hM.q (T := T) (fun q hq => z_fill_row _ _ _ _ hq) (by decide)
    refine x_iload1 (pc2 := 3) dX6_layLeft_2 rfl ?_
    refine x_sipush (v := 1024) (pc2 := 6) dX6_layLeft_3 rfl (by decide) ?_
    refine x_icmp_ge (pc2 := 9) (pc3 := 23) dX6_layLeft_6 rfl rfl (fun h6 => ?_) (fun h6 => ?_)
    rotate_left
    · exact absurd (by decide) h6
    refine x_aload0 (pc2 := 24) dX6_layLeft_23 rfl ?_
    refine x_getR (pc2 := 27) fX6_63 sh_43 rfl dX6_layLeft_24 rfl ?_
    refine x_aload0 (pc2 := 28) dX6_layLeft_27 rfl ?_
    refine x_fV0 (pc2 := 31) eX6_end kX6_221 sh_43 rfl (Nat.le_of_ble_eq_true rfl) dX6_layLeft_28 rfl (s_end _ _ hM'.1.1 hc.1) ?_
    rw [hM'.1.2.1, hM'.1.2.2, z_en_nat hc.2.1.1 _ hc.1, show gE (cN c) (cM c) (cK c) = nE c from rfl]
    refine x_iconst (v := 0) (pc2 := 32) dX6_layLeft_31 rfl (by decide) ?_
    refine x_iast (pc2 := 33) sh_59 (by exact z_in hE) dX6_layLeft_32 rfl ?_
    refine x_iconst (v := 1) (pc2 := 34) dX6_layLeft_33 rfl (by decide) ?_
    refine x_istore1 (pc2 := 35) dX6_layLeft_34 rfl rfl ?_
    rw [nI_clamp (by omega)]
    refine s_layLeft_loop d hc hM h58 hD (fun τ L a b e hq hL hJ => ?_) (pS (pE0 (nE c)) 1024 + 1) (pE0 (nE c)) _ (by omega) (qM_E0 (fun _ _ => rfl) rfl _) (pJ_0 _ _ hE) _ _
    refine x_vret dX6_layLeft_103 rfl ?_
    exact ⟨rfl, L, hq, hL, hJ⟩
  | succ m ih =>
    intro k hk
    refine x_iload1 (pc2 := 3) dX6_layLeft_2 rfl ?_
    refine x_sipush (v := 1024) (pc2 := 6) dX6_layLeft_3 rfl (by decide) ?_
    refine x_icmp_ge (pc2 := 9) (pc3 := 23) dX6_layLeft_6 rfl rfl (fun h6 => ?_) (fun h6 => ?_)
    · exact absurd ((nI_le_iff (a := 1024) (by omega) (by omega)).mp h6) (by omega)
    refine x_aload0 (pc2 := 10) dX6_layLeft_9 rfl ?_
    refine x_getR (pc2 := 13) fX6_63 sh_43 rfl dX6_layLeft_10 rfl ?_
    refine x_iload1 (pc2 := 14) dX6_layLeft_13 rfl ?_
    refine x_bipush (v := -9) (pc2 := 16) dX6_layLeft_14 rfl (by decide) ?_
    refine x_iast (pc2 := 17) sh_59 (by exact z_in (by omega)) dX6_layLeft_16 rfl ?_
    refine x_iinc1 (pc2 := 20) dX6_layLeft_17 rfl (z_inc1 _) rfl ?_
    refine x_goto (pc2 := 2) dX6_layLeft_20 rfl ?_
    rw [← nI_succ, nI_clamp (by omega), z_fill_s]
    exact ih (k + 1) (by omega)
