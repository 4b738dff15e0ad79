/-! the class's search: isInTime, bestMove -/
theorem s_isInTime (d : Nat) {τ : zS} {c : zG} {b : Bool} {T : Nat → Nat} (hc : gWf c) (hr : gSr τ c b) (h36 : ∀ s, s < 1024 → τ.1 36 s = nI (T s)) (hT : ∀ s, s < 1024 → T s ≤ 1000000) {s mv s' : Nat} (hs : s < 1024) (hm : mv < 32) (he : nX c s mv = some s') (hf : T s < 1000000) : z_Fn mX2_isInTime (d + 2) [.ref 31, .int (nI s), .int (nI mv), .int (nI s')] τ (.int (z_b (decide (T s' = T s + (nGb c b).2 s mv (T s))))) τ := by
  have hlt := nX_lt hc hs he
  have htk := (nGb_gr hc b).2.1 s mv s' (T s) hs he
  have hT' := hT s' hlt.1
  refine x_enter (by decide) (Nat.le_of_ble_eq_true rfl) ?_
  show z_At _ _ _ [.ref 31, .int (nI s), .int (nI mv), .int (nI s')] _ _ _
  refine x_aload0 (pc2 := 1) dX2_isInTime_0 rfl ?_
  refine x_getR (pc2 := 4) fX2_25 sh_31 rfl dX2_isInTime_1 rfl ?_
  refine x_iload3 (pc2 := 5) dX2_isInTime_4 rfl ?_
  refine x_iald (pc2 := 6) sh_36 (by exact z_in (by omega)) dX2_isInTime_5 rfl ?_
  refine x_aload0 (pc2 := 7) dX2_isInTime_6 rfl ?_
  refine x_getR (pc2 := 10) fX2_25 sh_31 rfl dX2_isInTime_7 rfl ?_
  refine x_iload1 (pc2 := 11) dX2_isInTime_10 rfl ?_
  refine x_iald (pc2 := 12) sh_36 (by exact z_in (by omega)) dX2_isInTime_11 rfl ?_
  refine x_aload0 (pc2 := 13) dX2_isInTime_12 rfl ?_
  refine x_iload1 (pc2 := 14) dX2_isInTime_13 rfl ?_
  refine x_iload2 (pc2 := 15) dX2_isInTime_14 rfl ?_
  refine x_aload0 (pc2 := 16) dX2_isInTime_15 rfl ?_
  refine x_getR (pc2 := 19) fX2_25 sh_31 rfl dX2_isInTime_16 rfl ?_
  refine x_iload1 (pc2 := 20) dX2_isInTime_19 rfl ?_
  refine x_iald (pc2 := 21) sh_36 (by exact z_in (by omega)) dX2_isInTime_20 rfl ?_
  rw [nI_clamp (by omega), nI_clamp (by omega), h36 s hs, h36 s' hlt.1]
  refine x_fV3 (pc2 := 24) eX2_minutesOf kX2_123 sh_31 rfl (Nat.le_of_ble_eq_true rfl) dX2_isInTime_21 rfl (s_minutesOf _ hc hr hs hm he hf) ?_
  refine x_iadd (pc2 := 25) dX2_isInTime_24 rfl ?_
  rw [z_nIadd]
  refine x_icmp_ne (pc2 := 28) (pc3 := 32) dX2_isInTime_25 rfl rfl (fun h25 => ?_) (fun h25 => ?_)
  · skip
    refine x_iconst (v := 0) (pc2 := 33) dX2_isInTime_32 rfl (by decide) ?_
    refine x_zret dX2_isInTime_33 rfl (by first | assumption | exact z_b01 _ | exact Or.inl rfl | exact Or.inr rfl) ?_
    rw [decide_eq_false (fun q => h25 (by rw [q]))]
    exact ⟨rfl, rfl⟩
  · skip
    refine x_iconst (v := 1) (pc2 := 29) dX2_isInTime_28 rfl (by decide) ?_
    refine x_goto (pc2 := 33) dX2_isInTime_29 rfl ?_
    refine x_zret dX2_isInTime_33 rfl (by first | assumption | exact z_b01 _ | exact Or.inl rfl | exact Or.inr rfl) ?_
    rw [decide_eq_true (nI_inj (by omega) (by omega) h25)]
    exact ⟨rfl, rfl⟩
/-- the best move so far -/
def bB (g : zX) (T L : Nat → Nat) (s mv : Nat) (v : Int32) (fl : Nat) : Prop := (v = -1 ∧ fl = 1000000 ∧ ∀ mv' s'', mv' < mv → pTi g T s mv' s'' → 1000000 ≤ L s'') ∨ ∃ bm bs, v = nI bm ∧ fl = L bs ∧ bm < mv ∧ pTi g T s bm bs ∧ L bs < 1000000 ∧ (∀ mv' s'', mv' < mv → pTi g T s mv' s'' → L bs ≤ L s'') ∧ ∀ mv' s'', mv' < bm → pTi g T s mv' s'' → L bs < L s''
theorem bB.skip {g : zX} {T L : Nat → Nat} {s mv : Nat} {v : Int32} {fl : Nat} (h : bB g T L s mv v fl) (hn : ∀ s'', pTi g T s mv s'' → fl ≤ L s'') : bB g T L s (mv + 1) v fl := by
  rcases h with ⟨h1, h2, h3⟩ | ⟨bm, bs, h1, h2, h3, h4, h5, h6, h7⟩
  · refine Or.inl ⟨h1, h2, fun mv' s'' hm ht => ?_⟩
    by_cases e : mv' = mv
    · subst e
      have := hn s'' ht
      omega
    · exact h3 mv' s'' (by omega) ht
  · refine Or.inr ⟨bm, bs, h1, h2, by omega, h4, h5, fun mv' s'' hm ht => ?_, h7⟩
    by_cases e : mv' = mv
    · subst e
      have := hn s'' ht
      omega
    · exact h6 mv' s'' (by omega) ht
theorem bB.take {g : zX} {T L : Nat → Nat} {s mv s' : Nat} {v : Int32} {fl : Nat} (h : bB g T L s mv v fl) (ht : pTi g T s mv s') (hl : L s' < fl) : bB g T L s (mv + 1) (nI mv) (L s') := by
  have hfl : fl ≤ 1000000 := by
    rcases h with ⟨h1, h2, h3⟩ | ⟨bm, bs, h1, h2, h3, h4, h5, h6, h7⟩ <;> omega
  have hall : ∀ mv' s'', mv' < mv → pTi g T s mv' s'' → L s' < L s'' := by
    intro mv' s'' hm ht'
    rcases h with ⟨h1, h2, h3⟩ | ⟨bm, bs, h1, h2, h3, h4, h5, h6, h7⟩
    · have := h3 mv' s'' hm ht'
      omega
    · have := h6 mv' s'' hm ht'
      omega
  refine Or.inr ⟨mv, s', rfl, rfl, by omega, ht, by omega, fun mv' s'' hm ht' => ?_, hall⟩
  by_cases e : mv' = mv
  · subst e
    have : s'' = s' := Option.some.inj (ht'.2.1.symm.trans ht.2.1)
    rw [this]
    exact Nat.le_refl _
  · exact Nat.le_of_lt (hall mv' s'' (by omega) ht')
theorem s_bestMove (d : Nat) {τ : zS} {c : zG} {b : Bool} {T L : Nat → Nat} (hc : gWf c) (h4 : 4 ≤ cM c) (hr : gSr τ c b) (h36 : ∀ s, s < 1024 → τ.1 36 s = nI (T s)) (hT : ∀ s, s < 1024 → T s ≤ 1000000) (h41 : ∀ s, s < 1024 → τ.1 41 s = nI (L s)) (hLe : ∀ s, s < 1024 → L s ≤ 1000000) {s : Nat} (hs : s < 1024) (hsp : s % 4 ≤ cN c) (hf : T s < 1000000) : z_Ex mX2_bestMove (d + 3) [.ref 31, .int (nI s)] τ (fun rv τ' => τ' = τ ∧ ∃ v fl, rv = some (.int v) ∧ bB (nGb c b) T L s 32 v fl) := by
  refine x_enter (by decide) (Nat.le_of_ble_eq_true rfl) ?_
  show z_At _ _ _ [.ref 31, .int (nI s), .null, .null, .null, .null, .null] _ _ _
  refine x_aload0 (pc2 := 1) dX2_bestMove_0 rfl ?_
  refine x_iload1 (pc2 := 2) dX2_bestMove_1 rfl ?_
  refine x_fV1 (pc2 := 5) eX2_thingsHere kX2_116 sh_31 rfl (Nat.le_of_ble_eq_true rfl) dX2_bestMove_2 rfl (s_here _ hc h4 hr hs) ?_
  refine x_istore2 (pc2 := 6) dX2_bestMove_5 rfl rfl ?_
  refine x_iconst (v := -1) (pc2 := 7) dX2_bestMove_6 rfl (by decide) ?_
  refine x_istore3 (pc2 := 8) dX2_bestMove_7 rfl rfl ?_
  refine x_ldc (pc2 := 10) (by decide +kernel : Cond.constant RX2 78 1000000 ∈ lw_tbl) dX2_bestMove_8 rfl ?_
  refine x_istore4 (pc2 := 12) dX2_bestMove_10 rfl rfl ?_
  refine x_iconst (v := 0) (pc2 := 13) dX2_bestMove_12 rfl (by decide) ?_
  refine x_istore5 (pc2 := 15) dX2_bestMove_13 rfl rfl ?_
  suffices hl : ∀ m mv, mv + m = 32 → ∀ (v : Int32) (fl : Nat) (o6 : Value), bB (nGb c b) T L s mv v fl → z_At mX2_bestMove (d + 3) 15 [.ref 31, .int (nI s), .int (nI (gHr c s)), .int v, .int (nI fl), .int (nI mv), o6] [] τ (fun rv τ' => τ' = τ ∧ ∃ v fl, rv = some (.int v) ∧ bB (nGb c b) T L s 32 v fl) from
    hl 32 0 rfl (-1) 1000000 _ (Or.inl ⟨rfl, rfl, fun mv' s'' hm => by omega⟩)
  intro m
  induction m with
  | zero =>
    intro mv hmv v fl o6 hb
    obtain rfl : mv = 32 := by omega
    refine x_iload5 (pc2 := 17) dX2_bestMove_15 rfl ?_
    refine x_bipush (v := 32) (pc2 := 19) dX2_bestMove_17 rfl (by decide) ?_
    refine x_icmp_ge (pc2 := 22) (pc3 := 80) dX2_bestMove_19 rfl rfl (fun h19 => ?_) (fun h19 => ?_)
    rotate_left
    · exact absurd (by decide) h19
    refine x_iload3 (pc2 := 81) dX2_bestMove_80 rfl ?_
    refine x_iret dX2_bestMove_81 rfl ?_
    exact ⟨rfl, v, fl, rfl, hb⟩
  | succ m ih =>
    intro mv hmv v fl o6 hb
    have hfl : fl ≤ 1000000 := by
      rcases hb with ⟨h1, h2, h3⟩ | ⟨bm, bs, h1, h2, h3, h4, h5, h6, h7⟩ <;> omega
    refine x_iload5 (pc2 := 17) dX2_bestMove_15 rfl ?_
    refine x_bipush (v := 32) (pc2 := 19) dX2_bestMove_17 rfl (by decide) ?_
    refine x_icmp_ge (pc2 := 22) (pc3 := 80) dX2_bestMove_19 rfl rfl (fun h19 => ?_) (fun h19 => ?_)
    · exact absurd ((nI_le_iff (a := 32) (by omega) (by omega)).mp h19) (by omega)
    refine x_aload0 (pc2 := 23) dX2_bestMove_22 rfl ?_
    refine x_iload1 (pc2 := 24) dX2_bestMove_23 rfl ?_
    refine x_iload2 (pc2 := 25) dX2_bestMove_24 rfl ?_
    refine x_iload5 (pc2 := 27) dX2_bestMove_25 rfl ?_
    refine x_fV3 (pc2 := 30) eX2_stateBehind kX2_119 sh_31 rfl (Nat.le_of_ble_eq_true rfl) dX2_bestMove_27 rfl (s_behind _ hc hr hs hsp (by omega)) ?_
    cases he : nX c s mv with
    | none =>
      show z_At _ _ _ _ [.int (-1)] _ _
      refine x_istore6 (pc2 := 32) dX2_bestMove_30 rfl rfl ?_
      refine x_iload6 (pc2 := 34) dX2_bestMove_32 rfl ?_
      refine x_iconst (v := -1) (pc2 := 35) dX2_bestMove_34 rfl (by decide) ?_
      refine x_icmp_eq (pc2 := 38) (pc3 := 74) dX2_bestMove_35 rfl rfl (fun h35 => ?_) (fun h35 => ?_)
      rotate_left
      · exact absurd rfl h35
      refine x_iinc5 (pc2 := 77) dX2_bestMove_74 rfl (z_inc1 _) rfl ?_
      refine x_goto (pc2 := 15) dX2_bestMove_77 rfl ?_
      rw [← nI_succ]
      refine ih (mv + 1) (by omega) v fl _ (hb.skip (fun s'' ht => ?_))
      have := ht.2.1
      rw [show (nGb c b).1 s mv = nX c s mv from rfl, he] at this
      cases this
    | some s' =>
      have hlt := nX_lt hc hs he
      have hL' := hLe s' hlt.1
      have heq : ∀ s'', pTi (nGb c b) T s mv s'' → s'' = s' := fun s'' ht => Option.some.inj (ht.2.1.symm.trans he)
      show z_At _ _ _ _ [.int (nI s')] _ _
      refine x_istore6 (pc2 := 32) dX2_bestMove_30 rfl rfl ?_
      refine x_iload6 (pc2 := 34) dX2_bestMove_32 rfl ?_
      refine x_iconst (v := -1) (pc2 := 35) dX2_bestMove_34 rfl (by decide) ?_
      refine x_icmp_eq (pc2 := 38) (pc3 := 74) dX2_bestMove_35 rfl rfl (fun h35 => ?_) (fun h35 => ?_)
      · exact absurd h35 (nI_m1ne (by omega))
      refine x_aload0 (pc2 := 39) dX2_bestMove_38 rfl ?_
      refine x_getR (pc2 := 42) fX2_40 sh_31 rfl dX2_bestMove_39 rfl ?_
      refine x_iload6 (pc2 := 44) dX2_bestMove_42 rfl ?_
      refine x_iald (pc2 := 45) sh_41 (by exact z_in (by omega)) dX2_bestMove_44 rfl ?_
      refine x_iload4 (pc2 := 47) dX2_bestMove_45 rfl ?_
      rw [nI_clamp (by omega), h41 s' hlt.1]
      refine x_icmp_ge (pc2 := 50) (pc3 := 74) dX2_bestMove_47 rfl rfl (fun h47 => ?_) (fun h47 => ?_)
      · rw [nI_le_iff (by omega) (by omega)] at h47
        refine x_iinc5 (pc2 := 77) dX2_bestMove_74 rfl (z_inc1 _) rfl ?_
        refine x_goto (pc2 := 15) dX2_bestMove_77 rfl ?_
        rw [← nI_succ]
        exact ih (mv + 1) (by omega) v fl _ (hb.skip (fun s'' ht => by rw [heq s'' ht]; exact h47))
      rw [nI_le_iff (by omega) (by omega)] at h47
      refine x_aload0 (pc2 := 51) dX2_bestMove_50 rfl ?_
      refine x_iload1 (pc2 := 52) dX2_bestMove_51 rfl ?_
      refine x_iload5 (pc2 := 54) dX2_bestMove_52 rfl ?_
      refine x_iload6 (pc2 := 56) dX2_bestMove_54 rfl ?_
      refine x_fV3 (pc2 := 59) eX2_isInTime kX2_139 sh_31 rfl (Nat.le_of_ble_eq_true rfl) dX2_bestMove_56 rfl (s_isInTime _ hc hr h36 hT hs (by omega) he hf) ?_
      refine x_if_eq (pc2 := 62) (pc3 := 74) dX2_bestMove_59 rfl rfl (fun h59 => ?_) (fun h59 => ?_)
      · rw [z_b0] at h59
        have h59 := of_decide_eq_false h59
        refine x_iinc5 (pc2 := 77) dX2_bestMove_74 rfl (z_inc1 _) rfl ?_
        refine x_goto (pc2 := 15) dX2_bestMove_77 rfl ?_
        rw [← nI_succ]
        refine ih (mv + 1) (by omega) v fl _ (hb.skip (fun s'' ht => ?_))
        have h3 := ht.2.2
        rw [heq s'' ht] at h3
        exact absurd h3 h59
      · rw [z_bn0] at h59
        have h59 := of_decide_eq_true h59
        refine x_iload5 (pc2 := 64) dX2_bestMove_62 rfl ?_
        refine x_istore3 (pc2 := 65) dX2_bestMove_64 rfl rfl ?_
        refine x_aload0 (pc2 := 66) dX2_bestMove_65 rfl ?_
        refine x_getR (pc2 := 69) fX2_40 sh_31 rfl dX2_bestMove_66 rfl ?_
        refine x_iload6 (pc2 := 71) dX2_bestMove_69 rfl ?_
        refine x_iald (pc2 := 72) sh_41 (by exact z_in (by omega)) dX2_bestMove_71 rfl ?_
        rw [nI_clamp (by omega), h41 s' hlt.1]
        refine x_istore4 (pc2 := 74) dX2_bestMove_72 rfl rfl ?_
        refine x_iinc5 (pc2 := 77) dX2_bestMove_74 rfl (z_inc1 _) rfl ?_
        refine x_goto (pc2 := 15) dX2_bestMove_77 rfl ?_
        rw [← nI_succ]
        exact ih (mv + 1) (by omega) (nI mv) (L s') _ (hb.take ⟨hf, he, h59⟩ (by omega))
