/-! the class's search: layRow -/
theorem nV_to {s mv : Nat} (h : mv < 16 → s % 4 ≠ 0) : (if mv < 16 then nI (s % 4) + -1 else nI (s % 4 + 1)) = nI (nV s mv) := by
  unfold nV
  by_cases e : mv < 16
  · rw [if_pos e, if_pos e]
    exact (Int32.sub_eq_add_neg (a := nI (s % 4)) (b := 1)).symm.trans (Int32.ofNat_sub (a := s % 4) (b := 1) (by have := h e; omega)).symm
  · rw [if_neg e, if_neg e]
theorem gb_code : ∀ v < 4, ∀ x < 16, nI v * 16 + nI x = nI (v * 16 + x) := by decide +kernel
theorem s_layRow (d : Nat) {τ : zS} {c : zG} {b : Bool} {T : Nat → Nat} {now : Nat} {O : List Nat} (hc : gWf c) (h4 : 4 ≤ cM c) (hnow : now ≤ 29667) (hL : sL c b τ T now O []) (h36 : ∀ s, s < 1024 → τ.1 36 s = nI (T s)) (hT : ∀ s, s < 1024 → T s ≤ 1000000) (hE : T (nE c) = now) : z_Ex mX2_layRow (d + 5) [.ref 31, .ref 42] τ (fun rv τ' => (∀ q, q ≠ 41 → q ≠ 42 → τ'.1 q = τ.1 q) ∧ τ'.2 = τ.2 ∧ ∃ n L, rv = some (.int (nI n)) ∧ n ≤ 1024 ∧ pL (nGb c b) T (nE c) L ∧ (L 0 = 1000000 → n = 0) ∧ (L 0 < 1000000 → n = L 0 ∧ ∀ k, k < n → ∀ s0 mv s1, pQ (nGb c b) T L k s0 → pNx (nGb c b) T L s0 mv s1 → τ'.1 42 k = nI (nV s0 mv * 16 + mv % 16))) := by
  have hg := nGb_gr hc b
  have hElt := nE_lt hc
  have hOl : O.length ≤ 1024 := by
    have := nd_len hL.2.2.2.1 hL.2.2.2.2.2.1
    rw [List.append_nil] at this
    exact this
  refine x_enter (by decide) (Nat.le_of_ble_eq_true rfl) ?_
  show z_At _ _ _ [.ref 31, .ref 42, .null, .null, .null, .null] _ _ _
  refine x_aload0 (pc2 := 1) dX2_layRow_0 rfl ?_
  refine x_cV0 eX2_countTripsLeft kX2_133 sh_31 rfl (Nat.le_of_ble_eq_true rfl) dX2_layRow_1 ?_
  refine (s_countTripsLeft d hc h4 hnow hL h36 hT hE).mono ?_
  rintro rv τ1 ⟨rfl, g1, g2, L, g3, hcT⟩
  show z_At _ _ 4 _ [] _ _
  have hpL := cT_end hL hE hcT
  have hL0 := hcT.2.2 0 (by decide)
  have hLe : ∀ q, q < 1024 → L q ≤ 1000000 := fun q hq => (hpL q hq).2.2
  have hr1 : gSr τ1 c b := hL.1.of (fun j _ => by rw [g1 31 (by decide)]) (fun q _ _ => g1 q (by omega))
  have h361 : ∀ s, s < 1024 → τ1.1 36 s = nI (T s) := fun s hs => by rw [g1 36 (by decide)]; exact h36 s hs
  have hI := hL.2.1
  refine x_iconst (v := 0) (pc2 := 5) dX2_layRow_4 rfl (by decide) ?_
  refine x_istore2 (pc2 := 6) dX2_layRow_5 rfl rfl ?_
  refine x_iconst (v := 0) (pc2 := 7) dX2_layRow_6 rfl (by decide) ?_
  refine x_istore3 (pc2 := 8) dX2_layRow_7 rfl rfl ?_
  refine x_iconst (v := 0) (pc2 := 9) dX2_layRow_8 rfl (by decide) ?_
  refine x_istore4 (pc2 := 11) dX2_layRow_9 rfl rfl ?_
  suffices hl : ∀ m k, k + m = 1024 → ∀ (s : Nat) (τ2 : zS) (o5 : Value), (∀ q, q ≠ 42 → τ2.1 q = τ1.1 q) → τ2.2 = τ1.2 → pQ (nGb c b) T L k s → (L 0 < 1000000 ∨ k = 0) → (∀ j, j < k → ∀ s0 mv s1, pQ (nGb c b) T L j s0 → pNx (nGb c b) T L s0 mv s1 → τ2.1 42 j = nI (nV s0 mv * 16 + mv % 16)) → z_At mX2_layRow (d + 5) 11 [.ref 31, .ref 42, .int (nI s), .int (nI k), .int (nI k), o5] [] τ2 (fun rv τ' => (∀ q, q ≠ 41 → q ≠ 42 → τ'.1 q = τ.1 q) ∧ τ'.2 = τ.2 ∧ ∃ n L, rv = some (.int (nI n)) ∧ n ≤ 1024 ∧ pL (nGb c b) T (nE c) L ∧ (L 0 = 1000000 → n = 0) ∧ (L 0 < 1000000 → n = L 0 ∧ ∀ k, k < n → ∀ s0 mv s1, pQ (nGb c b) T L k s0 → pNx (nGb c b) T L s0 mv s1 → τ'.1 42 k = nI (nV s0 mv * 16 + mv % 16))) from
    hl 1024 0 rfl 0 τ1 _ (fun _ _ => rfl) rfl rfl (Or.inr rfl) (fun j hj => by omega)
  intro m
  induction m with
  | zero =>
    intro k hk s τ2 o5 k1 k2 hQ hor hrow
    exfalso
    have := pQ_L k s hQ
    omega
  | succ m ih =>
    intro k hk s τ2 o5 k1 k2 hQ hor hrow
    have hs := pQ_lt hg k s hQ
    have hLs := pQ_L k s hQ
    have hr2 : gSr τ2 c b := hr1.of (fun j _ => by rw [k1 31 (by decide)]) (fun q _ _ => k1 q (by omega))
    have h362 : ∀ s, s < 1024 → τ2.1 36 s = nI (T s) := fun s hs => by rw [k1 36 (by decide)]; exact h361 s hs
    have h412 : ∀ s, s < 1024 → τ2.1 41 s = nI (L s) := fun s hs => by rw [k1 41 (by decide)]; exact g3 s hs
    have hfr : (∀ q, q ≠ 41 → q ≠ 42 → τ2.1 q = τ.1 q) ∧ τ2.2 = τ.2 := ⟨fun q a b => by rw [k1 q b, g1 q a], by rw [k2, g2]⟩
    refine x_iload4 (pc2 := 13) dX2_layRow_11 rfl ?_
    refine x_aload1 (pc2 := 14) dX2_layRow_13 rfl ?_
    refine x_alen (pc2 := 15) sh_42 dX2_layRow_14 rfl ?_
    refine x_icmp_ge (pc2 := 18) (pc3 := 87) dX2_layRow_15 rfl rfl (fun h15 => ?_) (fun h15 => ?_)
    · exact absurd ((nI_le_iff (a := 1024) (by omega) (by omega)).mp h15) (by omega)
    refine x_iload2 (pc2 := 19) dX2_layRow_18 rfl ?_
    refine x_aload0 (pc2 := 20) dX2_layRow_19 rfl ?_
    refine x_getI (pc2 := 23) fX2_60 sh_31 rfl dX2_layRow_20 rfl ?_
    rw [hr2.1.2.2.1]
    refine x_icmp_eq (pc2 := 26) (pc3 := 87) dX2_layRow_23 rfl rfl (fun h23 => ?_) (fun h23 => ?_)
    · have he : s = nE c := nI_inj (by omega) (by omega) h23
      have hL0' : L s = 0 := by
        have := (hpL s hs).2.1 0 he
        omega
      refine x_iload3 (pc2 := 88) dX2_layRow_87 rfl ?_
      refine x_iret dX2_layRow_88 rfl ?_
      refine ⟨hfr.1, hfr.2, k, L, rfl, by omega, hpL, fun x => by omega, fun x => ⟨by omega, hrow⟩⟩
    have hne : s ≠ nE c := fun q => h23 (by rw [q])
    have hTs : T s < 1000000 := by
      rcases hor with x | x
      · have := pP_le _ _ ((hpL s hs).1 (by omega))
        omega
      · subst x
        rw [show s = 0 from hQ, hI.1]
        decide
    have hsp : s % 4 ≤ cN c := pI_spot hc hI.2.1 hs hTs
    refine x_iload2 (pc2 := 27) dX2_layRow_26 rfl ?_
    refine x_iconst (v := -1) (pc2 := 28) dX2_layRow_27 rfl (by decide) ?_
    refine x_icmp_eq (pc2 := 31) (pc3 := 87) dX2_layRow_28 rfl rfl (fun h28 => ?_) (fun h28 => ?_)
    · exact absurd h28 (nI_m1ne (by omega))
    refine x_aload0 (pc2 := 32) dX2_layRow_31 rfl ?_
    refine x_iload2 (pc2 := 33) dX2_layRow_32 rfl ?_
    refine x_cV1 eX2_bestMove kX2_136 sh_31 rfl (Nat.le_of_ble_eq_true rfl) dX2_layRow_33 ?_
    refine (s_bestMove (d + 1) hc h4 hr2 h362 hT h412 hLe hs hsp hTs).mono ?_
    rintro rv τ3 ⟨rfl, v, fl, rfl, hb⟩
    show z_At _ _ 36 _ [.int v] _ _
    rcases hb with ⟨rfl, -, hno⟩ | ⟨bm, bs, rfl, -, hbm, hbt, hbl, hbest, hfirst⟩
    · have hLF : L s = 1000000 := by
        rcases Nat.lt_or_ge (L s) 1000000 with x | x
        · exfalso
          have h1 : 1 ≤ L s := by
            rcases Nat.eq_zero_or_pos (L s) with y | y
            · have := (hpL s hs).1 x
              rw [y] at this
              exact absurd this hne
            · exact y
          obtain ⟨mv, s', hm, ht, hl⟩ := pNx_ex hg hpL hs x h1
          have := hno mv s' hm ht
          omega
        · have := hLe s hs; omega
      have hk0 : k = 0 := by
        rcases hor with x | x
        · omega
        · exact x
      subst hk0
      refine x_istore5 (pc2 := 38) dX2_layRow_36 rfl rfl ?_
      refine x_iload5 (pc2 := 40) dX2_layRow_38 rfl ?_
      refine x_iconst (v := -1) (pc2 := 41) dX2_layRow_40 rfl (by decide) ?_
      refine x_icmp_ne (pc2 := 44) (pc3 := 46) dX2_layRow_41 rfl rfl (fun h41 => ?_) (fun h41 => ?_)
      · exact absurd rfl h41
      refine x_iload3 (pc2 := 45) dX2_layRow_44 rfl ?_
      refine x_iret dX2_layRow_45 rfl ?_
      have hs0 : s = 0 := hQ
      subst hs0
      exact ⟨hfr.1, hfr.2, 0, L, rfl, by omega, hpL, fun _ => rfl, fun x => by omega⟩
    · have hlt := nX_lt hc hs hbt.2.1
      have hbs := hlt.1
      have hLs1 : L s ≤ L bs + 1 := (hpL s hs).2.1 (L bs + 1) ⟨bm, bs, hbm, hbt, (hpL bs hbs).1 hbl⟩
      have hLf : L s < 1000000 := by
        have := hcT.2.2 s hs
        have := hcT.2.2 bs hbs
        omega
      have hLpos : 1 ≤ L s := by
        rcases Nat.eq_zero_or_pos (L s) with y | y
        · have := (hpL s hs).1 hLf
          rw [y] at this
          exact absurd this hne
        · exact y
      have hLbs : L bs + 1 = L s := by
        obtain ⟨mv, s', hm, ht, hl⟩ := pNx_ex hg hpL hs hLf hLpos
        have := hbest mv s' hm ht
        omega
      have hNx : pNx (nGb c b) T L s bm bs := ⟨hbm, hbt, hLbs, fun mv' s'' hm ht => by have := hfirst mv' s'' hm ht; omega⟩
      have hv := gOk_v (nX_some hbt.2.1).2.1
      have hL0f : L 0 < 1000000 := by omega
      refine x_istore5 (pc2 := 38) dX2_layRow_36 rfl rfl ?_
      refine x_iload5 (pc2 := 40) dX2_layRow_38 rfl ?_
      refine x_iconst (v := -1) (pc2 := 41) dX2_layRow_40 rfl (by decide) ?_
      refine x_icmp_ne (pc2 := 44) (pc3 := 46) dX2_layRow_41 rfl rfl (fun h41 => ?_) (fun h41 => ?_)
      rotate_left
      · exact absurd h41 (nI_m1ne (by omega))
      refine x_aload1 (pc2 := 47) dX2_layRow_46 rfl ?_
      refine x_iload4 (pc2 := 49) dX2_layRow_47 rfl ?_
      refine x_iload2 (pc2 := 50) dX2_layRow_49 rfl ?_
      refine x_iload5 (pc2 := 52) dX2_layRow_50 rfl ?_
      refine x_fS2 (pc2 := 55) eX2_spotBehind kX2_126 (Nat.le_of_ble_eq_true rfl) dX2_layRow_52 rfl (s_spotBehind _ _ hs hbm) ?_
      rw [nV_to (fun q1 q2 => by unfold nV at hv; rw [if_pos q1] at hv; omega)]
      refine x_bipush (v := 16) (pc2 := 57) dX2_layRow_55 rfl (by decide) ?_
      refine x_imul (pc2 := 58) dX2_layRow_57 rfl ?_
      refine x_iload5 (pc2 := 60) dX2_layRow_58 rfl ?_
      refine x_bipush (v := 16) (pc2 := 62) dX2_layRow_60 rfl (by decide) ?_
      refine x_irem (pc2 := 63) dX2_layRow_62 rfl (by decide) ?_
      rw [gb_rem16 bm hbm]
      refine x_iadd (pc2 := 64) dX2_layRow_63 rfl ?_
      rw [gb_code _ hlt.2.2.1 _ (Nat.mod_lt _ (by decide))]
      refine x_iast (pc2 := 65) sh_42 (by exact z_in (by omega)) dX2_layRow_64 rfl ?_
      refine x_iinc3 (pc2 := 68) dX2_layRow_65 rfl (z_inc1 _) rfl ?_
      refine x_aload0 (pc2 := 69) dX2_layRow_68 rfl ?_
      refine x_iload2 (pc2 := 70) dX2_layRow_69 rfl ?_
      refine x_aload0 (pc2 := 71) dX2_layRow_70 rfl ?_
      refine x_iload2 (pc2 := 72) dX2_layRow_71 rfl ?_
      rw [nI_clamp (by omega)]
      have hr4 : gSr (z_st τ3 42 k (nI (nV s bm * 16 + bm % 16))) c b := hr2.of (fun j _ => by rw [z_st_row _ _ _ (by decide)]) (fun q _ _ => z_st_row _ _ _ (by omega))
      refine x_fV1 (pc2 := 75) eX2_thingsHere kX2_116 sh_31 rfl (Nat.le_of_ble_eq_true rfl) dX2_layRow_72 rfl (s_here _ hc h4 hr4 hs) ?_
      refine x_iload5 (pc2 := 77) dX2_layRow_75 rfl ?_
      refine x_fV3 (pc2 := 80) eX2_stateBehind kX2_119 sh_31 rfl (Nat.le_of_ble_eq_true rfl) dX2_layRow_77 rfl (s_behind _ hc hr4 hs hsp hbm) ?_
      rw [show nX c s bm = some bs from hbt.2.1]
      show z_At _ _ _ _ [.int (nI bs)] _ _
      refine x_istore2 (pc2 := 81) dX2_layRow_80 rfl rfl ?_
      refine x_iinc4 (pc2 := 84) dX2_layRow_81 rfl (z_inc1 _) rfl ?_
      refine x_goto (pc2 := 11) dX2_layRow_84 rfl ?_
      rw [← nI_succ]
      refine ih (k + 1) (by omega) bs _ _ (fun q hq => by rw [z_st_row _ _ _ hq, k1 q hq]) k2 ⟨s, bm, hQ, hNx⟩ (Or.inl hL0f) (fun j hj s0 mv s1 hQ0 hN0 => ?_)
      by_cases x : j = k
      · subst x
        have e1 := pQ_eq _ _ _ hQ0 hQ
        subst e1
        have e2 := (pNx_eq hN0 hNx).1
        subst e2
        rw [z_st_at]
      · rw [z_st_fld _ _ _ x]
        exact hrow j (by omega) s0 mv s1 hQ0 hN0
