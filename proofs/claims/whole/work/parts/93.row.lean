/-! the class's search: countTripsLeft, layRow -/
/-- what is known while trips left are counted, from the last settled one back to place n -/
def cT (g : zX) (T : Nat → Nat) (e : Nat) (O : List Nat) (n : Nat) (L : Nat → Nat) : Prop := (∀ k q, n ≤ k → O[k]? = some q → (L q < 1000000 → pP g T e (L q) q) ∧ (∀ m, pP g T e m q → L q ≤ m)) ∧ (∀ q, q < 1024 → (∀ k, n ≤ k → O[k]? ≠ some q) → L q = 1000000) ∧ (∀ q, q < 1024 → L q = 1000000 ∨ L q + n < O.length)
theorem cT_0 {g : zX} {T : Nat → Nat} {e : Nat} {O : List Nat} : cT g T e O O.length (fun _ => 1000000) := by
  refine ⟨fun k q hk hq => ?_, fun _ _ _ => rfl, fun _ _ => Or.inl rfl⟩
  rw [List.getElem?_eq_none hk] at hq
  cases hq
theorem nd_get {O : List Nat} (h : O.Nodup) {i j q : Nat} (hi : O[i]? = some q) (hj : O[j]? = some q) : i = j := by
  obtain ⟨a, b⟩ := List.getElem?_eq_some_iff.mp hi
  obtain ⟨a', b'⟩ := List.getElem?_eq_some_iff.mp hj
  exact (List.getElem_inj h).mp (b.trans b'.symm)
theorem pw_get {O : List Nat} {T : Nat → Nat} (h : O.Pairwise (fun x y => T x ≤ T y)) {i j p q : Nat} (hi : O[i]? = some p) (hj : O[j]? = some q) (hij : i < j) : T p ≤ T q := by
  obtain ⟨a, b⟩ := List.getElem?_eq_some_iff.mp hi
  obtain ⟨a', b'⟩ := List.getElem?_eq_some_iff.mp hj
  rw [← b, ← b']
  exact List.pairwise_iff_getElem.mp h i j a a' hij
theorem cT_step {c : zG} {b : Bool} {τ : zS} {T L : Nat → Nat} {now n s : Nat} {O : List Nat} (hc : gWf c) (hL : sL c b τ T now O []) (hE : T (nE c) = now) (hn : O[n]? = some s) (h : cT (nGb c b) T (nE c) O (n + 1) L) : (s = nE c → cT (nGb c b) T (nE c) O n (pU L s 0)) ∧ (s ≠ nE c → (∀ mv' s'', mv' < 32 → pTi (nGb c b) T s mv' s'' → 1000000 ≤ L s'') → cT (nGb c b) T (nE c) O n L) ∧ (s ≠ nE c → ∀ bm bs, bm < 32 → pTi (nGb c b) T s bm bs → L bs < 1000000 → (∀ mv' s'', mv' < 32 → pTi (nGb c b) T s mv' s'' → L bs ≤ L s'') → cT (nGb c b) T (nE c) O n (pU L s (L bs + 1))) := by
  obtain ⟨l1, l2, l3, l4, l5, l6, l7, l8, l9, l10⟩ := hL
  rw [List.append_nil] at l4 l5 l6
  obtain ⟨h1, h2, h3⟩ := h
  have hg := nGb_gr hc b
  have hsO : s ∈ O := List.mem_of_getElem? hn
  have hs := l6 s hsO
  have hnl := (List.getElem?_eq_some_iff.mp hn).1
  have hLs : L s = 1000000 := h2 s hs (fun k hk q => by have := nd_get l4 hn q; omega)
  -- where a tight move on the way to the end leads, trips are counted already
  have hnext : ∀ mv s' m, pTi (nGb c b) T s mv s' → pP (nGb c b) T (nE c) m s' → L s' ≤ m := by
    intro mv s' m ht hp
    have hs' := hg.1 s mv s' hs ht.2.1
    have hle := pP_le _ _ hp
    have htk := hg.2.1 s mv s' (T s) hs ht.2.1
    have hT := ht.2.2
    have hmem := (l5 s' hs').mpr (by omega)
    obtain ⟨k, hk⟩ := List.mem_iff_getElem?.mp hmem
    have hkn : n + 1 ≤ k := by
      rcases Nat.lt_trichotomy k n with x | x | x
      · have := pw_get l9 hk hn x
        omega
      · subst x
        have : s' = s := Option.some.inj (hk.symm.trans hn)
        subst this
        omega
      · omega
    exact (h1 k s' hkn hk).2 m hp
  refine ⟨fun he => ?_, fun hne hno => ?_, fun hne bm bs hbm hbt hbl hbest => ?_⟩
  · refine ⟨fun k q hk hq => ?_, fun q hq hno => ?_, fun q hq => ?_⟩
    · by_cases x : q = s
      · subst x
        rw [pU_at]
        exact ⟨fun _ => he, fun m _ => Nat.zero_le _⟩
      · rw [pU_ne L _ x]
        refine h1 k q ?_ hq
        rcases Nat.lt_or_ge n k with y | y
        · exact y
        · rw [show k = n by omega] at hq
          exact absurd (Option.some.inj (hq.symm.trans hn)) x
    · by_cases x : q = s
      · subst x; exact absurd hn (hno n (Nat.le_refl _))
      · rw [pU_ne L _ x]
        exact h2 q hq (fun k hk => hno k (by omega))
    · by_cases x : q = s
      · subst x; rw [pU_at]; omega
      · rw [pU_ne L _ x]
        have := h3 q hq
        omega
  · refine ⟨fun k q hk hq => ?_, fun q hq hno' => ?_, fun q hq => ?_⟩
    · by_cases x : q = s
      · subst x
        refine ⟨fun y => by omega, fun m hp => ?_⟩
        cases m with
        | zero => exact absurd hp hne
        | succ m =>
          obtain ⟨mv, s', hm, ht, hp⟩ := hp
          have a := hno mv s' hm ht
          have b := hnext mv s' m ht hp
          omega
      · refine h1 k q ?_ hq
        rcases Nat.lt_or_ge n k with y | y
        · exact y
        · rw [show k = n by omega] at hq
          exact absurd (Option.some.inj (hq.symm.trans hn)) x
    · exact h2 q hq (fun k hk => hno' k (by omega))
    · have := h3 q hq
      omega
  · have hbs := hg.1 s bm bs hs hbt.2.1
    have hbq : pP (nGb c b) T (nE c) (L bs) bs := by
      -- it is counted: else it were far
      by_cases x : ∃ k, n + 1 ≤ k ∧ O[k]? = some bs
      · obtain ⟨k, hk, hq⟩ := x
        exact (h1 k bs hk hq).1 hbl
      · have := h2 bs hbs (fun k hk q => x ⟨k, hk, q⟩)
        omega
    have hb3 := h3 bs hbs
    refine ⟨fun k q hk hq => ?_, fun q hq hno' => ?_, fun q hq => ?_⟩
    · by_cases x : q = s
      · subst x
        rw [pU_at]
        refine ⟨fun _ => ⟨bm, bs, hbm, hbt, hbq⟩, fun m hp => ?_⟩
        cases m with
        | zero => exact absurd hp hne
        | succ m =>
          obtain ⟨mv, s', hm, ht, hp⟩ := hp
          have a := hbest mv s' hm ht
          have b := hnext mv s' m ht hp
          omega
      · rw [pU_ne L _ x]
        refine h1 k q ?_ hq
        rcases Nat.lt_or_ge n k with y | y
        · exact y
        · rw [show k = n by omega] at hq
          exact absurd (Option.some.inj (hq.symm.trans hn)) x
    · by_cases x : q = s
      · subst x; exact absurd hn (hno' n (Nat.le_refl _))
      · rw [pU_ne L _ x]
        exact h2 q hq (fun k hk => hno' k (by omega))
    · by_cases x : q = s
      · subst x; rw [pU_at]; omega
      · rw [pU_ne L _ x]
        have := h3 q hq
        omega
theorem cT_end {c : zG} {b : Bool} {τ : zS} {T L : Nat → Nat} {now : Nat} {O : List Nat} (hL : sL c b τ T now O []) (hE : T (nE c) = now) (h : cT (nGb c b) T (nE c) O 0 L) : pL (nGb c b) T (nE c) L := by
  obtain ⟨l1, l2, l3, l4, l5, l6, l7, l8, l9, l10⟩ := hL
  rw [List.append_nil] at l4 l5 l6
  intro s hs
  have hle : L s ≤ 1000000 := by
    have := h.2.2 s hs
    have := nd_len l4 l6
    omega
  by_cases x : s ∈ O
  · obtain ⟨k, hk⟩ := List.mem_iff_getElem?.mp x
    have := h.1 k s (Nat.zero_le _) hk
    exact ⟨this.1, this.2, hle⟩
  · have hF := h.2.1 s hs (fun k _ q => x (List.mem_of_getElem? q))
    refine ⟨fun y => by omega, fun m hp => ?_, hle⟩
    have := pP_le _ _ hp
    exact absurd ((l5 s hs).mpr (by omega)) x
theorem s_countTripsLeft (d : Nat) {τ : zS} {c : zG} {b : Bool} {T : Nat → Nat} {now : Nat} {O : List Nat} (hc : gWf c) (h4 : 4 ≤ cM c) (hnow : now ≤ 29667) (hL : sL c b τ T now O []) (h36 : ∀ s, s < 1024 → τ.1 36 s = nI (T s)) (hT : ∀ s, s < 1024 → T s ≤ 1000000) (hE : T (nE c) = now) : z_Ex mX2_countTripsLeft (d + 4) [.ref 31] τ (fun rv τ' => rv = none ∧ (∀ q, q ≠ 41 → τ'.1 q = τ.1 q) ∧ τ'.2 = τ.2 ∧ ∃ L, (∀ s, s < 1024 → τ'.1 41 s = nI (L s)) ∧ cT (nGb c b) T (nE c) O 0 L) := by
  have hL' := hL
  obtain ⟨l1, l2, l3, l4, l5, l6, l7, l8, l9, l10⟩ := hL'
  rw [List.append_nil] at l4 l5 l6
  have hOl := nd_len l4 l6
  have hElt := nE_lt hc
  refine x_enter (by decide) (Nat.le_of_ble_eq_true rfl) ?_
  show z_At _ _ _ [.ref 31, .null, .null, .null, .null] _ _ _
  refine x_aload0 (pc2 := 1) dX2_countTripsLeft_0 rfl ?_
  refine x_getR (pc2 := 4) fX2_40 sh_31 rfl dX2_countTripsLeft_1 rfl ?_
  refine x_ldc (pc2 := 6) (by decide +kernel : Cond.constant RX2 78 1000000 ∈ lw_tbl) dX2_countTripsLeft_4 rfl ?_
  refine x_pS2 (pc2 := 9) eJ7_fill_53178 kX2_89 (Nat.le_of_ble_eq_true rfl) dX2_countTripsLeft_6 rfl (s_fill _ _ sh_41 (by decide) _) ?_
  refine x_aload0 (pc2 := 10) dX2_countTripsLeft_9 rfl ?_
  refine x_getI (pc2 := 13) fX2_86 sh_31 rfl dX2_countTripsLeft_10 rfl ?_
  rw [z_fill_row _ _ _ _ (by decide), l3.1]
  refine x_iconst (v := 1) (pc2 := 14) dX2_countTripsLeft_13 rfl (by decide) ?_
  refine x_isub (pc2 := 15) dX2_countTripsLeft_14 rfl ?_
  refine x_istore1 (pc2 := 16) dX2_countTripsLeft_15 rfl rfl ?_
  suffices hl : ∀ n, n ≤ O.length → ∀ (τ1 : zS) (L : Nat → Nat) (o2 o3 o4 : Value), (∀ q, q ≠ 41 → τ1.1 q = τ.1 q) → τ1.2 = τ.2 → (∀ s, s < 1024 → τ1.1 41 s = nI (L s)) → cT (nGb c b) T (nE c) O n L → z_At mX2_countTripsLeft (d + 4) 16 [.ref 31, .int (nI n - 1), o2, o3, o4] [] τ1 (fun rv τ' => rv = none ∧ (∀ q, q ≠ 41 → τ'.1 q = τ.1 q) ∧ τ'.2 = τ.2 ∧ ∃ L, (∀ s, s < 1024 → τ'.1 41 s = nI (L s)) ∧ cT (nGb c b) T (nE c) O 0 L) from
    hl O.length (Nat.le_refl _) _ (fun _ => 1000000) _ _ _ (fun q hq => z_fill_row _ _ _ _ hq) rfl (fun s hs => by rw [z_fill_at _ _ _ _ hs]; rfl) cT_0
  intro n
  induction n with
  | zero =>
    intro hn τ1 L o2 o3 o4 g1 g2 g3 hcT
    refine x_iload1 (pc2 := 17) dX2_countTripsLeft_16 rfl ?_
    refine x_if_lt (pc2 := 20) (pc3 := 101) dX2_countTripsLeft_17 rfl rfl (fun h17 => ?_) (fun h17 => ?_)
    rotate_left
    · exact absurd (by decide) h17
    refine x_vret dX2_countTripsLeft_101 rfl ?_
    exact ⟨rfl, g1, g2, L, g3, hcT⟩
  | succ n ih =>
    intro hn τ1 L o2 o3 o4 g1 g2 g3 hcT
    rw [nI_pred]
    obtain ⟨s, hns⟩ : ∃ s, O[n]? = some s := ⟨O[n], List.getElem?_eq_getElem (by omega)⟩
    have hsO : s ∈ O := List.mem_of_getElem? hns
    have hs := l6 s hsO
    have hTs := (l5 s hs).mp hsO
    have hsp : s % 4 ≤ cN c := pI_spot hc l2.2.1 hs (by omega)
    have hr1 : gSr τ1 c b := l1.of (fun j _ => by rw [g1 31 (by decide)]) (fun q _ _ => g1 q (by omega))
    have h361 : ∀ s, s < 1024 → τ1.1 36 s = nI (T s) := fun s hs => by rw [g1 36 (by decide)]; exact h36 s hs
    have hLe : ∀ q, q < 1024 → L q ≤ 1000000 := fun q hq => by have := hcT.2.2 q hq; omega
    obtain ⟨st1, st2, st3⟩ := cT_step hc hL hE hns hcT
    refine x_iload1 (pc2 := 17) dX2_countTripsLeft_16 rfl ?_
    refine x_if_lt (pc2 := 20) (pc3 := 101) dX2_countTripsLeft_17 rfl rfl (fun h17 => ?_) (fun h17 => ?_)
    · exact absurd h17 (nI_pos (by omega))
    refine x_aload0 (pc2 := 21) dX2_countTripsLeft_20 rfl ?_
    refine x_getR (pc2 := 24) fX2_28 sh_31 rfl dX2_countTripsLeft_21 rfl ?_
    refine x_iload1 (pc2 := 25) dX2_countTripsLeft_24 rfl ?_
    refine x_iald (pc2 := 26) sh_37 (by exact z_in (by omega)) dX2_countTripsLeft_25 rfl ?_
    rw [nI_clamp (by omega), g1 37 (by decide), l3.2 n s hns]
    refine x_istore2 (pc2 := 27) dX2_countTripsLeft_26 rfl rfl ?_
    refine x_aload0 (pc2 := 28) dX2_countTripsLeft_27 rfl ?_
    refine x_iload2 (pc2 := 29) dX2_countTripsLeft_28 rfl ?_
    refine x_cV1 eX2_bestMove kX2_136 sh_31 rfl (Nat.le_of_ble_eq_true rfl) dX2_countTripsLeft_29 ?_
    refine (s_bestMove d hc h4 hr1 h361 hT g3 hLe hs hsp (by omega)).mono ?_
    rintro rv τ2 ⟨rfl, v, fl, rfl, hb⟩
    show z_At _ _ 32 _ [.int v] _ _
    refine x_istore3 (pc2 := 33) dX2_countTripsLeft_32 rfl rfl ?_
    refine x_iload2 (pc2 := 34) dX2_countTripsLeft_33 rfl ?_
    refine x_aload0 (pc2 := 35) dX2_countTripsLeft_34 rfl ?_
    refine x_getI (pc2 := 38) fX2_60 sh_31 rfl dX2_countTripsLeft_35 rfl ?_
    rw [hr1.1.2.2.1]
    have hdec : nI n + -1 = nI n - 1 := (Int32.sub_eq_add_neg (a := nI n) (b := 1)).symm
    have hnx : ∀ (τ3 : zS) (L3 : Nat → Nat) (o4 : Value), (∀ q, q ≠ 41 → τ3.1 q = τ.1 q) → τ3.2 = τ.2 → (∀ s, s < 1024 → τ3.1 41 s = nI (L3 s)) → cT (nGb c b) T (nE c) O n L3 → z_At mX2_countTripsLeft (d + 4) 95 [.ref 31, .int (nI n), .int (nI s), .int v, o4] [] τ3 (fun rv τ' => rv = none ∧ (∀ q, q ≠ 41 → τ'.1 q = τ.1 q) ∧ τ'.2 = τ.2 ∧ ∃ L, (∀ s, s < 1024 → τ'.1 41 s = nI (L s)) ∧ cT (nGb c b) T (nE c) O 0 L) := by
      intro τ3 L3 o4 k1 k2 k3 k4
      refine x_iinc1 (pc2 := 98) dX2_countTripsLeft_95 rfl (z_incm1 _) rfl ?_
      refine x_goto (pc2 := 16) dX2_countTripsLeft_98 rfl ?_
      rw [hdec]
      exact ih (by omega) τ3 L3 _ _ _ k1 k2 k3 k4
    have hset : ∀ w : Nat, ∀ q, q < 1024 → (z_st τ2 41 s (nI w)).1 41 q = nI (pU L s w q) := fun w q hq => by
      by_cases x : q = s
      · subst x; rw [z_st_at, pU_at]
      · rw [z_st_fld _ _ _ x, pU_ne L _ x]; exact g3 q hq
    refine x_icmp_ne (pc2 := 41) (pc3 := 51) dX2_countTripsLeft_38 rfl rfl (fun h38 => ?_) (fun h38 => ?_)
    · have hne : s ≠ nE c := fun q => h38 (by rw [q])
      rcases hb with ⟨rfl, -, hno⟩ | ⟨bm, bs, rfl, -, hbm, hbt, hbl, hbest, -⟩
      · skip
        refine x_iload3 (pc2 := 52) dX2_countTripsLeft_51 rfl ?_
        refine x_iconst (v := -1) (pc2 := 53) dX2_countTripsLeft_52 rfl (by decide) ?_
        refine x_icmp_eq (pc2 := 56) (pc3 := 95) dX2_countTripsLeft_53 rfl rfl (fun h53 => ?_) (fun h53 => ?_)
        rotate_left
        · exact absurd rfl h53
        exact hnx τ2 L _ g1 g2 g3 (st2 hne hno)
      · have hlt := nX_lt hc hs hbt.2.1
        refine x_iload3 (pc2 := 52) dX2_countTripsLeft_51 rfl ?_
        refine x_iconst (v := -1) (pc2 := 53) dX2_countTripsLeft_52 rfl (by decide) ?_
        refine x_icmp_eq (pc2 := 56) (pc3 := 95) dX2_countTripsLeft_53 rfl rfl (fun h53 => ?_) (fun h53 => ?_)
        · exact absurd h53 (nI_m1ne (by omega))
        refine x_aload0 (pc2 := 57) dX2_countTripsLeft_56 rfl ?_
        refine x_iload2 (pc2 := 58) dX2_countTripsLeft_57 rfl ?_
        refine x_aload0 (pc2 := 59) dX2_countTripsLeft_58 rfl ?_
        refine x_iload2 (pc2 := 60) dX2_countTripsLeft_59 rfl ?_
        refine x_fV1 (pc2 := 63) eX2_thingsHere kX2_116 sh_31 rfl (Nat.le_of_ble_eq_true rfl) dX2_countTripsLeft_60 rfl (s_here _ hc h4 hr1 hs) ?_
        refine x_iload3 (pc2 := 64) dX2_countTripsLeft_63 rfl ?_
        refine x_fV3 (pc2 := 67) eX2_stateBehind kX2_119 sh_31 rfl (Nat.le_of_ble_eq_true rfl) dX2_countTripsLeft_64 rfl (s_behind _ hc hr1 hs hsp hbm) ?_
        rw [show nX c s bm = some bs from hbt.2.1]
        show z_At _ _ _ _ [.int (nI bs)] _ _
        refine x_istore4 (pc2 := 69) dX2_countTripsLeft_67 rfl rfl ?_
        refine x_aload0 (pc2 := 70) dX2_countTripsLeft_69 rfl ?_
        refine x_getR (pc2 := 73) fX2_40 sh_31 rfl dX2_countTripsLeft_70 rfl ?_
        refine x_iload2 (pc2 := 74) dX2_countTripsLeft_73 rfl ?_
        refine x_iload4 (pc2 := 76) dX2_countTripsLeft_74 rfl ?_
        refine x_iconst (v := -1) (pc2 := 77) dX2_countTripsLeft_76 rfl (by decide) ?_
        refine x_icmp_ne (pc2 := 80) (pc3 := 85) dX2_countTripsLeft_77 rfl rfl (fun h77 => ?_) (fun h77 => ?_)
        rotate_left
        · exact absurd h77 (nI_m1ne (by omega))
        refine x_aload0 (pc2 := 86) dX2_countTripsLeft_85 rfl ?_
        refine x_getR (pc2 := 89) fX2_40 sh_31 rfl dX2_countTripsLeft_86 rfl ?_
        refine x_iload4 (pc2 := 91) dX2_countTripsLeft_89 rfl ?_
        refine x_iald (pc2 := 92) sh_41 (by exact z_in (by omega)) dX2_countTripsLeft_91 rfl ?_
        rw [nI_clamp (by omega), g3 bs hlt.1]
        refine x_iconst (v := 1) (pc2 := 93) dX2_countTripsLeft_92 rfl (by decide) ?_
        refine x_iadd (pc2 := 94) dX2_countTripsLeft_93 rfl ?_
        rw [← nI_succ]
        refine x_iast (pc2 := 95) sh_41 (by exact z_in hs) dX2_countTripsLeft_94 rfl ?_
        rw [nI_clamp (by omega)]
        exact hnx _ (pU L s (L bs + 1)) _ (fun q hq => by rw [z_st_row _ _ _ hq]; exact g1 q hq) g2 (hset _) (st3 hne bm bs hbm hbt hbl hbest)
    · have he : s = nE c := nI_inj (by omega) (by omega) h38
      refine x_aload0 (pc2 := 42) dX2_countTripsLeft_41 rfl ?_
      refine x_getR (pc2 := 45) fX2_40 sh_31 rfl dX2_countTripsLeft_42 rfl ?_
      refine x_iload2 (pc2 := 46) dX2_countTripsLeft_45 rfl ?_
      refine x_iconst (v := 0) (pc2 := 47) dX2_countTripsLeft_46 rfl (by decide) ?_
      refine x_iast (pc2 := 48) sh_41 (by exact z_in hs) dX2_countTripsLeft_47 rfl ?_
      refine x_goto (pc2 := 95) dX2_countTripsLeft_48 rfl ?_
      rw [nI_clamp (by omega)]
      exact hnx _ (pU L s 0) _ (fun q hq => by rw [z_st_row _ _ _ hq]; exact g1 q hq) g2 (hset 0) (st1 he)
