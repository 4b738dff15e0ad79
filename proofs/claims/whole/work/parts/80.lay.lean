/-! the model's loops: laySoonest, fewest -/
theorem z_b_or (a b : Bool) : z_b a ||| z_b b = z_b (a || b) := by cases a <;> cases b <;> rfl
theorem z_allN : ∀ K < 5, ((1 : Int32) <<< (nI K &&& 31)) - 1 = nI (2 ^ K - 1) := by decide +kernel
theorem nI4_up (s x : Nat) : nI4 s (16 + x) = nI (s % 4) + 1 := by unfold nI4; rw [if_neg (by omega)]
theorem nI4_dn {s x : Nat} (h : x < 16) : nI4 s x = nI (s % 4) - 1 := by unfold nI4; rw [if_pos h]
theorem pSt.keep {g : zX} {T T' : Nat → Nat} {s mv : Nat} {b : Bool} (h : pSt g T s mv b T') (hI : pI g T) (hf : T s < 1000000) : pI g T' ∧ T' s < 1000000 := by
  rcases h with ⟨-, rfl, -⟩ | ⟨-, a, -, e⟩
  · exact ⟨hI, hf⟩
  · exact ⟨a, e⟩
theorem z_fill_at (σ : zS) (a n : Nat) (v : Int32) {j : Nat} (h : j < n) : (z_fill σ a n v).1 a j = v := by simp [z_fill, z_up, h]
theorem z_fill_row (σ : zS) (a n : Nat) (v : Int32) {q : Nat} (h : q ≠ a) : (z_fill σ a n v).1 q = σ.1 q := by simp [z_fill, z_up, h]
theorem qM_T0 {r : Nat} {σ τ : zS} (h1 : ∀ q, q ≠ r → τ.1 q = σ.1 q) (h2 : τ.2 = σ.2) : qM r σ (z_st (z_fill τ r 1024 (-9)) r 0 0) pT0 := by
  refine ⟨fun q hq => ?_, h2, fun s hs => ?_⟩
  · rw [z_st_row _ _ _ hq, z_fill_row _ _ _ _ hq, h1 q hq]
  · by_cases e : s = 0
    · subst e; rw [z_st_at]; rfl
    · rw [z_st_fld _ _ _ e, z_fill_at _ _ _ _ hs]
      simp [pT0, e, eM]
theorem qM.tr {r : Nat} {σ τ υ : zS} {T : Nat → Nat} (h1 : ∀ q, q ≠ r → τ.1 q = σ.1 q) (h2 : τ.2 = σ.2) (h : qM r τ υ T) : qM r σ υ T := ⟨fun q hq => by rw [h.1 q hq, h1 q hq], by rw [h.2.1, h2], h.2.2⟩
theorem s_laySoonest_loop (d : Nat) {σ : zS} {c : zG} (hc : gWf c) (hM : gM σ c) {Q : Option Value → zS → Prop} (hend : ∀ τ T a b e, qM 58 σ τ T → pD (nG c) 1000000 T → z_At mX6_laySoonest (d + 4) 111 [.ref 43, a, b, e] [] τ Q) : ∀ n T τ, pS T 1024 < n → qM 58 σ τ T → pI (nG c) T → ∀ b e, z_At mX6_laySoonest (d + 4) 32 [.ref 43, .int 1, b, e] [] τ Q := by
  intro n
  induction n with
  | zero => intro T τ hn; omega
  | succ n ih =>
  intro T τ hn hq hI b e
  have hK := hc.1
  have h2K : 2 ^ cK c ≤ 16 := (Nat.pow_le_pow_right (by decide) hK : 2 ^ cK c ≤ 2 ^ 4)
  have h2K1 : 1 ≤ 2 ^ cK c := Nat.one_le_two_pow
  refine x_iload1 (pc2 := 33) dX6_laySoonest_32 rfl ?_
  refine x_if_eq (pc2 := 36) (pc3 := 111) dX6_laySoonest_33 rfl rfl (fun h33 => ?_) (fun h33 => ?_)
  · exact absurd h33 (by decide)
  suffices ho : ∀ m s, s + m = 1024 → ∀ more T1 τ1 e, qM 58 σ τ1 T1 → pPs (nG c) T T1 more s 0 → z_At mX6_laySoonest (d + 4) 40 [.ref 43, .int (z_b more), .int (nI s), e] [] τ1 Q by
    refine x_iconst (v := 0) (pc2 := 37) dX6_laySoonest_36 rfl (by decide) ?_
    refine x_istore1 (pc2 := 38) dX6_laySoonest_37 rfl rfl ?_
    refine x_iconst (v := 0) (pc2 := 39) dX6_laySoonest_38 rfl (by decide) ?_
    refine x_istore2 (pc2 := 40) dX6_laySoonest_39 rfl rfl ?_
    exact ho 1024 0 rfl false T τ e hq (pPs_0 hI)
  intro m
  induction m with
  | zero =>
    intro s hs more T1 τ1 e hq1 hp
    obtain rfl : s = 1024 := by omega
    refine x_iload2 (pc2 := 41) dX6_laySoonest_40 rfl ?_
    refine x_sipush (v := 1024) (pc2 := 44) dX6_laySoonest_41 rfl (by decide) ?_
    refine x_icmp_ge (pc2 := 47) (pc3 := 108) dX6_laySoonest_44 rfl rfl (fun h44 => ?_) (fun h44 => ?_)
    rotate_left
    · exact absurd (by decide) h44
    refine x_goto (pc2 := 32) dX6_laySoonest_108 rfl ?_
    cases more with
    | false =>
      refine x_iload1 (pc2 := 33) dX6_laySoonest_32 rfl ?_
      refine x_if_eq (pc2 := 36) (pc3 := 111) dX6_laySoonest_33 rfl rfl (fun h33 => ?_) (fun h33 => ?_)
      · exact hend _ _ _ _ _ hq1 (pPs_end hp)
      · exact absurd rfl h33
    | true =>
      have hp := pPs_more hp
      exact ih T1 τ1 (by omega) hq1 hp.1 _ _
  | succ m ihm =>
    intro s hs more T1 τ1 e hq1 hp
    refine x_iload2 (pc2 := 41) dX6_laySoonest_40 rfl ?_
    refine x_sipush (v := 1024) (pc2 := 44) dX6_laySoonest_41 rfl (by decide) ?_
    refine x_icmp_ge (pc2 := 47) (pc3 := 108) dX6_laySoonest_44 rfl rfl (fun h44 => ?_) (fun h44 => ?_)
    · exact absurd ((nI_le_iff (a := 1024) (by omega) (by omega)).mp h44) (by omega)
    refine x_iconst (v := 0) (pc2 := 48) dX6_laySoonest_47 rfl (by decide) ?_
    refine x_istore3 (pc2 := 49) dX6_laySoonest_48 rfl rfl ?_
    suffices hi : ∀ j x, x + j = 2 ^ cK c → ∀ more T1 τ1, qM 58 σ τ1 T1 → pPs (nG c) T T1 more s x → z_At mX6_laySoonest (d + 4) 49 [.ref 43, .int (z_b more), .int (nI s), .int (nI x)] [] τ1 Q from
      hi (2 ^ cK c) 0 (by omega) more T1 τ1 hq1 hp
    clear hp hq1 more T1 τ1 e
    intro j
    induction j with
    | zero =>
      intro x hx more T1 τ1 hq1 hp
      have hM1 : gM τ1 c := hM.q (T := T1) hq1.1 (by decide)
      refine x_iload3 (pc2 := 50) dX6_laySoonest_49 rfl ?_
      refine x_aload0 (pc2 := 51) dX6_laySoonest_50 rfl ?_
      refine x_fV0 (pc2 := 54) eX6_allThings kX6_149 sh_43 rfl (Nat.le_of_ble_eq_true rfl) dX6_laySoonest_51 rfl (s_allThings _ _) ?_
      rw [hM1.1.1, z_allN _ (by omega)]
      refine x_icmp_gt (pc2 := 57) (pc3 := 102) dX6_laySoonest_54 rfl rfl (fun h54 => ?_) (fun h54 => ?_)
      rotate_left
      · exact absurd ((nI_lt_iff (by omega) (by omega)).mpr (by omega)) h54
      refine x_iinc2 (pc2 := 105) dX6_laySoonest_102 rfl (z_inc1 _) rfl ?_
      refine x_goto (pc2 := 40) dX6_laySoonest_105 rfl ?_
      rw [← nI_succ]
      exact ihm (s + 1) (by omega) more T1 τ1 _ hq1 (pPs_next hp (Or.inr (fun mv _ h => nX_big hK (by omega))))
    | succ j ihj =>
      intro x hx more T1 τ1 hq1 hp
      have hM1 : gM τ1 c := hM.q (T := T1) hq1.1 (by decide)
      have hI1 := hp.1
      have hT1 := hI1.lt (show s < 1024 by omega)
      refine x_iload3 (pc2 := 50) dX6_laySoonest_49 rfl ?_
      refine x_aload0 (pc2 := 51) dX6_laySoonest_50 rfl ?_
      refine x_fV0 (pc2 := 54) eX6_allThings kX6_149 sh_43 rfl (Nat.le_of_ble_eq_true rfl) dX6_laySoonest_51 rfl (s_allThings _ _) ?_
      rw [hM1.1.1, z_allN _ (by omega)]
      refine x_icmp_gt (pc2 := 57) (pc3 := 102) dX6_laySoonest_54 rfl rfl (fun h54 => ?_) (fun h54 => ?_)
      · exact absurd ((nI_lt_iff (by omega) (by omega)).mp h54) (by omega)
      refine x_aload0 (pc2 := 58) dX6_laySoonest_57 rfl ?_
      refine x_getR (pc2 := 61) fX6_60 sh_43 rfl dX6_laySoonest_58 rfl ?_
      refine x_iload2 (pc2 := 62) dX6_laySoonest_61 rfl ?_
      refine x_iald (pc2 := 63) sh_58 (by exact z_in (by omega)) dX6_laySoonest_62 rfl ?_
      refine x_bipush (v := -9) (pc2 := 65) dX6_laySoonest_63 rfl (by decide) ?_
      rw [nI_clamp (by omega), hq1.2.2 s (by omega)]
      refine x_icmp_eq (pc2 := 68) (pc3 := 102) dX6_laySoonest_65 rfl rfl (fun h65 => ?_) (fun h65 => ?_)
      · rw [eM_9 (by omega)] at h65
        refine x_iinc2 (pc2 := 105) dX6_laySoonest_102 rfl (z_inc1 _) rfl ?_
        refine x_goto (pc2 := 40) dX6_laySoonest_105 rfl ?_
        rw [← nI_succ]
        exact ihm (s + 1) (by omega) more T1 τ1 _ hq1 (pPs_next hp (Or.inl h65))
      rw [eM_9 (by omega)] at h65
      have hf : T1 s < 1000000 := by omega
      refine x_iload1 (pc2 := 69) dX6_laySoonest_68 rfl ?_
      refine x_aload0 (pc2 := 70) dX6_laySoonest_69 rfl ?_
      refine x_iload2 (pc2 := 71) dX6_laySoonest_70 rfl ?_
      refine x_iload2 (pc2 := 72) dX6_laySoonest_71 rfl ?_
      refine x_iconst (v := 3) (pc2 := 73) dX6_laySoonest_72 rfl (by decide) ?_
      refine x_iand (pc2 := 74) dX6_laySoonest_73 rfl ?_
      rw [gb_spot s (by omega)]
      refine x_iconst (v := 1) (pc2 := 75) dX6_laySoonest_74 rfl (by decide) ?_
      refine x_iadd (pc2 := 76) dX6_laySoonest_75 rfl ?_
      refine x_iload3 (pc2 := 77) dX6_laySoonest_76 rfl ?_
      refine x_cV3 eX6_relax kX6_215 sh_43 rfl (Nat.le_of_ble_eq_true rfl) dX6_laySoonest_77 ?_
      have e1 := s_relax (d := d) (σ := σ) hc hM hq1 hI1 (s := s) (mv := 16 + x) (by omega) hf (by omega)
      rw [nI4_up, show (16 + x) % 16 = x by omega] at e1
      refine e1.mono ?_
      rintro rv τ2 ⟨b1, T2, rfl, hq2, hs2⟩
      show z_At _ _ 80 _ [.int (z_b b1), .int (z_b more)] _ _
      refine x_ior (pc2 := 81) dX6_laySoonest_80 rfl ?_
      rw [z_b_or]
      obtain ⟨hI2, hf2⟩ := hs2.keep hI1 hf
      refine x_istore1 (pc2 := 82) dX6_laySoonest_81 rfl rfl ?_
      refine x_iload1 (pc2 := 83) dX6_laySoonest_82 rfl ?_
      refine x_aload0 (pc2 := 84) dX6_laySoonest_83 rfl ?_
      refine x_iload2 (pc2 := 85) dX6_laySoonest_84 rfl ?_
      refine x_iload2 (pc2 := 86) dX6_laySoonest_85 rfl ?_
      refine x_iconst (v := 3) (pc2 := 87) dX6_laySoonest_86 rfl (by decide) ?_
      refine x_iand (pc2 := 88) dX6_laySoonest_87 rfl ?_
      rw [gb_spot s (by omega)]
      refine x_iconst (v := 1) (pc2 := 89) dX6_laySoonest_88 rfl (by decide) ?_
      refine x_isub (pc2 := 90) dX6_laySoonest_89 rfl ?_
      refine x_iload3 (pc2 := 91) dX6_laySoonest_90 rfl ?_
      refine x_cV3 eX6_relax kX6_215 sh_43 rfl (Nat.le_of_ble_eq_true rfl) dX6_laySoonest_91 ?_
      have e2 := s_relax (d := d) (σ := σ) hc hM hq2 hI2 (s := s) (mv := x) (by omega) hf2 (by omega)
      rw [nI4_dn (by omega), show x % 16 = x by omega] at e2
      refine e2.mono ?_
      rintro rv τ3 ⟨b2, T3, rfl, hq3, hs3⟩
      show z_At _ _ 94 _ [.int (z_b b2), .int (z_b (more || b1))] _ _
      refine x_ior (pc2 := 95) dX6_laySoonest_94 rfl ?_
      rw [z_b_or]
      refine x_istore1 (pc2 := 96) dX6_laySoonest_95 rfl rfl ?_
      refine x_iinc3 (pc2 := 99) dX6_laySoonest_96 rfl (z_inc1 _) rfl ?_
      refine x_goto (pc2 := 49) dX6_laySoonest_99 rfl ?_
      rw [← nI_succ]
      exact ihj (x + 1) (by omega) _ T3 τ3 hq3 (pPs_two (by omega) hp hs2 hs3)
theorem s_laySoonest_fill (d : Nat) {σ : zS} {c : zG} {Q : Option Value → zS → Prop} {b e : Value} (h : ∀ τ T, qM 58 σ τ T → pI (nG c) T → z_At mX6_laySoonest (d + 4) 32 [.ref 43, .int 1, b, e] [] τ Q) : z_At mX6_laySoonest (d + 4) 2 [.ref 43, .int (nI 0), b, e] [] σ Q := by
  suffices hl : ∀ m k, k + m = 1024 → z_At mX6_laySoonest (d + 4) 2 [.ref 43, .int (nI k), b, e] [] (z_fill σ 58 k (-9)) Q by
    have := hl 1024 0 rfl
    rw [z_fill_0] at this
    exact this
  intro m
  induction m with
  | zero =>
    intro k hk
    obtain rfl : k = 1024 := by omega
    refine x_iload1 (pc2 := 3) dX6_laySoonest_2 rfl ?_
    refine x_sipush (v := 1024) (pc2 := 6) dX6_laySoonest_3 rfl (by decide) ?_
    refine x_icmp_ge (pc2 := 9) (pc3 := 23) dX6_laySoonest_6 rfl rfl (fun h6 => ?_) (fun h6 => ?_)
    rotate_left
    · exact absurd (by decide) h6
    refine x_aload0 (pc2 := 24) dX6_laySoonest_23 rfl ?_
    refine x_getR (pc2 := 27) fX6_60 sh_43 rfl dX6_laySoonest_24 rfl ?_
    refine x_iconst (v := 0) (pc2 := 28) dX6_laySoonest_27 rfl (by decide) ?_
    refine x_iconst (v := 0) (pc2 := 29) dX6_laySoonest_28 rfl (by decide) ?_
    refine x_iast (pc2 := 30) sh_58 (by exact z_in (t := 0) (by omega)) dX6_laySoonest_29 rfl ?_
    refine x_iconst (v := 1) (pc2 := 31) dX6_laySoonest_30 rfl (by decide) ?_
    refine x_istore1 (pc2 := 32) dX6_laySoonest_31 rfl rfl ?_
    exact h _ pT0 (qM_T0 (fun _ _ => rfl) rfl) (pI_T0 _)
  | succ m ih =>
    intro k hk
    refine x_iload1 (pc2 := 3) dX6_laySoonest_2 rfl ?_
    refine x_sipush (v := 1024) (pc2 := 6) dX6_laySoonest_3 rfl (by decide) ?_
    refine x_icmp_ge (pc2 := 9) (pc3 := 23) dX6_laySoonest_6 rfl rfl (fun h6 => ?_) (fun h6 => ?_)
    · exact absurd ((nI_le_iff (a := 1024) (by omega) (by omega)).mp h6) (by omega)
    refine x_aload0 (pc2 := 10) dX6_laySoonest_9 rfl ?_
    refine x_getR (pc2 := 13) fX6_60 sh_43 rfl dX6_laySoonest_10 rfl ?_
    refine x_iload1 (pc2 := 14) dX6_laySoonest_13 rfl ?_
    refine x_bipush (v := -9) (pc2 := 16) dX6_laySoonest_14 rfl (by decide) ?_
    refine x_iast (pc2 := 17) sh_58 (by exact z_in (by omega)) dX6_laySoonest_16 rfl ?_
    refine x_iinc1 (pc2 := 20) dX6_laySoonest_17 rfl (z_inc1 _) rfl ?_
    refine x_goto (pc2 := 2) dX6_laySoonest_20 rfl ?_
    rw [← nI_succ, nI_clamp (by omega), z_fill_s]
    exact ih (k + 1) (by omega)
theorem s_fewest_loop (d : Nat) {σ : zS} {c : zG} (hc : gWf c) (hM : gM σ c) {Q : Option Value → zS → Prop} (hend : ∀ τ T a b e, qM 59 σ τ T → pD (nG1 c) 1000000 T → z_At mX6_fewest (d + 4) 121 [.ref 43, a, b, e] [] τ Q) : ∀ n T τ, pS T 1024 < n → qM 59 σ τ T → pI (nG1 c) T → ∀ b e, z_At mX6_fewest (d + 4) 42 [.ref 43, .int 1, b, e] [] τ Q := by
  intro n
  induction n with
  | zero => intro T τ hn; omega
  | succ n ih =>
  intro T τ hn hq hI b e
  have hK := hc.1
  have h2K : 2 ^ cK c ≤ 16 := (Nat.pow_le_pow_right (by decide) hK : 2 ^ cK c ≤ 2 ^ 4)
  have h2K1 : 1 ≤ 2 ^ cK c := Nat.one_le_two_pow
  refine x_iload1 (pc2 := 43) dX6_fewest_42 rfl ?_
  refine x_if_eq (pc2 := 46) (pc3 := 121) dX6_fewest_43 rfl rfl (fun h43 => ?_) (fun h43 => ?_)
  · exact absurd h43 (by decide)
  suffices ho : ∀ m s, s + m = 1024 → ∀ more T1 τ1 e, qM 59 σ τ1 T1 → pPs (nG1 c) T T1 more s 0 → z_At mX6_fewest (d + 4) 50 [.ref 43, .int (z_b more), .int (nI s), e] [] τ1 Q by
    refine x_iconst (v := 0) (pc2 := 47) dX6_fewest_46 rfl (by decide) ?_
    refine x_istore1 (pc2 := 48) dX6_fewest_47 rfl rfl ?_
    refine x_iconst (v := 0) (pc2 := 49) dX6_fewest_48 rfl (by decide) ?_
    refine x_istore2 (pc2 := 50) dX6_fewest_49 rfl rfl ?_
    exact ho 1024 0 rfl false T τ e hq (pPs_0 hI)
  intro m
  induction m with
  | zero =>
    intro s hs more T1 τ1 e hq1 hp
    obtain rfl : s = 1024 := by omega
    refine x_iload2 (pc2 := 51) dX6_fewest_50 rfl ?_
    refine x_sipush (v := 1024) (pc2 := 54) dX6_fewest_51 rfl (by decide) ?_
    refine x_icmp_ge (pc2 := 57) (pc3 := 118) dX6_fewest_54 rfl rfl (fun h54 => ?_) (fun h54 => ?_)
    rotate_left
    · exact absurd (by decide) h54
    refine x_goto (pc2 := 42) dX6_fewest_118 rfl ?_
    cases more with
    | false =>
      refine x_iload1 (pc2 := 43) dX6_fewest_42 rfl ?_
      refine x_if_eq (pc2 := 46) (pc3 := 121) dX6_fewest_43 rfl rfl (fun h43 => ?_) (fun h43 => ?_)
      · exact hend _ _ _ _ _ hq1 (pPs_end hp)
      · exact absurd rfl h43
    | true =>
      have hp := pPs_more hp
      exact ih T1 τ1 (by omega) hq1 hp.1 _ _
  | succ m ihm =>
    intro s hs more T1 τ1 e hq1 hp
    refine x_iload2 (pc2 := 51) dX6_fewest_50 rfl ?_
    refine x_sipush (v := 1024) (pc2 := 54) dX6_fewest_51 rfl (by decide) ?_
    refine x_icmp_ge (pc2 := 57) (pc3 := 118) dX6_fewest_54 rfl rfl (fun h54 => ?_) (fun h54 => ?_)
    · exact absurd ((nI_le_iff (a := 1024) (by omega) (by omega)).mp h54) (by omega)
    refine x_iconst (v := 0) (pc2 := 58) dX6_fewest_57 rfl (by decide) ?_
    refine x_istore3 (pc2 := 59) dX6_fewest_58 rfl rfl ?_
    suffices hi : ∀ j x, x + j = 2 ^ cK c → ∀ more T1 τ1, qM 59 σ τ1 T1 → pPs (nG1 c) T T1 more s x → z_At mX6_fewest (d + 4) 59 [.ref 43, .int (z_b more), .int (nI s), .int (nI x)] [] τ1 Q from
      hi (2 ^ cK c) 0 (by omega) more T1 τ1 hq1 hp
    clear hp hq1 more T1 τ1 e
    intro j
    induction j with
    | zero =>
      intro x hx more T1 τ1 hq1 hp
      have hM1 : gM τ1 c := hM.q (T := T1) hq1.1 (by decide)
      refine x_iload3 (pc2 := 60) dX6_fewest_59 rfl ?_
      refine x_aload0 (pc2 := 61) dX6_fewest_60 rfl ?_
      refine x_fV0 (pc2 := 64) eX6_allThings kX6_149 sh_43 rfl (Nat.le_of_ble_eq_true rfl) dX6_fewest_61 rfl (s_allThings _ _) ?_
      rw [hM1.1.1, z_allN _ (by omega)]
      refine x_icmp_gt (pc2 := 67) (pc3 := 112) dX6_fewest_64 rfl rfl (fun h64 => ?_) (fun h64 => ?_)
      rotate_left
      · exact absurd ((nI_lt_iff (by omega) (by omega)).mpr (by omega)) h64
      refine x_iinc2 (pc2 := 115) dX6_fewest_112 rfl (z_inc1 _) rfl ?_
      refine x_goto (pc2 := 50) dX6_fewest_115 rfl ?_
      rw [← nI_succ]
      exact ihm (s + 1) (by omega) more T1 τ1 _ hq1 (pPs_next hp (Or.inr (fun mv _ h => nX_big hK (by omega))))
    | succ j ihj =>
      intro x hx more T1 τ1 hq1 hp
      have hM1 : gM τ1 c := hM.q (T := T1) hq1.1 (by decide)
      have hI1 := hp.1
      have hT1 := hI1.lt (show s < 1024 by omega)
      refine x_iload3 (pc2 := 60) dX6_fewest_59 rfl ?_
      refine x_aload0 (pc2 := 61) dX6_fewest_60 rfl ?_
      refine x_fV0 (pc2 := 64) eX6_allThings kX6_149 sh_43 rfl (Nat.le_of_ble_eq_true rfl) dX6_fewest_61 rfl (s_allThings _ _) ?_
      rw [hM1.1.1, z_allN _ (by omega)]
      refine x_icmp_gt (pc2 := 67) (pc3 := 112) dX6_fewest_64 rfl rfl (fun h64 => ?_) (fun h64 => ?_)
      · exact absurd ((nI_lt_iff (by omega) (by omega)).mp h64) (by omega)
      refine x_aload0 (pc2 := 68) dX6_fewest_67 rfl ?_
      refine x_getR (pc2 := 71) fX6_63 sh_43 rfl dX6_fewest_68 rfl ?_
      refine x_iload2 (pc2 := 72) dX6_fewest_71 rfl ?_
      refine x_iald (pc2 := 73) sh_59 (by exact z_in (by omega)) dX6_fewest_72 rfl ?_
      refine x_bipush (v := -9) (pc2 := 75) dX6_fewest_73 rfl (by decide) ?_
      rw [nI_clamp (by omega), hq1.2.2 s (by omega)]
      refine x_icmp_eq (pc2 := 78) (pc3 := 112) dX6_fewest_75 rfl rfl (fun h75 => ?_) (fun h75 => ?_)
      · rw [eM_9 (by omega)] at h75
        refine x_iinc2 (pc2 := 115) dX6_fewest_112 rfl (z_inc1 _) rfl ?_
        refine x_goto (pc2 := 50) dX6_fewest_115 rfl ?_
        rw [← nI_succ]
        exact ihm (s + 1) (by omega) more T1 τ1 _ hq1 (pPs_next hp (Or.inl h75))
      rw [eM_9 (by omega)] at h75
      have hf : T1 s < 1000000 := by omega
      refine x_iload1 (pc2 := 79) dX6_fewest_78 rfl ?_
      refine x_aload0 (pc2 := 80) dX6_fewest_79 rfl ?_
      refine x_iload2 (pc2 := 81) dX6_fewest_80 rfl ?_
      refine x_iload2 (pc2 := 82) dX6_fewest_81 rfl ?_
      refine x_iconst (v := 3) (pc2 := 83) dX6_fewest_82 rfl (by decide) ?_
      refine x_iand (pc2 := 84) dX6_fewest_83 rfl ?_
      rw [gb_spot s (by omega)]
      refine x_iconst (v := 1) (pc2 := 85) dX6_fewest_84 rfl (by decide) ?_
      refine x_iadd (pc2 := 86) dX6_fewest_85 rfl ?_
      refine x_iload3 (pc2 := 87) dX6_fewest_86 rfl ?_
      refine x_cV3 eX6_spread kX6_249 sh_43 rfl (Nat.le_of_ble_eq_true rfl) dX6_fewest_87 ?_
      have e1 := s_spreadM (d := d) (σ := σ) hc hM hq1 hI1 (s := s) (mv := 16 + x) (by omega) hf (by omega)
      rw [nI4_up, show (16 + x) % 16 = x by omega] at e1
      refine e1.mono ?_
      rintro rv τ2 ⟨b1, T2, rfl, hq2, hs2⟩
      show z_At _ _ 90 _ [.int (z_b b1), .int (z_b more)] _ _
      refine x_ior (pc2 := 91) dX6_fewest_90 rfl ?_
      rw [z_b_or]
      obtain ⟨hI2, hf2⟩ := hs2.keep hI1 hf
      refine x_istore1 (pc2 := 92) dX6_fewest_91 rfl rfl ?_
      refine x_iload1 (pc2 := 93) dX6_fewest_92 rfl ?_
      refine x_aload0 (pc2 := 94) dX6_fewest_93 rfl ?_
      refine x_iload2 (pc2 := 95) dX6_fewest_94 rfl ?_
      refine x_iload2 (pc2 := 96) dX6_fewest_95 rfl ?_
      refine x_iconst (v := 3) (pc2 := 97) dX6_fewest_96 rfl (by decide) ?_
      refine x_iand (pc2 := 98) dX6_fewest_97 rfl ?_
      rw [gb_spot s (by omega)]
      refine x_iconst (v := 1) (pc2 := 99) dX6_fewest_98 rfl (by decide) ?_
      refine x_isub (pc2 := 100) dX6_fewest_99 rfl ?_
      refine x_iload3 (pc2 := 101) dX6_fewest_100 rfl ?_
      refine x_cV3 eX6_spread kX6_249 sh_43 rfl (Nat.le_of_ble_eq_true rfl) dX6_fewest_101 ?_
      have e2 := s_spreadM (d := d) (σ := σ) hc hM hq2 hI2 (s := s) (mv := x) (by omega) hf2 (by omega)
      rw [nI4_dn (by omega), show x % 16 = x by omega] at e2
      refine e2.mono ?_
      rintro rv τ3 ⟨b2, T3, rfl, hq3, hs3⟩
      show z_At _ _ 104 _ [.int (z_b b2), .int (z_b (more || b1))] _ _
      refine x_ior (pc2 := 105) dX6_fewest_104 rfl ?_
      rw [z_b_or]
      refine x_istore1 (pc2 := 106) dX6_fewest_105 rfl rfl ?_
      refine x_iinc3 (pc2 := 109) dX6_fewest_106 rfl (z_inc1 _) rfl ?_
      refine x_goto (pc2 := 59) dX6_fewest_109 rfl ?_
      rw [← nI_succ]
      exact ihj (x + 1) (by omega) _ T3 τ3 hq3 (pPs_two (by omega) hp hs2 hs3)
theorem s_fewest_fill (d : Nat) {σ : zS} {c : zG} {Q : Option Value → zS → Prop} {b e : Value} (h : ∀ τ T, qM 59 σ τ T → pI (nG1 c) T → z_At mX6_fewest (d + 4) 42 [.ref 43, .int 1, b, e] [] τ Q) : z_At mX6_fewest (d + 4) 12 [.ref 43, .int (nI 0), b, e] [] σ Q := by
  suffices hl : ∀ m k, k + m = 1024 → z_At mX6_fewest (d + 4) 12 [.ref 43, .int (nI k), b, e] [] (z_fill σ 59 k (-9)) Q by
    have := hl 1024 0 rfl
    rw [z_fill_0] at this
    exact this
  intro m
  induction m with
  | zero =>
    intro k hk
    obtain rfl : k = 1024 := by omega
    refine x_iload1 (pc2 := 13) dX6_fewest_12 rfl ?_
    refine x_sipush (v := 1024) (pc2 := 16) dX6_fewest_13 rfl (by decide) ?_
    refine x_icmp_ge (pc2 := 19) (pc3 := 33) dX6_fewest_16 rfl rfl (fun h16 => ?_) (fun h16 => ?_)
    rotate_left
    · exact absurd (by decide) h16
    refine x_aload0 (pc2 := 34) dX6_fewest_33 rfl ?_
    refine x_getR (pc2 := 37) fX6_63 sh_43 rfl dX6_fewest_34 rfl ?_
    refine x_iconst (v := 0) (pc2 := 38) dX6_fewest_37 rfl (by decide) ?_
    refine x_iconst (v := 0) (pc2 := 39) dX6_fewest_38 rfl (by decide) ?_
    refine x_iast (pc2 := 40) sh_59 (by exact z_in (t := 0) (by omega)) dX6_fewest_39 rfl ?_
    refine x_iconst (v := 1) (pc2 := 41) dX6_fewest_40 rfl (by decide) ?_
    refine x_istore1 (pc2 := 42) dX6_fewest_41 rfl rfl ?_
    exact h _ pT0 (qM_T0 (fun _ _ => rfl) rfl) (pI_T0 _)
  | succ m ih =>
    intro k hk
    refine x_iload1 (pc2 := 13) dX6_fewest_12 rfl ?_
    refine x_sipush (v := 1024) (pc2 := 16) dX6_fewest_13 rfl (by decide) ?_
    refine x_icmp_ge (pc2 := 19) (pc3 := 33) dX6_fewest_16 rfl rfl (fun h16 => ?_) (fun h16 => ?_)
    · exact absurd ((nI_le_iff (a := 1024) (by omega) (by omega)).mp h16) (by omega)
    refine x_aload0 (pc2 := 20) dX6_fewest_19 rfl ?_
    refine x_getR (pc2 := 23) fX6_63 sh_43 rfl dX6_fewest_20 rfl ?_
    refine x_iload1 (pc2 := 24) dX6_fewest_23 rfl ?_
    refine x_bipush (v := -9) (pc2 := 26) dX6_fewest_24 rfl (by decide) ?_
    refine x_iast (pc2 := 27) sh_59 (by exact z_in (by omega)) dX6_fewest_26 rfl ?_
    refine x_iinc1 (pc2 := 30) dX6_fewest_27 rfl (z_inc1 _) rfl ?_
    refine x_goto (pc2 := 12) dX6_fewest_30 rfl ?_
    rw [← nI_succ, nI_clamp (by omega), z_fill_s]
    exact ih (k + 1) (by omega)
theorem s_laySoonest (d : Nat) {σ τ : zS} {c : zG} (hc : gWf c) (hM : gM σ c) : z_Ex mX6_laySoonest (d + 4) [.ref 43] σ (fun rv τ => rv = none ∧ ∃ T, qM 58 σ τ T ∧ pD (nG c) 1000000 T) := by
  refine x_enter (by decide) (Nat.le_of_ble_eq_true rfl) ?_
  show z_At _ _ _ [.ref 43, .null, .null, .null] _ _ _
  refine x_iconst (v := 0) (pc2 := 1) dX6_laySoonest_0 rfl (by decide) ?_
  refine x_istore1 (pc2 := 2) dX6_laySoonest_1 rfl rfl ?_
  refine s_laySoonest_fill d (c := c) (fun τ1 T hq hI => ?_)
  refine s_laySoonest_loop d hc hM (fun τ T a b e hq hD => ?_) (pS T 1024 + 1) T τ1 (by omega) hq hI _ _
  refine x_vret dX6_laySoonest_111 rfl ?_
  exact ⟨rfl, T, hq, hD⟩
theorem s_soonestNow (d : Nat) {σ : zS} {c : zG} (hc : gWf c) (hM : gM σ c) : z_Ex mX6_soonestNow (d + 5) [.ref 43] σ (fun rv τ => ∃ T, rv = some (.int (eM (T (nE c)))) ∧ qM 58 σ τ T ∧ pD (nG c) 1000000 T) := by
  refine x_enter (by decide) (Nat.le_of_ble_eq_true rfl) ?_
  show z_At _ _ _ [.ref 43] _ _ _
  refine x_aload0 (pc2 := 1) dX6_soonestNow_0 rfl ?_
  refine x_cV0 eX6_laySoonest kX6_218 sh_43 rfl (Nat.le_of_ble_eq_true rfl) dX6_soonestNow_1 ?_
  refine (s_laySoonest d (τ := σ) hc hM).mono ?_
  rintro rv τ ⟨rfl, T, hq, hD⟩
  show z_At _ _ 4 _ [] _ _
  have hM' : gM τ c := hM.q (T := T) hq.1 (by decide)
  refine x_aload0 (pc2 := 5) dX6_soonestNow_4 rfl ?_
  refine x_getR (pc2 := 8) fX6_60 sh_43 rfl dX6_soonestNow_5 rfl ?_
  refine x_aload0 (pc2 := 9) dX6_soonestNow_8 rfl ?_
  refine x_fV0 (pc2 := 12) eX6_end kX6_221 sh_43 rfl (Nat.le_of_ble_eq_true rfl) dX6_soonestNow_9 rfl (s_end _ _ hM'.1.1 hc.1) ?_
  rw [hM'.1.2.1, hM'.1.2.2, z_en_nat hc.2.1.1 _ hc.1]
  have hE := nE_lt hc
  refine x_iald (pc2 := 13) sh_58 (by exact z_in hE) dX6_soonestNow_12 rfl ?_
  rw [nI_clamp (by show nE c < _; omega), show gE (cN c) (cM c) (cK c) = nE c from rfl, hq.2.2 _ hE]
  refine x_iret dX6_soonestNow_13 rfl ?_
  exact ⟨T, rfl, hq, hD⟩
theorem s_soonestM (d : Nat) {σ : zS} {c : zG} (hN : σ.1 43 6 = nI (cN c)) (hN3 : cN c ≤ 3) (hcM : 1 ≤ cN c → gWf c ∧ gM σ c) : z_Ex mX6_soonest (d + 6) [.ref 43] σ (fun rv τ => (cN c = 0 ∧ rv = some (.int (-3)) ∧ τ = σ) ∨ (1 ≤ cN c ∧ ∃ T, rv = some (.int (eM (T (nE c)))) ∧ qM 58 σ τ T ∧ pD (nG c) 1000000 T)) := by
  refine x_enter (by decide) (Nat.le_of_ble_eq_true rfl) ?_
  show z_At _ _ _ [.ref 43] _ _ _
  refine x_aload0 (pc2 := 1) dX6_soonest_0 rfl ?_
  refine x_getI (pc2 := 4) fX6_84 sh_43 rfl dX6_soonest_1 rfl ?_
  rw [hN]
  refine x_if_ne (pc2 := 7) (pc3 := 12) dX6_soonest_4 rfl rfl (fun h4 => ?_) (fun h4 => ?_)
  rotate_left
  · skip
    refine x_bipush (v := -3) (pc2 := 9) dX6_soonest_7 rfl (by decide) ?_
    refine x_goto (pc2 := 16) dX6_soonest_9 rfl ?_
    refine x_iret dX6_soonest_16 rfl ?_
    exact Or.inl ⟨nI_inj (b := 0) (by omega) (by decide) h4, rfl, rfl⟩
  have h1 : 1 ≤ cN c := by
    rcases Nat.eq_zero_or_pos (cN c) with e | e
    · rw [e] at h4; exact absurd rfl h4
    · exact e
  refine x_aload0 (pc2 := 13) dX6_soonest_12 rfl ?_
  refine x_cV0 eX6_soonestNow kX6_224 sh_43 rfl (Nat.le_of_ble_eq_true rfl) dX6_soonest_13 ?_
  refine (s_soonestNow d (hcM h1).1 (hcM h1).2).mono ?_
  rintro rv τ ⟨T, rfl, hq, hD⟩
  show z_At _ _ 16 _ [.int _] _ _
  refine x_iret dX6_soonest_16 rfl ?_
  exact Or.inr ⟨h1, T, rfl, hq, hD⟩
theorem s_fewestM (d : Nat) {σ : zS} {c : zG} (hN : σ.1 43 6 = nI (cN c)) (hN3 : cN c ≤ 3) (hcM : 1 ≤ cN c → gWf c ∧ gM σ c) : z_Ex mX6_fewest (d + 4) [.ref 43] σ (fun rv τ => (cN c = 0 ∧ rv = some (.int (-3)) ∧ τ = σ) ∨ (1 ≤ cN c ∧ ∃ T, rv = some (.int (eM (T (nE c)))) ∧ qM 59 σ τ T ∧ pD (nG1 c) 1000000 T)) := by
  refine x_enter (by decide) (Nat.le_of_ble_eq_true rfl) ?_
  show z_At _ _ _ [.ref 43, .null, .null, .null] _ _ _
  refine x_aload0 (pc2 := 1) dX6_fewest_0 rfl ?_
  refine x_getI (pc2 := 4) fX6_84 sh_43 rfl dX6_fewest_1 rfl ?_
  rw [hN]
  refine x_if_ne (pc2 := 7) (pc3 := 10) dX6_fewest_4 rfl rfl (fun h4 => ?_) (fun h4 => ?_)
  rotate_left
  · skip
    refine x_bipush (v := -3) (pc2 := 9) dX6_fewest_7 rfl (by decide) ?_
    refine x_iret dX6_fewest_9 rfl ?_
    exact Or.inl ⟨nI_inj (b := 0) (by omega) (by decide) h4, rfl, rfl⟩
  have h1 : 1 ≤ cN c := by
    rcases Nat.eq_zero_or_pos (cN c) with e | e
    · rw [e] at h4; exact absurd rfl h4
    · exact e
  refine x_iconst (v := 0) (pc2 := 11) dX6_fewest_10 rfl (by decide) ?_
  refine x_istore1 (pc2 := 12) dX6_fewest_11 rfl rfl ?_
  refine s_fewest_fill d (c := c) (fun τ1 T hq hI => ?_)
  refine s_fewest_loop d (hcM h1).1 (hcM h1).2 (fun τ T a b e hq hD => ?_) (pS T 1024 + 1) T τ1 (by omega) hq hI _ _
  have hc := (hcM h1).1
  have hM' : gM τ c := (hcM h1).2.q (T := T) hq.1 (by decide)
  refine x_aload0 (pc2 := 122) dX6_fewest_121 rfl ?_
  refine x_getR (pc2 := 125) fX6_63 sh_43 rfl dX6_fewest_122 rfl ?_
  refine x_aload0 (pc2 := 126) dX6_fewest_125 rfl ?_
  refine x_fV0 (pc2 := 129) eX6_end kX6_221 sh_43 rfl (Nat.le_of_ble_eq_true rfl) dX6_fewest_126 rfl (s_end _ _ hM'.1.1 (hcM h1).1.1) ?_
  rw [hM'.1.2.1, hM'.1.2.2, z_en_nat hc.2.1.1 _ hc.1]
  have hE := nE_lt hc
  refine x_iald (pc2 := 130) sh_59 (by exact z_in hE) dX6_fewest_129 rfl ?_
  rw [nI_clamp (by show nE c < _; omega), show gE (cN c) (cM c) (cK c) = nE c from rfl, hq.2.2 _ hE]
  refine x_iret dX6_fewest_130 rfl ?_
  exact Or.inr ⟨h1, T, rfl, hq, hD⟩
