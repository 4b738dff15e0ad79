/-! shares in least terms -/
def gF : Nat → Nat
  | 0 => 1
  | 1 => 2
  | n + 2 => gF (n + 1) + gF n
def gFp : Nat → Nat × Nat
  | 0 => (1, 2)
  | n + 1 => ((gFp n).2, (gFp n).2 + (gFp n).1)
theorem gFp_eq : ∀ n, gFp n = (gF n, gF (n + 1))
  | 0 => rfl
  | n + 1 => by rw [gFp, gFp_eq n]; rfl
theorem gF88 : 10 ^ 18 < gF 88 := by
  have h : 10 ^ 18 < (gFp 88).1 := by decide +kernel
  rw [gFp_eq] at h
  exact h
theorem lN_inj {a b : Nat} (ha : a < 2 ^ 63) (hb : b < 2 ^ 63) (h : lN a = lN b) : a = b := by
  have := congrArg Int64.toInt h
  rw [pk_lT ha, pk_lT hb] at this
  omega
theorem z_stL_id {σ : zS} {r j : Nat} {v : Int64} (h : σ.2 r j = v) : z_stL σ r j v = σ := by
  unfold z_stL z_upL vp_updL
  refine Prod.ext rfl ?_
  funext q
  by_cases hq : q = r
  · subst hq
    simp only [if_true]
    funext k
    by_cases hk : k = j
    · subst hk; simp [h]
    · simp [hk]
  · simp [hq]
theorem s_cutShare (d : Nat) {σ : zS} {U L : Nat} (hU : σ.2 26 7 = lN U) (hL : σ.2 26 8 = lN L) (h1 : 1 ≤ U) (h2 : U ≤ L) (h3 : L ≤ 10 ^ 18) : z_Pr mX4_cutShare d [.ref 26] σ (z_stL (z_stL σ 26 7 (lN (U / Nat.gcd L U))) 26 8 (lN (L / Nat.gcd L U))) := by
  refine x_enter (by decide) (Nat.le_of_ble_eq_true rfl) ?_
  show z_At _ _ _ [.ref 26, .null, .null, .null, .null, .null, .null, .null] _ _ _
  refine x_aload0 (pc2 := 1) dX4_cutShare_0 rfl ?_
  refine x_getL (pc2 := 4) fX4_32 sh_26 rfl dX4_cutShare_1 rfl ?_
  refine x_lstore1 (pc2 := 5) dX4_cutShare_4 rfl rfl ?_
  refine x_aload0 (pc2 := 6) dX4_cutShare_5 rfl ?_
  refine x_getL (pc2 := 9) fX4_28 sh_26 rfl dX4_cutShare_6 rfl ?_
  refine x_lstore3 (pc2 := 10) dX4_cutShare_9 rfl rfl ?_
  refine x_iconst (v := 0) (pc2 := 11) dX4_cutShare_10 rfl (by decide) ?_
  refine x_istore5 (pc2 := 13) dX4_cutShare_11 rfl rfl ?_
  rw [hU, hL]
  suffices h : ∀ n, (∀ g a b, Nat.gcd a b = Nat.gcd L U → a ≤ 10 ^ 18 → b ≤ 10 ^ 18 → b < gF n → g + n ≤ 100 → ∀ o : Value, z_At mX4_cutShare d 13 [.ref 26, .long (lN a), .null, .long (lN b), .null, .int (nI g), o, .null] [] σ (fun rv σ' => rv = none ∧ σ' = z_stL (z_stL σ 26 7 (lN (U / Nat.gcd L U))) 26 8 (lN (L / Nat.gcd L U)))) ∧ (∀ g a b, Nat.gcd a b = Nat.gcd L U → a ≤ 10 ^ 18 → b ≤ 10 ^ 18 → b < gF (n + 1) → g + (n + 1) ≤ 100 → ∀ o : Value, z_At mX4_cutShare d 13 [.ref 26, .long (lN a), .null, .long (lN b), .null, .int (nI g), o, .null] [] σ (fun rv σ' => rv = none ∧ σ' = z_stL (z_stL σ 26 7 (lN (U / Nat.gcd L U))) 26 8 (lN (L / Nat.gcd L U)))) from (h 88).1 0 L U rfl h3 (by omega) (by have := gF88; omega) (by omega) _
  have hgp : 1 ≤ Nat.gcd L U := Nat.gcd_pos_of_pos_right _ (by omega)
  have done : ∀ g a b, Nat.gcd a b = Nat.gcd L U → b = 0 → a ≤ 10 ^ 18 → ∀ o : Value, z_At mX4_cutShare d 42 [.ref 26, .long (lN a), .null, .long (lN b), .null, .int (nI g), o, .null] [] σ (fun rv σ' => rv = none ∧ σ' = z_stL (z_stL σ 26 7 (lN (U / Nat.gcd L U))) 26 8 (lN (L / Nat.gcd L U))) := by
    intro g a b hg hb ha o
    subst hb
    rw [Nat.gcd_zero_right] at hg
    rw [← hg] at hgp ⊢
    have hb0 : ¬ lN a = 0 := fun q => by
      have := lN_inj (a := a) (b := 0) (by omega) (by decide) q
      omega
    refine x_lload1 (pc2 := 43) dX4_cutShare_42 rfl ?_
    refine x_lconst (v := 1) (pc2 := 44) dX4_cutShare_43 rfl (by decide) ?_
    refine x_lcmp (pc2 := 45) dX4_cutShare_44 rfl ?_
    refine x_if_le (pc2 := 48) (pc3 := 68) dX4_cutShare_45 rfl rfl (fun h45 => ?_) (fun h45 => ?_)
    · rw [lg_cmp_le, Int64.le_iff_toInt_le, pk_lT (by omega)] at h45
      have h45 : (a : Int) ≤ 1 := h45
      obtain e : a = 1 := by omega
      refine x_vret dX4_cutShare_68 rfl ?_
      rw [e, Nat.div_one, Nat.div_one]
      refine ⟨rfl, ?_⟩
      rw [z_stL_id hU, z_stL_id hL]
    · skip
      refine x_aload0 (pc2 := 49) dX4_cutShare_48 rfl ?_
      refine x_dup (pc2 := 50) dX4_cutShare_49 rfl rfl ?_
      refine x_getL (pc2 := 53) fX4_28 sh_26 rfl dX4_cutShare_50 rfl ?_
      refine x_lload1 (pc2 := 54) dX4_cutShare_53 rfl ?_
      refine x_ldiv (pc2 := 55) dX4_cutShare_54 rfl (by exact hb0) ?_
      refine x_putL (pc2 := 58) pX4_28 sh_26 rfl dX4_cutShare_55 rfl ?_
      refine x_aload0 (pc2 := 59) dX4_cutShare_58 rfl ?_
      refine x_dup (pc2 := 60) dX4_cutShare_59 rfl rfl ?_
      refine x_getL (pc2 := 63) fX4_32 sh_26 rfl dX4_cutShare_60 rfl ?_
      refine x_lload1 (pc2 := 64) dX4_cutShare_63 rfl ?_
      refine x_ldiv (pc2 := 65) dX4_cutShare_64 rfl (by exact hb0) ?_
      refine x_putL (pc2 := 68) pX4_32 sh_26 rfl dX4_cutShare_65 rfl ?_
      refine x_vret dX4_cutShare_68 rfl ?_
      refine ⟨rfl, ?_⟩
      rw [hU, pk_lDiv (by omega) (by omega) (by omega)]
      rw [show (z_stL σ 26 7 (lN (U / a))).2 26 8 = σ.2 26 8 from rfl, hL, pk_lDiv (by omega) (by omega) (by omega)]
  have step : ∀ g a b, g < 100 → b ≠ 0 → a ≤ 10 ^ 18 → b ≤ 10 ^ 18 → ∀ o : Value, (∀ o : Value, z_At mX4_cutShare d 13 [.ref 26, .long (lN b), .null, .long (lN (a % b)), .null, .int (nI (g + 1)), o, .null] [] σ (fun rv σ' => rv = none ∧ σ' = z_stL (z_stL σ 26 7 (lN (U / Nat.gcd L U))) 26 8 (lN (L / Nat.gcd L U)))) → z_At mX4_cutShare d 13 [.ref 26, .long (lN a), .null, .long (lN b), .null, .int (nI g), o, .null] [] σ (fun rv σ' => rv = none ∧ σ' = z_stL (z_stL σ 26 7 (lN (U / Nat.gcd L U))) 26 8 (lN (L / Nat.gcd L U))) := by
    intro g a b hg hb ha hb2 o hn
    have hb0 : ¬ lN b = 0 := fun q => hb (lN_inj (a := b) (b := 0) (by omega) (by decide) q)
    refine x_iload5 (pc2 := 15) dX4_cutShare_13 rfl ?_
    refine x_bipush (v := 100) (pc2 := 17) dX4_cutShare_15 rfl (by decide) ?_
    refine x_icmp_ge (pc2 := 20) (pc3 := 42) dX4_cutShare_17 rfl rfl (fun h17 => ?_) (fun h17 => ?_)
    · exact absurd h17 (nI_ge (a := g) (b := 100) hg (by decide))
    · skip
      refine x_lload3 (pc2 := 21) dX4_cutShare_20 rfl ?_
      refine x_lconst (v := 0) (pc2 := 22) dX4_cutShare_21 rfl (by decide) ?_
      refine x_lcmp (pc2 := 23) dX4_cutShare_22 rfl ?_
      refine x_if_eq (pc2 := 26) (pc3 := 42) dX4_cutShare_23 rfl rfl (fun h23 => ?_) (fun h23 => ?_)
      · rw [lg_cmp_eq] at h23
        exact absurd h23 hb0
      · skip
        refine x_lload1 (pc2 := 27) dX4_cutShare_26 rfl ?_
        refine x_lload3 (pc2 := 28) dX4_cutShare_27 rfl ?_
        refine x_lrem (pc2 := 29) dX4_cutShare_28 rfl (by exact hb0) ?_
        refine x_lstore6 (pc2 := 31) dX4_cutShare_29 rfl rfl ?_
        refine x_lload3 (pc2 := 32) dX4_cutShare_31 rfl ?_
        refine x_lstore1 (pc2 := 33) dX4_cutShare_32 rfl rfl ?_
        refine x_lload6 (pc2 := 35) dX4_cutShare_33 rfl ?_
        refine x_lstore3 (pc2 := 36) dX4_cutShare_35 rfl rfl ?_
        refine x_iinc5 (pc2 := 39) dX4_cutShare_36 rfl (z_inc1 _) rfl ?_
        refine x_goto (pc2 := 13) dX4_cutShare_39 rfl ?_
        rw [← nI_succ, pk_lRem (by omega) (by omega) (by omega)]
        exact hn _
  have stop : ∀ g a b, Nat.gcd a b = Nat.gcd L U → b = 0 → a ≤ 10 ^ 18 → g ≤ 100 → ∀ o : Value, z_At mX4_cutShare d 13 [.ref 26, .long (lN a), .null, .long (lN b), .null, .int (nI g), o, .null] [] σ (fun rv σ' => rv = none ∧ σ' = z_stL (z_stL σ 26 7 (lN (U / Nat.gcd L U))) 26 8 (lN (L / Nat.gcd L U))) := by
    intro g a b hg hb ha hg2 o
    refine x_iload5 (pc2 := 15) dX4_cutShare_13 rfl ?_
    refine x_bipush (v := 100) (pc2 := 17) dX4_cutShare_15 rfl (by decide) ?_
    refine x_icmp_ge (pc2 := 20) (pc3 := 42) dX4_cutShare_17 rfl rfl (fun h17 => ?_) (fun h17 => ?_)
    · exact done g a b hg hb ha o
    · skip
      refine x_lload3 (pc2 := 21) dX4_cutShare_20 rfl ?_
      refine x_lconst (v := 0) (pc2 := 22) dX4_cutShare_21 rfl (by decide) ?_
      refine x_lcmp (pc2 := 23) dX4_cutShare_22 rfl ?_
      refine x_if_eq (pc2 := 26) (pc3 := 42) dX4_cutShare_23 rfl rfl (fun h23 => ?_) (fun h23 => ?_)
      · exact done g a b hg hb ha o
      · rw [lg_cmp_eq, hb] at h23
        exact absurd rfl h23
  intro n
  induction n with
  | zero =>
    refine ⟨fun g a b h4 h5 h6 h7 h8 o => ?_, fun g a b h4 h5 h6 h7 h8 o => ?_⟩
    · exact stop g a b h4 (by have : gF 0 = 1 := rfl; omega) h5 (by omega) o
    · by_cases hb : b = 0
      · exact stop g a b h4 hb h5 (by omega) o
      · have hb1 : b = 1 := by
          have : gF (0 + 1) = 2 := rfl
          omega
        subst hb1
        refine step g a 1 (by omega) hb h5 h6 o (fun o => stop (g + 1) 1 _ ?_ (by omega) (by omega) (by omega) o)
        rw [Nat.mod_one, Nat.gcd_zero_right, ← h4, Nat.gcd_one_right]
  | succ n ih =>
    refine ⟨ih.2, fun g a b h4 h5 h6 h7 h8 o => ?_⟩
    by_cases hb : b = 0
    · exact stop g a b h4 hb h5 (by omega) o
    · have hf : gF (n + 1 + 1) = gF (n + 1) + gF n := rfl
      have hmod : a % b < b := Nat.mod_lt _ (by omega)
      have hg1 : Nat.gcd b (a % b) = Nat.gcd L U := by rw [← h4, Nat.gcd_comm b, ← Nat.gcd_rec, Nat.gcd_comm]
      refine step g a b (by omega) hb h5 h6 o (fun o => ?_)
      by_cases hr : a % b < gF (n + 1)
      · exact ih.2 (g + 1) b (a % b) hg1 h6 (by omega) hr (by omega) o
      · have hr0 : a % b ≠ 0 := by
          have : 1 ≤ gF (n + 1) := by
            have : ∀ m, 1 ≤ gF m ∧ 1 ≤ gF (m + 1) := fun m => by
              induction m with
              | zero => exact ⟨by decide, by decide⟩
              | succ m im => exact ⟨im.2, by rw [gF]; omega⟩
            exact (this n).2
          omega
        refine step (g + 1) b (a % b) (by omega) hr0 h6 (by omega) o (fun o => ?_)
        have hlt : b % (a % b) < gF n := by
          have h9 : b % (a % b) ≤ b - a % b := by
            rw [Nat.mod_eq_sub_mod (by omega)]
            exact Nat.mod_le _ _
          omega
        have hg2 : Nat.gcd (a % b) (b % (a % b)) = Nat.gcd L U := by rw [← hg1, Nat.gcd_comm (a % b), ← Nat.gcd_rec, Nat.gcd_comm]
        have h10 : b % (a % b) < a % b := Nat.mod_lt _ (by omega)
        exact ih.1 (g + 2) (a % b) (b % (a % b)) hg2 (by omega) (by omega) hlt (by omega) o

theorem s_inLeastTerms (d : Nat) (σ : zS) {U L : Nat} (w : Int32) (h1 : 1 ≤ U) (h2 : U ≤ 10 ^ 18) (h3 : L ≤ 10 ^ 18) : z_Fn mX6_inLeastTerms d [.long (lN U), .long (lN L), .int w] σ (.long (lN (if w = 0 then U / Nat.gcd L U else L / Nat.gcd L U))) σ := by
  refine x_enter (by decide) (Nat.le_of_ble_eq_true rfl) ?_
  show z_At _ _ _ [.long (lN U), .null, .long (lN L), .null, .int w, .null, .null, .null, .null, .null, .null] _ _ _
  refine x_lload0 (pc2 := 1) dX6_inLeastTerms_0 rfl ?_
  refine x_lstore5 (pc2 := 3) dX6_inLeastTerms_1 rfl rfl ?_
  refine x_lload2 (pc2 := 4) dX6_inLeastTerms_3 rfl ?_
  refine x_lstore7 (pc2 := 6) dX6_inLeastTerms_4 rfl rfl ?_
  have hgp : 1 ≤ Nat.gcd L U := Nat.gcd_pos_of_pos_right _ (by omega)
  suffices h : ∀ n a b, b ≤ n → Nat.gcd a b = Nat.gcd L U → a ≤ 10 ^ 18 → b ≤ 10 ^ 18 → ∀ o : Value, z_At mX6_inLeastTerms d 6 [.long (lN U), .null, .long (lN L), .null, .int w, .long (lN a), .null, .long (lN b), .null, o, .null] [] σ (fun rv σ' => rv = some (.long (lN (if w = 0 then U / Nat.gcd L U else L / Nat.gcd L U))) ∧ σ' = σ) from h L U L (Nat.le_refl _) (Nat.gcd_comm _ _) h2 h3 _
  intro n
  induction n with
  | zero =>
    intro a b hb hg ha hb2 o
    obtain rfl : b = 0 := Nat.le_zero.mp hb
    rw [Nat.gcd_zero_right] at hg
    have hgp : 1 ≤ a := by rw [hg]; exact hgp
    rw [← hg]
    have hb0 : ¬ lN a = 0 := fun q => by
      have := lN_inj (a := a) (b := 0) (by omega) (by decide) q
      omega
    refine x_lload7 (pc2 := 8) dX6_inLeastTerms_6 rfl ?_
    refine x_lconst (v := 0) (pc2 := 9) dX6_inLeastTerms_8 rfl (by decide) ?_
    refine x_lcmp (pc2 := 10) dX6_inLeastTerms_9 rfl ?_
    refine x_if_eq (pc2 := 13) (pc3 := 31) dX6_inLeastTerms_10 rfl rfl (fun h10 => ?_) (fun h10 => ?_)
    · skip
      refine x_iload4 (pc2 := 33) dX6_inLeastTerms_31 rfl ?_
      refine x_if_ne (pc2 := 36) (pc3 := 43) dX6_inLeastTerms_33 rfl rfl (fun h33 => ?_) (fun h33 => ?_)
      · skip
        refine x_lload2 (pc2 := 44) dX6_inLeastTerms_43 rfl ?_
        refine x_lload5 (pc2 := 46) dX6_inLeastTerms_44 rfl ?_
        refine x_ldiv (pc2 := 47) dX6_inLeastTerms_46 rfl (by exact hb0) ?_
        refine x_lret dX6_inLeastTerms_47 rfl ?_
        rw [if_neg h33, pk_lDiv (by omega) (by omega) (by omega)]
        exact ⟨rfl, rfl⟩
      · skip
        refine x_lload0 (pc2 := 37) dX6_inLeastTerms_36 rfl ?_
        refine x_lload5 (pc2 := 39) dX6_inLeastTerms_37 rfl ?_
        refine x_ldiv (pc2 := 40) dX6_inLeastTerms_39 rfl (by exact hb0) ?_
        refine x_goto (pc2 := 47) dX6_inLeastTerms_40 rfl ?_
        refine x_lret dX6_inLeastTerms_47 rfl ?_
        rw [if_pos h33, pk_lDiv (by omega) (by omega) (by omega)]
        exact ⟨rfl, rfl⟩
    · rw [lg_cmp_eq] at h10
      exact absurd rfl h10
  | succ n ih =>
    intro a b hb hg ha hb2 o
    by_cases hz : b = 0
    · exact ih a b (by omega) hg ha hb2 o
    · have hb0 : ¬ lN b = 0 := fun q => hz (lN_inj (a := b) (b := 0) (by omega) (by decide) q)
      have hmod : a % b < b := Nat.mod_lt _ (by omega)
      refine x_lload7 (pc2 := 8) dX6_inLeastTerms_6 rfl ?_
      refine x_lconst (v := 0) (pc2 := 9) dX6_inLeastTerms_8 rfl (by decide) ?_
      refine x_lcmp (pc2 := 10) dX6_inLeastTerms_9 rfl ?_
      refine x_if_eq (pc2 := 13) (pc3 := 31) dX6_inLeastTerms_10 rfl rfl (fun h10 => ?_) (fun h10 => ?_)
      · rw [lg_cmp_eq] at h10
        exact absurd h10 hb0
      · skip
        refine x_lload5 (pc2 := 15) dX6_inLeastTerms_13 rfl ?_
        refine x_lload7 (pc2 := 17) dX6_inLeastTerms_15 rfl ?_
        refine x_lrem (pc2 := 18) dX6_inLeastTerms_17 rfl (by exact hb0) ?_
        refine x_lstore9 (pc2 := 20) dX6_inLeastTerms_18 rfl rfl ?_
        refine x_lload7 (pc2 := 22) dX6_inLeastTerms_20 rfl ?_
        refine x_lstore5 (pc2 := 24) dX6_inLeastTerms_22 rfl rfl ?_
        refine x_lload9 (pc2 := 26) dX6_inLeastTerms_24 rfl ?_
        refine x_lstore7 (pc2 := 28) dX6_inLeastTerms_26 rfl rfl ?_
        refine x_goto (pc2 := 6) dX6_inLeastTerms_28 rfl ?_
        rw [pk_lRem (by omega) (by omega) (by omega)]
        refine ih b (a % b) (by omega) ?_ hb2 (by omega) _
        rw [← hg, Nat.gcd_comm b, ← Nat.gcd_rec, Nat.gcd_comm]
