/-! PortageTrips$Portage.become, dropThing -/
def gBc (r o : Nat) (σ τ : zS) : Prop := (∀ q, q < r ∨ r + 5 < q → τ.1 q = σ.1 q) ∧ τ.2 = σ.2 ∧ (τ.1 r 0 = σ.1 o 0 ∧ τ.1 r 1 = σ.1 o 1 ∧ τ.1 r 2 = σ.1 o 2 ∧ τ.1 r 6 = σ.1 o 6) ∧ (∀ j, j < 3 → τ.1 (r + 1) j = σ.1 (o + 1) j ∧ τ.1 (r + 2) j = σ.1 (o + 2) j ∧ τ.1 (r + 3) j = σ.1 (o + 3) j) ∧ ∀ j, j < 4 → τ.1 (r + 4) j = σ.1 (o + 4) j ∧ τ.1 (r + 5) j = σ.1 (o + 5) j
theorem s_become (d : Nat) {σ : zS} {r o : Nat} (hro : (r = 1 ∧ o = 7) ∨ (r = 7 ∧ o = 1)) (hbd : ∀ j, j < 3 → σ.1 (o + 3) j = 0 ∨ σ.1 (o + 3) j = 1) : z_Ex mX0_become d [.ref r, .ref o] σ (fun rv τ => rv = none ∧ gBc r o σ τ) := by
  have hr : z_isP r := by rcases hro with h | h <;> simp [z_isP, h.1]
  have ho : z_isP o := by rcases hro with h | h <;> simp [z_isP, h.2]
  have hoo : ∀ i, i ≤ 5 → o + i < r ∨ r + 5 < o + i := fun i hi => by rcases hro with h | h <;> omega
  have hone : o ≠ r := by rcases hro with h | h <;> omega
  refine x_enter (by decide) (Nat.le_of_ble_eq_true rfl) ?_
  show z_At _ _ _ [.ref r, .ref o, .null] _ _ _
  refine x_aload0 (pc2 := 1) dX0_become_0 rfl ?_
  refine x_aload1 (pc2 := 2) dX0_become_1 rfl ?_
  refine x_getI (pc2 := 5) fX0_42 (sh_P ho) rfl dX0_become_2 rfl ?_
  refine x_putI (pc2 := 8) pX0_42 (sh_P hr) rfl dX0_become_5 rfl ?_
  refine x_aload0 (pc2 := 9) dX0_become_8 rfl ?_
  refine x_aload1 (pc2 := 10) dX0_become_9 rfl ?_
  refine x_getI (pc2 := 13) fX0_9 (sh_P ho) rfl dX0_become_10 rfl ?_
  refine x_putI (pc2 := 16) pX0_9 (sh_P hr) rfl dX0_become_13 rfl ?_
  refine x_aload0 (pc2 := 17) dX0_become_16 rfl ?_
  refine x_aload1 (pc2 := 18) dX0_become_17 rfl ?_
  refine x_getI (pc2 := 21) fX0_32 (sh_P ho) rfl dX0_become_18 rfl ?_
  refine x_putI (pc2 := 24) pX0_32 (sh_P hr) rfl dX0_become_21 rfl ?_
  refine x_aload0 (pc2 := 25) dX0_become_24 rfl ?_
  refine x_aload1 (pc2 := 26) dX0_become_25 rfl ?_
  refine x_getI (pc2 := 29) fX0_39 (sh_P ho) rfl dX0_become_26 rfl ?_
  refine x_putI (pc2 := 32) pX0_39 (sh_P hr) rfl dX0_become_29 rfl ?_
  refine x_iconst (v := 0) (pc2 := 33) dX0_become_32 rfl (by decide) ?_
  refine x_istore2 (pc2 := 34) dX0_become_33 rfl rfl ?_
  generalize hτ : z_st (z_st (z_st (z_st σ r 0 (σ.1 o 0)) r 1 ((z_st σ r 0 (σ.1 o 0)).1 o 1)) r 2 ((z_st (z_st σ r 0 (σ.1 o 0)) r 1 ((z_st σ r 0 (σ.1 o 0)).1 o 1)).1 o 2)) r 6 ((z_st (z_st (z_st σ r 0 (σ.1 o 0)) r 1 ((z_st σ r 0 (σ.1 o 0)).1 o 1)) r 2 ((z_st (z_st σ r 0 (σ.1 o 0)) r 1 ((z_st σ r 0 (σ.1 o 0)).1 o 1)).1 o 2)).1 o 6) = τ0
  have h0 : (∀ q, q ≠ r → τ0.1 q = σ.1 q) ∧ τ0.2 = σ.2 ∧ (τ0.1 r 0 = σ.1 o 0 ∧ τ0.1 r 1 = σ.1 o 1 ∧ τ0.1 r 2 = σ.1 o 2 ∧ τ0.1 r 6 = σ.1 o 6) := by
    rw [← hτ]
    refine ⟨fun q hq => ?_, rfl, ?_, ?_, ?_, ?_⟩
    · rw [z_st_row _ _ _ hq, z_st_row _ _ _ hq, z_st_row _ _ _ hq, z_st_row _ _ _ hq]
    · rw [z_st_fld _ _ _ (by decide), z_st_fld _ _ _ (by decide), z_st_fld _ _ _ (by decide), z_st_at]
    · rw [z_st_fld _ _ _ (by decide), z_st_fld _ _ _ (by decide), z_st_at, z_st_row _ _ _ hone]
    · rw [z_st_fld _ _ _ (by decide), z_st_at, z_st_row _ _ _ hone, z_st_row _ _ _ hone]
    · rw [z_st_at, z_st_row _ _ _ hone, z_st_row _ _ _ hone, z_st_row _ _ _ hone]
  clear hτ
  suffices h2 : ∀ τ, (∀ q, q < r ∨ r + 5 < q → τ.1 q = σ.1 q) → τ.2 = σ.2 → (τ.1 r 0 = σ.1 o 0 ∧ τ.1 r 1 = σ.1 o 1 ∧ τ.1 r 2 = σ.1 o 2 ∧ τ.1 r 6 = σ.1 o 6) → (∀ j, j < 3 → τ.1 (r + 1) j = σ.1 (o + 1) j ∧ τ.1 (r + 2) j = σ.1 (o + 2) j ∧ τ.1 (r + 3) j = σ.1 (o + 3) j) → z_At mX0_become d 81 [.ref r, .ref o, .int (nI 3)] [] τ (fun rv τ => rv = none ∧ gBc r o σ τ) by
    suffices h : ∀ m k, k + m = 3 → ∀ τ, (∀ q, q < r ∨ r + 5 < q → τ.1 q = σ.1 q) → τ.2 = σ.2 → (τ.1 r 0 = σ.1 o 0 ∧ τ.1 r 1 = σ.1 o 1 ∧ τ.1 r 2 = σ.1 o 2 ∧ τ.1 r 6 = σ.1 o 6) → (∀ j, j < k → τ.1 (r + 1) j = σ.1 (o + 1) j ∧ τ.1 (r + 2) j = σ.1 (o + 2) j ∧ τ.1 (r + 3) j = σ.1 (o + 3) j) → z_At mX0_become d 34 [.ref r, .ref o, .int (nI k)] [] τ (fun rv τ => rv = none ∧ gBc r o σ τ) from h 3 0 (by omega) τ0 (fun q hq => h0.1 q (by omega)) h0.2.1 h0.2.2 (fun j hj => by omega)
    intro m
    induction m with
    | zero =>
      intro k hk τ f1 f2 f3 f4
      obtain rfl : k = 3 := by omega
      refine x_iload2 (pc2 := 35) dX0_become_34 rfl ?_
      refine x_iconst (v := 3) (pc2 := 36) dX0_become_35 rfl (by decide) ?_
      refine x_icmp_ge (pc2 := 39) (pc3 := 81) dX0_become_36 rfl rfl (fun h36 => ?_) (fun h36 => ?_)
      · exact h2 τ f1 f2 f3 f4
      · exact absurd (by decide) h36
    | succ m ih =>
      intro k hk τ f1 f2 f3 f4
      have hin : vp_in (nI k) 3 := z_in (by omega)
      refine x_iload2 (pc2 := 35) dX0_become_34 rfl ?_
      refine x_iconst (v := 3) (pc2 := 36) dX0_become_35 rfl (by decide) ?_
      refine x_icmp_ge (pc2 := 39) (pc3 := 81) dX0_become_36 rfl rfl (fun h36 => ?_) (fun h36 => ?_)
      · exact absurd h36 (nI_ge (a := k) (b := 3) (by omega) (by decide))
      · skip
        refine x_aload0 (pc2 := 40) dX0_become_39 rfl ?_
        refine x_getR (pc2 := 43) fX0_15 (sh_P hr) rfl dX0_become_40 rfl ?_
        refine x_iload2 (pc2 := 44) dX0_become_43 rfl ?_
        refine x_aload1 (pc2 := 45) dX0_become_44 rfl ?_
        refine x_getR (pc2 := 48) fX0_15 (sh_P ho) rfl dX0_become_45 rfl ?_
        refine x_iload2 (pc2 := 49) dX0_become_48 rfl ?_
        refine x_iald (pc2 := 50) (sh_P1 ho) (by exact hin) dX0_become_49 rfl ?_
        refine x_iast (pc2 := 51) (sh_P1 hr) (by exact hin) dX0_become_50 rfl ?_
        refine x_aload0 (pc2 := 52) dX0_become_51 rfl ?_
        refine x_getR (pc2 := 55) fX0_19 (sh_P hr) rfl dX0_become_52 rfl ?_
        refine x_iload2 (pc2 := 56) dX0_become_55 rfl ?_
        refine x_aload1 (pc2 := 57) dX0_become_56 rfl ?_
        refine x_getR (pc2 := 60) fX0_19 (sh_P ho) rfl dX0_become_57 rfl ?_
        refine x_iload2 (pc2 := 61) dX0_become_60 rfl ?_
        refine x_iald (pc2 := 62) (sh_P2 ho) (by exact hin) dX0_become_61 rfl ?_
        refine x_iast (pc2 := 63) (sh_P2 hr) (by exact hin) dX0_become_62 rfl ?_
        refine x_aload0 (pc2 := 64) dX0_become_63 rfl ?_
        refine x_getR (pc2 := 67) fX0_22 (sh_P hr) rfl dX0_become_64 rfl ?_
        refine x_iload2 (pc2 := 68) dX0_become_67 rfl ?_
        refine x_aload1 (pc2 := 69) dX0_become_68 rfl ?_
        refine x_getR (pc2 := 72) fX0_22 (sh_P ho) rfl dX0_become_69 rfl ?_
        refine x_iload2 (pc2 := 73) dX0_become_72 rfl ?_
        have e0 : (z_st (z_st τ (r + 1) (nI k).toNatClampNeg (τ.1 (o + 1) (nI k).toNatClampNeg)) (r + 2) (nI k).toNatClampNeg ((z_st τ (r + 1) (nI k).toNatClampNeg (τ.1 (o + 1) (nI k).toNatClampNeg)).1 (o + 2) (nI k).toNatClampNeg)).1 (o + 3) = σ.1 (o + 3) := by
          rw [z_st_row _ _ _ (by have := hoo 3 (by decide); omega), z_st_row _ _ _ (by have := hoo 3 (by decide); omega)]
          exact f1 _ (hoo 3 (by decide))
        refine x_zald (pc2 := 74) (sh_P3 ho) (by exact hin) dX0_become_73 rfl ?_
        rw [e0]
        have h01 : σ.1 (o + 3) (nI k).toNatClampNeg = 0 ∨ σ.1 (o + 3) (nI k).toNatClampNeg = 1 := by rw [nI_clamp (by omega)]; exact hbd k (by omega)
        refine x_zast (pc2 := 75) (sh_P3 hr) (by exact hin) (by exact h01) dX0_become_74 rfl ?_
        refine x_iinc2 (pc2 := 78) dX0_become_75 rfl (z_inc1 _) rfl ?_
        refine x_goto (pc2 := 34) dX0_become_78 rfl ?_
        rw [← nI_succ, nI_clamp (by omega), z_st_row _ _ _ (show o + 2 ≠ r + 1 by have := hoo 2 (by decide); omega), f1 (o + 1) (hoo 1 (by decide)), f1 (o + 2) (hoo 2 (by decide))]
        refine ih (k + 1) (by omega) _ (fun q hq => ?_) f2 ?_ (fun j hj => ?_)
        · rw [z_st_row _ _ _ (by omega), z_st_row _ _ _ (by omega), z_st_row _ _ _ (by omega)]
          exact f1 q hq
        · rw [z_st_row _ _ _ (by omega), z_st_row _ _ _ (by omega), z_st_row _ _ _ (by omega)]
          exact f3
        · have g1 : ∀ a b e, (z_st (z_st (z_st τ (r + 1) k a) (r + 2) k b) (r + 3) k e).1 (r + 1) = upd (τ.1 (r + 1)) k a := fun a b e => by rw [z_st_row _ _ _ (by omega), z_st_row _ _ _ (by omega), z_st_rowS]
          have g2 : ∀ a b e, (z_st (z_st (z_st τ (r + 1) k a) (r + 2) k b) (r + 3) k e).1 (r + 2) = upd (τ.1 (r + 2)) k b := fun a b e => by rw [z_st_row _ _ _ (by omega), z_st_rowS, z_st_row _ _ _ (by omega)]
          have g3 : ∀ a b e, (z_st (z_st (z_st τ (r + 1) k a) (r + 2) k b) (r + 3) k e).1 (r + 3) = upd (τ.1 (r + 3)) k e := fun a b e => by rw [z_st_rowS, z_st_row _ _ _ (by omega), z_st_row _ _ _ (by omega)]
          rw [g1, g2, g3]
          unfold upd
          by_cases e : j = k
          · rw [if_pos e, if_pos e, if_pos e, e]
            exact ⟨rfl, rfl, rfl⟩
          · rw [if_neg e, if_neg e, if_neg e]
            exact f4 j (by omega)
  intro τ f1 f2 f3 f4
  refine x_iconst (v := 0) (pc2 := 82) dX0_become_81 rfl (by decide) ?_
  refine x_istore2 (pc2 := 83) dX0_become_82 rfl rfl ?_
  suffices h : ∀ m k, k + m = 4 → ∀ τ, (∀ q, q < r ∨ r + 5 < q → τ.1 q = σ.1 q) → τ.2 = σ.2 → (τ.1 r 0 = σ.1 o 0 ∧ τ.1 r 1 = σ.1 o 1 ∧ τ.1 r 2 = σ.1 o 2 ∧ τ.1 r 6 = σ.1 o 6) → (∀ j, j < 3 → τ.1 (r + 1) j = σ.1 (o + 1) j ∧ τ.1 (r + 2) j = σ.1 (o + 2) j ∧ τ.1 (r + 3) j = σ.1 (o + 3) j) → (∀ j, j < k → τ.1 (r + 4) j = σ.1 (o + 4) j ∧ τ.1 (r + 5) j = σ.1 (o + 5) j) → z_At mX0_become d 83 [.ref r, .ref o, .int (nI k)] [] τ (fun rv τ => rv = none ∧ gBc r o σ τ) from h 4 0 (by omega) τ f1 f2 f3 f4 (fun j hj => by omega)
  clear f1 f2 f3 f4 τ
  intro m
  induction m with
  | zero =>
    intro k hk τ f1 f2 f3 f4 f5
    obtain rfl : k = 4 := by omega
    refine x_iload2 (pc2 := 84) dX0_become_83 rfl ?_
    refine x_iconst (v := 4) (pc2 := 85) dX0_become_84 rfl (by decide) ?_
    refine x_icmp_ge (pc2 := 88) (pc3 := 118) dX0_become_85 rfl rfl (fun h85 => ?_) (fun h85 => ?_)
    · skip
      refine x_vret dX0_become_118 rfl ?_
      exact ⟨rfl, f1, f2, f3, f4, f5⟩
    · exact absurd (by decide) h85
  | succ m ih =>
    intro k hk τ f1 f2 f3 f4 f5
    have hin : vp_in (nI k) 4 := z_in (by omega)
    refine x_iload2 (pc2 := 84) dX0_become_83 rfl ?_
    refine x_iconst (v := 4) (pc2 := 85) dX0_become_84 rfl (by decide) ?_
    refine x_icmp_ge (pc2 := 88) (pc3 := 118) dX0_become_85 rfl rfl (fun h85 => ?_) (fun h85 => ?_)
    · exact absurd h85 (nI_ge (a := k) (b := 4) (by omega) (by decide))
    · skip
      refine x_aload0 (pc2 := 89) dX0_become_88 rfl ?_
      refine x_getR (pc2 := 92) fX0_26 (sh_P hr) rfl dX0_become_89 rfl ?_
      refine x_iload2 (pc2 := 93) dX0_become_92 rfl ?_
      refine x_aload1 (pc2 := 94) dX0_become_93 rfl ?_
      refine x_getR (pc2 := 97) fX0_26 (sh_P ho) rfl dX0_become_94 rfl ?_
      refine x_iload2 (pc2 := 98) dX0_become_97 rfl ?_
      refine x_iald (pc2 := 99) (sh_P4 ho) (by exact hin) dX0_become_98 rfl ?_
      refine x_iast (pc2 := 100) (sh_P4 hr) (by exact hin) dX0_become_99 rfl ?_
      refine x_aload0 (pc2 := 101) dX0_become_100 rfl ?_
      refine x_getR (pc2 := 104) fX0_29 (sh_P hr) rfl dX0_become_101 rfl ?_
      refine x_iload2 (pc2 := 105) dX0_become_104 rfl ?_
      refine x_aload1 (pc2 := 106) dX0_become_105 rfl ?_
      refine x_getR (pc2 := 109) fX0_29 (sh_P ho) rfl dX0_become_106 rfl ?_
      refine x_iload2 (pc2 := 110) dX0_become_109 rfl ?_
      refine x_iald (pc2 := 111) (sh_P5 ho) (by exact hin) dX0_become_110 rfl ?_
      refine x_iast (pc2 := 112) (sh_P5 hr) (by exact hin) dX0_become_111 rfl ?_
      refine x_iinc2 (pc2 := 115) dX0_become_112 rfl (z_inc1 _) rfl ?_
      refine x_goto (pc2 := 83) dX0_become_115 rfl ?_
      rw [← nI_succ, nI_clamp (by omega), z_st_row _ _ _ (show o + 5 ≠ r + 4 by have := hoo 5 (by decide); omega), f1 (o + 4) (hoo 4 (by decide)), f1 (o + 5) (hoo 5 (by decide))]
      refine ih (k + 1) (by omega) _ (fun q hq => ?_) f2 ?_ (fun j hj => ?_) (fun j hj => ?_)
      · rw [z_st_row _ _ _ (by omega), z_st_row _ _ _ (by omega)]
        exact f1 q hq
      · rw [z_st_row _ _ _ (by omega), z_st_row _ _ _ (by omega)]
        exact f3
      · rw [z_st_row _ _ _ (by omega), z_st_row _ _ _ (by omega), z_st_row _ _ _ (by omega), z_st_row _ _ _ (by omega), z_st_row _ _ _ (by omega), z_st_row _ _ _ (by omega)]
        exact f4 j hj
      · have g1 : ∀ a b, (z_st (z_st τ (r + 4) k a) (r + 5) k b).1 (r + 4) = upd (τ.1 (r + 4)) k a := fun a b => by rw [z_st_row _ _ _ (by omega), z_st_rowS]
        have g2 : ∀ a b, (z_st (z_st τ (r + 4) k a) (r + 5) k b).1 (r + 5) = upd (τ.1 (r + 5)) k b := fun a b => by rw [z_st_rowS, z_st_row _ _ _ (by omega)]
        rw [g1, g2]
        unfold upd
        by_cases e : j = k
        · rw [if_pos e, if_pos e, e]
          exact ⟨rfl, rfl⟩
        · rw [if_neg e, if_neg e]
          exact f5 j (by omega)
