/-! the class's dropThing -/
/-- the draft without one thing -/
def gDrop (σ τ : zS) (g K : Nat) : Prop := (∀ q, q ≠ 7 → q ≠ 11 → q ≠ 12 → τ.1 q = σ.1 q) ∧ (∀ j, j ≠ 6 → τ.1 7 j = σ.1 7 j) ∧ τ.1 7 6 = nI (K - 1) ∧ τ.2 = σ.2 ∧ ∀ j, j < K - 1 → τ.1 11 j = σ.1 11 (if j < g then j else j + 1) ∧ τ.1 12 j = σ.1 12 (if j < g then j else j + 1)
theorem s_dropThing (d : Nat) {σ : zS} {g K : Nat} (hK : σ.1 7 6 = nI K) (hK4 : K ≤ 4) (hg : g < K) : z_Ex mX0_dropThing d [.ref 7, .int (nI g)] σ (fun rv τ => rv = none ∧ gDrop σ τ g K) := by
  refine x_enter (by decide) (Nat.le_of_ble_eq_true rfl) ?_
  show z_At _ _ _ [.ref 7, .int (nI g), .null] _ _ _
  refine x_iload1 (pc2 := 1) dX0_dropThing_0 rfl ?_
  refine x_istore2 (pc2 := 2) dX0_dropThing_1 rfl rfl ?_
  suffices h : ∀ m k, g + k + m + 1 = K → ∀ τ : zS, (∀ q, q ≠ 11 → q ≠ 12 → τ.1 q = σ.1 q) → τ.2 = σ.2 → (∀ j, τ.1 11 j = σ.1 11 (if g ≤ j ∧ j < g + k then j + 1 else j) ∧ τ.1 12 j = σ.1 12 (if g ≤ j ∧ j < g + k then j + 1 else j)) → z_At mX0_dropThing d 2 [.ref 7, .int (nI g), .int (nI (g + k))] [] τ (fun rv τ => rv = none ∧ gDrop σ τ g K) from
    h (K - g - 1) 0 (by omega) σ (fun _ _ _ => rfl) rfl (fun j => by rw [if_neg (by omega)]; exact ⟨rfl, rfl⟩)
  intro m
  induction m with
  | zero =>
    intro k hk τ h1 h2 h3
    have e7 : τ.1 7 6 = nI K := by rw [h1 7 (by decide) (by decide)]; exact hK
    refine x_iload2 (pc2 := 3) dX0_dropThing_2 rfl ?_
    refine x_iconst (v := 1) (pc2 := 4) dX0_dropThing_3 rfl (by decide) ?_
    refine x_iadd (pc2 := 5) dX0_dropThing_4 rfl ?_
    rw [← nI_succ]
    refine x_aload0 (pc2 := 6) dX0_dropThing_5 rfl ?_
    refine x_getI (pc2 := 9) fX0_39 sh_7 rfl dX0_dropThing_6 rfl ?_
    rw [e7]
    refine x_icmp_ge (pc2 := 12) (pc3 := 46) dX0_dropThing_9 rfl rfl (fun h9 => ?_) (fun h9 => ?_)
    rotate_left
    · exact absurd ((nI_le_iff (by omega) (by omega)).mpr (by omega)) h9
    refine x_aload0 (pc2 := 47) dX0_dropThing_46 rfl ?_
    refine x_dup (pc2 := 48) dX0_dropThing_47 rfl rfl ?_
    refine x_getI (pc2 := 51) fX0_39 sh_7 rfl dX0_dropThing_48 rfl ?_
    rw [e7]
    refine x_iconst (v := 1) (pc2 := 52) dX0_dropThing_51 rfl (by decide) ?_
    refine x_isub (pc2 := 53) dX0_dropThing_52 rfl ?_
    refine x_putI (pc2 := 56) pX0_39 sh_7 rfl dX0_dropThing_53 rfl ?_
    refine x_vret dX0_dropThing_56 rfl ?_
    refine ⟨rfl, fun q a1 a2 a3 => ?_, fun j hj => ?_, ?_, h2, fun j hj => ?_⟩
    · rw [z_st_row _ _ _ a1]; exact h1 q a2 a3
    · rw [z_st_fld _ _ _ hj, h1 7 (by decide) (by decide)]
    · rw [z_st_at]
      exact (Int32.ofNat_sub (a := K) (b := 1) (by omega)).symm
    · rw [z_st_row _ _ _ (by decide), z_st_row _ _ _ (by decide), (h3 j).1, (h3 j).2]
      by_cases e : j < g
      · rw [if_neg (by omega), if_pos e]; exact ⟨rfl, rfl⟩
      · rw [if_pos (by omega), if_neg e]; exact ⟨rfl, rfl⟩
  | succ m ih =>
    intro k hk τ h1 h2 h3
    have e7 : τ.1 7 6 = nI K := by rw [h1 7 (by decide) (by decide)]; exact hK
    refine x_iload2 (pc2 := 3) dX0_dropThing_2 rfl ?_
    refine x_iconst (v := 1) (pc2 := 4) dX0_dropThing_3 rfl (by decide) ?_
    refine x_iadd (pc2 := 5) dX0_dropThing_4 rfl ?_
    rw [← nI_succ]
    refine x_aload0 (pc2 := 6) dX0_dropThing_5 rfl ?_
    refine x_getI (pc2 := 9) fX0_39 sh_7 rfl dX0_dropThing_6 rfl ?_
    rw [e7]
    refine x_icmp_ge (pc2 := 12) (pc3 := 46) dX0_dropThing_9 rfl rfl (fun h9 => ?_) (fun h9 => ?_)
    · exact absurd ((nI_le_iff (by omega) (by omega)).mp h9) (by omega)
    refine x_aload0 (pc2 := 13) dX0_dropThing_12 rfl ?_
    refine x_getR (pc2 := 16) fX0_26 sh_7 rfl dX0_dropThing_13 rfl ?_
    refine x_iload2 (pc2 := 17) dX0_dropThing_16 rfl ?_
    refine x_aload0 (pc2 := 18) dX0_dropThing_17 rfl ?_
    refine x_getR (pc2 := 21) fX0_26 sh_7 rfl dX0_dropThing_18 rfl ?_
    refine x_iload2 (pc2 := 22) dX0_dropThing_21 rfl ?_
    refine x_iconst (v := 1) (pc2 := 23) dX0_dropThing_22 rfl (by decide) ?_
    refine x_iadd (pc2 := 24) dX0_dropThing_23 rfl ?_
    rw [← nI_succ]
    refine x_iald (pc2 := 25) sh_11 (by exact z_in (by omega)) dX0_dropThing_24 rfl ?_
    refine x_iast (pc2 := 26) sh_11 (by exact z_in (by omega)) dX0_dropThing_25 rfl ?_
    refine x_aload0 (pc2 := 27) dX0_dropThing_26 rfl ?_
    refine x_getR (pc2 := 30) fX0_29 sh_7 rfl dX0_dropThing_27 rfl ?_
    refine x_iload2 (pc2 := 31) dX0_dropThing_30 rfl ?_
    refine x_aload0 (pc2 := 32) dX0_dropThing_31 rfl ?_
    refine x_getR (pc2 := 35) fX0_29 sh_7 rfl dX0_dropThing_32 rfl ?_
    refine x_iload2 (pc2 := 36) dX0_dropThing_35 rfl ?_
    refine x_iconst (v := 1) (pc2 := 37) dX0_dropThing_36 rfl (by decide) ?_
    refine x_iadd (pc2 := 38) dX0_dropThing_37 rfl ?_
    rw [← nI_succ]
    refine x_iald (pc2 := 39) sh_12 (by exact z_in (by omega)) dX0_dropThing_38 rfl ?_
    refine x_iast (pc2 := 40) sh_12 (by exact z_in (by omega)) dX0_dropThing_39 rfl ?_
    rw [nI_clamp (by omega), nI_clamp (by omega)]
    refine x_iinc2 (pc2 := 43) dX0_dropThing_40 rfl (z_inc1 _) rfl ?_
    refine x_goto (pc2 := 2) dX0_dropThing_43 rfl ?_
    rw [← nI_succ]
    refine ih (k + 1) (by omega) _ (fun q a1 a2 => ?_) h2 (fun j => ?_)
    · rw [z_st_row _ _ _ a2, z_st_row _ _ _ a1]; exact h1 q a1 a2
    · by_cases e : j = g + k
      · subst e
        rw [if_pos (by omega)]
        refine ⟨?_, ?_⟩
        · rw [z_st_row _ _ _ (by decide), z_st_at, (h3 _).1, if_neg (by omega)]
        · rw [z_st_at, z_st_row _ _ _ (by decide), (h3 _).2, if_neg (by omega)]
      · rw [z_st_row _ _ _ (by decide), z_st_fld _ _ _ e, z_st_fld _ _ _ e, z_st_row _ _ _ (by decide), (h3 j).1, (h3 j).2]
        by_cases e2 : g ≤ j ∧ j < g + k
        · rw [if_pos e2, if_pos (by omega)]; exact ⟨rfl, rfl⟩
        · rw [if_neg e2, if_neg (by omega)]; exact ⟨rfl, rfl⟩
