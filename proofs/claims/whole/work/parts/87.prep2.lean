/-! the class's search: prepare -/
theorem gb_shlN : ∀ N < 4, ∀ n < 4, nI N <<< (2 * nI n + 2 &&& 31) = nI (N * 4 ^ (n + 1)) := by decide +kernel
theorem gb_1shl : ∀ K < 5, (1 : Int32) <<< (nI K &&& 31) = nI (2 ^ K) := by decide +kernel
theorem s_prepare (d : Nat) {σ : zS} {r : Nat} (hr : z_isP r) {c : zG} {b : Bool} (hc : gWf c) (hC : gC r σ c) : z_Ex mX2_prepare (d + 4) [.ref 31, .ref r, .int (z_b b)] σ (fun rv τ => rv = none ∧ gSr τ c b ∧ (∀ q, q < 31 ∨ 38 < q ∨ q = 37 → τ.1 q = σ.1 q) ∧ τ.2 = σ.2 ∧ (τ.1 31 10 = 0 ∧ τ.1 31 11 = 0) ∧ (∀ s, s < 1024 → τ.1 36 s = nI 1000000) ∧ (∀ j, j < 32 → τ.1 38 j = -1)) := by
  have hK4 := hc.1
  have hN := hc.2.1
  have h4 := hC.1.2.2
  have h2K : 2 ^ cK c ≤ 16 := (Nat.pow_le_pow_right (by decide) hc.1 : 2 ^ cK c ≤ 2 ^ 4)
  have hr31 : r ≠ 31 := by unfold z_isP at hr; omega
  refine x_enter (by decide) (Nat.le_of_ble_eq_true rfl) ?_
  show z_At _ _ _ [.ref 31, .ref r, .int (z_b b), .null] _ _ _
  refine x_aload0 (pc2 := 1) dX2_prepare_0 rfl ?_
  refine x_aload1 (pc2 := 2) dX2_prepare_1 rfl ?_
  refine x_getI (pc2 := 5) fX2_63 (sh_P hr) rfl dX2_prepare_2 rfl ?_
  rw [hC.1.1]
  refine x_putI (pc2 := 8) pX2_68 sh_31 rfl dX2_prepare_5 rfl ?_
  refine x_aload0 (pc2 := 9) dX2_prepare_8 rfl ?_
  refine x_aload1 (pc2 := 10) dX2_prepare_9 rfl ?_
  refine x_getI (pc2 := 13) fX2_69 (sh_P hr) rfl dX2_prepare_10 rfl ?_
  rw [z_st_row _ _ _ hr31, hC.1.2.1]
  refine x_putI (pc2 := 16) pX2_72 sh_31 rfl dX2_prepare_13 rfl ?_
  refine x_aload0 (pc2 := 17) dX2_prepare_16 rfl ?_
  refine x_aload0 (pc2 := 18) dX2_prepare_17 rfl ?_
  refine x_getI (pc2 := 21) fX2_72 sh_31 rfl dX2_prepare_18 rfl ?_
  refine x_putI (pc2 := 24) pX2_60 sh_31 rfl dX2_prepare_21 rfl ?_
  refine x_iconst (v := 0) (pc2 := 25) dX2_prepare_24 rfl (by decide) ?_
  refine x_istore3 (pc2 := 26) dX2_prepare_25 rfl rfl ?_
  rw [z_st_at]
  generalize hυ : z_st (z_st σ 31 0 (nI (cK c))) 31 1 (nI (cN c)) = υ
  have u1 : ∀ q, q ≠ 31 → υ.1 q = σ.1 q := fun q a1 => by rw [← hυ, z_st_row _ _ _ a1, z_st_row _ _ _ a1]
  have u2 : υ.1 31 0 = nI (cK c) := by rw [← hυ, z_st_fld _ _ _ (by decide), z_st_at]
  have u3 : υ.1 31 1 = nI (cN c) := by rw [← hυ, z_st_at]
  have u4 : υ.2 = σ.2 := by rw [← hυ]; rfl
  clear hυ
  suffices hl : ∀ m k, k + m = cK c → z_At mX2_prepare (d + 4) 26 [.ref 31, .ref r, .int (z_b b), .int (nI k)] [] (z_st υ 31 2 (nI (gE (cN c) (cM c) k))) (fun rv τ => rv = none ∧ gSr τ c b ∧ (∀ q, q < 31 ∨ 38 < q ∨ q = 37 → τ.1 q = σ.1 q) ∧ τ.2 = σ.2 ∧ (τ.1 31 10 = 0 ∧ τ.1 31 11 = 0) ∧ (∀ s, s < 1024 → τ.1 36 s = nI 1000000) ∧ (∀ j, j < 32 → τ.1 38 j = -1)) from hl (cK c) 0 (by omega)
  intro m
  induction m with
  | succ m ih =>
    intro k hk
    refine x_iload3 (pc2 := 27) dX2_prepare_26 rfl ?_
    refine x_aload0 (pc2 := 28) dX2_prepare_27 rfl ?_
    refine x_getI (pc2 := 31) fX2_68 sh_31 rfl dX2_prepare_28 rfl ?_
    rw [z_st_fld _ _ _ (by decide), u2]
    refine x_icmp_ge (pc2 := 34) (pc3 := 59) dX2_prepare_31 rfl rfl (fun h31 => ?_) (fun h31 => ?_)
    · exact absurd ((nI_le_iff (by omega) (by omega)).mp h31) (by omega)
    refine x_aload0 (pc2 := 35) dX2_prepare_34 rfl ?_
    refine x_dup (pc2 := 36) dX2_prepare_35 rfl rfl ?_
    refine x_getI (pc2 := 39) fX2_60 sh_31 rfl dX2_prepare_36 rfl ?_
    refine x_aload0 (pc2 := 40) dX2_prepare_39 rfl ?_
    refine x_getI (pc2 := 43) fX2_72 sh_31 rfl dX2_prepare_40 rfl ?_
    refine x_iconst (v := 2) (pc2 := 44) dX2_prepare_43 rfl (by decide) ?_
    refine x_iload3 (pc2 := 45) dX2_prepare_44 rfl ?_
    refine x_imul (pc2 := 46) dX2_prepare_45 rfl ?_
    refine x_iconst (v := 2) (pc2 := 47) dX2_prepare_46 rfl (by decide) ?_
    refine x_iadd (pc2 := 48) dX2_prepare_47 rfl ?_
    refine x_ishl (pc2 := 49) dX2_prepare_48 rfl ?_
    rw [z_st_at, z_st_fld _ _ _ (by decide), u3, gb_shlN _ (by omega) k (by omega)]
    refine x_iadd (pc2 := 50) dX2_prepare_49 rfl ?_
    rw [z_nIadd]
    refine x_putI (pc2 := 53) pX2_60 sh_31 rfl dX2_prepare_50 rfl ?_
    refine x_iinc3 (pc2 := 56) dX2_prepare_53 rfl (z_inc1 _) rfl ?_
    refine x_goto (pc2 := 26) dX2_prepare_56 rfl ?_
    rw [z_st_st, ← nI_succ]
    have := ih (k + 1) (by omega)
    rw [gE, if_neg (by omega)] at this
    exact this
  | zero =>
    intro k hk
    obtain rfl : k = cK c := by omega
    rw [show gE (cN c) (cM c) (cK c) = nE c from rfl]
    refine x_iload3 (pc2 := 27) dX2_prepare_26 rfl ?_
    refine x_aload0 (pc2 := 28) dX2_prepare_27 rfl ?_
    refine x_getI (pc2 := 31) fX2_68 sh_31 rfl dX2_prepare_28 rfl ?_
    rw [z_st_fld _ _ _ (by decide), u2]
    refine x_icmp_ge (pc2 := 34) (pc3 := 59) dX2_prepare_31 rfl rfl (fun h31 => ?_) (fun h31 => ?_)
    rotate_left
    · exact absurd (Int32.le_refl _) h31
    suffices h78 : z_At mX2_prepare (d + 4) 78 [.ref 31, .ref r, .int (z_b b), .int (nI (cK c))] [.int (if cR c = -9 then nI 1000000 else cR c), .ref 31] (z_st υ 31 2 (nI (nE c))) (fun rv τ => rv = none ∧ gSr τ c b ∧ (∀ q, q < 31 ∨ 38 < q ∨ q = 37 → τ.1 q = σ.1 q) ∧ τ.2 = σ.2 ∧ (τ.1 31 10 = 0 ∧ τ.1 31 11 = 0) ∧ (∀ s, s < 1024 → τ.1 36 s = nI 1000000) ∧ (∀ j, j < 32 → τ.1 38 j = -1)) by
      refine x_aload0 (pc2 := 60) dX2_prepare_59 rfl ?_
      refine x_aload1 (pc2 := 61) dX2_prepare_60 rfl ?_
      refine x_getI (pc2 := 64) fX2_75 (sh_P hr) rfl dX2_prepare_61 rfl ?_
      refine x_bipush (v := -9) (pc2 := 66) dX2_prepare_64 rfl (by decide) ?_
      rw [z_st_row _ _ _ hr31, u1 r hr31, hC.2.2.2.2]
      refine x_icmp_ne (pc2 := 69) (pc3 := 74) dX2_prepare_66 rfl rfl (fun h66 => ?_) (fun h66 => ?_)
      · rw [if_neg h66] at h78
        refine x_aload1 (pc2 := 75) dX2_prepare_74 rfl ?_
        refine x_getI (pc2 := 78) fX2_75 (sh_P hr) rfl dX2_prepare_75 rfl ?_
        rw [z_st_row _ _ _ hr31, u1 r hr31, hC.2.2.2.2]
        exact h78
      · rw [if_pos h66] at h78
        refine x_ldc (pc2 := 71) (by decide +kernel : Cond.constant RX2 78 1000000 ∈ lw_tbl) dX2_prepare_69 rfl ?_
        refine x_goto (pc2 := 78) dX2_prepare_71 rfl ?_
        exact h78
    refine x_putI (pc2 := 81) pX2_79 sh_31 rfl dX2_prepare_78 rfl ?_
    refine x_iconst (v := 0) (pc2 := 82) dX2_prepare_81 rfl (by decide) ?_
    refine x_istore3 (pc2 := 83) dX2_prepare_82 rfl rfl ?_
    generalize hw : (if cR c = -9 then nI 1000000 else cR c) = wf
    have hs0 : ∀ τ : zS, τ = z_st (z_st υ 31 2 (nI (nE c))) 31 3 wf → (∀ q, q < 31 ∨ 35 < q → τ.1 q = σ.1 q) ∧ τ.2 = σ.2 ∧ (τ.1 31 0 = nI (cK c) ∧ τ.1 31 1 = nI (cN c) ∧ τ.1 31 2 = nI (nE c) ∧ τ.1 31 3 = wf) := by
      rintro τ rfl
      refine ⟨fun q hq => ?_, u4, ?_, ?_, ?_, ?_⟩
      · rw [z_st_row _ _ _ (by omega), z_st_row _ _ _ (by omega), u1 q (by omega)]
      · rw [z_st_fld _ _ _ (by decide), z_st_fld _ _ _ (by decide), u2]
      · rw [z_st_fld _ _ _ (by decide), z_st_fld _ _ _ (by decide), u3]
      · rw [z_st_fld _ _ _ (by decide), z_st_at]
      · rw [z_st_at]
    obtain ⟨i1, i2, i3⟩ := hs0 _ rfl
    generalize z_st (z_st υ 31 2 (nI (nE c))) 31 3 wf = τ at i1 i2 i3
    suffices hl : ∀ m x, x + m = 2 ^ cK c → ∀ τ : zS, (∀ q, q < 31 ∨ 35 < q → τ.1 q = σ.1 q) → τ.2 = σ.2 → (τ.1 31 0 = nI (cK c) ∧ τ.1 31 1 = nI (cN c) ∧ τ.1 31 2 = nI (nE c) ∧ τ.1 31 3 = wf) → gSx τ c b x → z_At mX2_prepare (d + 4) 83 [.ref 31, .ref r, .int (z_b b), .int (nI x)] [] τ (fun rv τ => rv = none ∧ gSr τ c b ∧ (∀ q, q < 31 ∨ 38 < q ∨ q = 37 → τ.1 q = σ.1 q) ∧ τ.2 = σ.2 ∧ (τ.1 31 10 = 0 ∧ τ.1 31 11 = 0) ∧ (∀ s, s < 1024 → τ.1 36 s = nI 1000000) ∧ (∀ j, j < 32 → τ.1 38 j = -1)) from
      hl (2 ^ cK c) 0 (by omega) τ i1 i2 i3 (fun y hy => by omega)
    clear i1 i2 i3 hs0 τ
    intro m
    induction m with
    | succ m ih =>
      intro x hx τ i1 i2 i3 i4
      refine x_iload3 (pc2 := 84) dX2_prepare_83 rfl ?_
      refine x_iconst (v := 1) (pc2 := 85) dX2_prepare_84 rfl (by decide) ?_
      refine x_aload0 (pc2 := 86) dX2_prepare_85 rfl ?_
      refine x_getI (pc2 := 89) fX2_68 sh_31 rfl dX2_prepare_86 rfl ?_
      refine x_ishl (pc2 := 90) dX2_prepare_89 rfl ?_
      rw [i3.1, gb_1shl _ (by omega)]
      refine x_icmp_ge (pc2 := 93) (pc3 := 106) dX2_prepare_90 rfl rfl (fun h90 => ?_) (fun h90 => ?_)
      · exact absurd ((nI_le_iff (by omega) (by omega)).mp h90) (by omega)
      refine x_aload0 (pc2 := 94) dX2_prepare_93 rfl ?_
      refine x_aload1 (pc2 := 95) dX2_prepare_94 rfl ?_
      refine x_iload3 (pc2 := 96) dX2_prepare_95 rfl ?_
      refine x_iload2 (pc2 := 97) dX2_prepare_96 rfl ?_
      refine x_cV3 eX2_prepareSet kX2_82 sh_31 rfl (Nat.le_of_ble_eq_true rfl) dX2_prepare_97 ?_
      refine (s_prepareSet d hr hc (hC.lo hr (fun q hq => i1 q (by omega))) i3.1 i3.2.1 (by omega) i4).mono ?_
      rintro rv τ1 ⟨rfl, j1, j2, j3⟩
      show z_At _ _ 100 _ [] _ _
      refine x_iinc3 (pc2 := 103) dX2_prepare_100 rfl (z_inc1 _) rfl ?_
      refine x_goto (pc2 := 83) dX2_prepare_103 rfl ?_
      rw [← nI_succ]
      refine ih (x + 1) (by omega) τ1 (fun q hq => by rw [j1 q (by omega)]; exact i1 q (by omega)) (by rw [j2, i2]) ?_ j3
      rw [j1 31 (by omega)]
      exact i3
    | zero =>
      intro x hx τ i1 i2 i3 i4
      obtain rfl : x = 2 ^ cK c := by omega
      refine x_iload3 (pc2 := 84) dX2_prepare_83 rfl ?_
      refine x_iconst (v := 1) (pc2 := 85) dX2_prepare_84 rfl (by decide) ?_
      refine x_aload0 (pc2 := 86) dX2_prepare_85 rfl ?_
      refine x_getI (pc2 := 89) fX2_68 sh_31 rfl dX2_prepare_86 rfl ?_
      refine x_ishl (pc2 := 90) dX2_prepare_89 rfl ?_
      rw [i3.1, gb_1shl _ (by omega)]
      refine x_icmp_ge (pc2 := 93) (pc3 := 106) dX2_prepare_90 rfl rfl (fun h90 => ?_) (fun h90 => ?_)
      rotate_left
      · exact absurd (Int32.le_refl _) h90
      refine x_aload0 (pc2 := 107) dX2_prepare_106 rfl ?_
      refine x_iconst (v := 0) (pc2 := 108) dX2_prepare_107 rfl (by decide) ?_
      refine x_putI (pc2 := 111) pX2_86 sh_31 rfl dX2_prepare_108 rfl ?_
      refine x_aload0 (pc2 := 112) dX2_prepare_111 rfl ?_
      refine x_iconst (v := 0) (pc2 := 113) dX2_prepare_112 rfl (by decide) ?_
      refine x_putI (pc2 := 116) pX2_52 sh_31 rfl dX2_prepare_113 rfl ?_
      refine x_aload0 (pc2 := 117) dX2_prepare_116 rfl ?_
      refine x_getR (pc2 := 120) fX2_25 sh_31 rfl dX2_prepare_117 rfl ?_
      refine x_ldc (pc2 := 122) (by decide +kernel : Cond.constant RX2 78 1000000 ∈ lw_tbl) dX2_prepare_120 rfl ?_
      refine x_pS2 (pc2 := 125) eJ7_fill_53178 kX2_89 (Nat.le_of_ble_eq_true rfl) dX2_prepare_122 rfl (s_fill _ _ sh_36 (by decide) _) ?_
      refine x_aload0 (pc2 := 126) dX2_prepare_125 rfl ?_
      refine x_getR (pc2 := 129) fX2_31 sh_31 rfl dX2_prepare_126 rfl ?_
      refine x_iconst (v := -1) (pc2 := 130) dX2_prepare_129 rfl (by decide) ?_
      refine x_pS2 (pc2 := 133) eJ7_fill_53178 kX2_89 (Nat.le_of_ble_eq_true rfl) dX2_prepare_130 rfl (s_fill _ _ sh_38 (by decide) _) ?_
      refine x_vret dX2_prepare_133 rfl ?_
      have v1 : ∀ q, q ≠ 31 → q ≠ 36 → q ≠ 38 → (z_fill (z_fill (z_st (z_st τ 31 10 0) 31 11 0) 36 1024 1000000) 38 32 (-1)).1 q = τ.1 q := fun q a1 a2 a3 => by rw [z_fill_row _ _ _ _ a3, z_fill_row _ _ _ _ a2, z_st_row _ _ _ a1, z_st_row _ _ _ a1]
      have v2 : ∀ j, j ≠ 10 → j ≠ 11 → (z_fill (z_fill (z_st (z_st τ 31 10 0) 31 11 0) 36 1024 1000000) 38 32 (-1)).1 31 j = τ.1 31 j := fun j a1 a2 => by rw [z_fill_row _ _ _ _ (by decide), z_fill_row _ _ _ _ (by decide), z_st_fld _ _ _ a2, z_st_fld _ _ _ a1]
      refine ⟨rfl, ⟨?_, ?_, ?_⟩, fun q hq => ?_, i2, ⟨?_, ?_⟩, fun s hs => ?_, fun j hj => ?_⟩
      · rw [v2 0 (by decide) (by decide), v2 1 (by decide) (by decide), v2 2 (by decide) (by decide), v2 3 (by decide) (by decide), hw]
        exact i3
      · rw [v1 32 (by decide) (by decide) (by decide), v1 33 (by decide) (by decide) (by decide), v1 34 (by decide) (by decide) (by decide)]
        exact fun x hx => (i4 x hx).1
      · rw [v1 35 (by decide) (by decide) (by decide)]
        exact fun k hk x hx => (i4 x hx).2 k hk
      · rw [v1 q (by omega) (by omega) (by omega), i1 q (by omega)]
      · rw [z_fill_row _ _ _ _ (by decide), z_fill_row _ _ _ _ (by decide), z_st_fld _ _ _ (by decide), z_st_at]
      · rw [z_fill_row _ _ _ _ (by decide), z_fill_row _ _ _ _ (by decide), z_st_at]
      · rw [z_fill_row _ _ _ _ (by decide), z_fill_at _ _ _ _ hs]
        rfl
      · rw [z_fill_at _ _ _ _ hj]
