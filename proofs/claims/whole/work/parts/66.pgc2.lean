/-! the class's portage(): the method -/
def z_pgC (sh la i n lane size : Int32) : Int32 := if z_wi sh 0 3 = false then -1 else if z_wi la 0 2 = false then -2 else if ¬ z_fa lane la = 0 then -10 - z_fa lane la else if ¬ 0 ≤ n then -10 - 4 else if z_hc i n size = false then -10 - 3 else 0
def z_pgF (sh la i n lane size f : Int32) : Int32 := if z_wi sh 0 3 = false then f else if z_wi la 0 2 = false then f else if ¬ z_fa lane la = 0 then z_fa lane la else if ¬ 0 ≤ n then 4 else if z_hc i n size = false then 3 else f
/-- a new portage in the class -/
def gNew (σ τ : zS) (s : zP) : Prop := (∀ q, q ≠ 0 → ¬ (1 ≤ q ∧ q ≤ 12) → q ≠ 22 → τ.1 q = σ.1 q) ∧ (∀ j, j ≠ 9 → j ≠ 11 → τ.1 0 j = σ.1 0 j) ∧ (τ.1 0 9 = 0 ∧ τ.1 0 11 = 0 ∧ τ.1 22 0 = 0) ∧ τ.2 = σ.2 ∧ (τ.1 1 0 = s.2.1 ∧ τ.1 1 1 = -9 ∧ τ.1 1 2 = nI s.2.2.1 ∧ τ.1 1 6 = nI s.2.2.2.1) ∧ (∀ j, j < 3 → τ.1 2 j = s.2.2.2.2.1 j ∧ τ.1 3 j = s.2.2.2.2.2.1 j ∧ τ.1 4 j = 0) ∧ ∀ t, t < 4 → τ.1 5 t = s.2.2.2.2.2.2.1 t ∧ τ.1 6 t = s.2.2.2.2.2.2.2 t
def gPgPost (σ0 : zS) (C : Int32) (F : Int32) (L : Option Nat × zP) (rv : Option Value) (τ : zS) : Prop :=
  (C ≠ 0 → rv = some (.int C) ∧ τ = z_st σ0 0 13 F) ∧ (C = 0 → (∀ p, L.1 = some p → rv = some (.int (-100 - nI p)) ∧ (∀ q, ¬ (7 ≤ q ∧ q ≤ 12) → τ.1 q = σ0.1 q) ∧ τ.2 = σ0.2) ∧ (L.1 = none → rv = some (.int (nI L.2.2.2.2.1)) ∧ gNew σ0 τ L.2))
theorem s_portageC (d : Nat) (σ σ0 : zS) (hσ : σ0 = z_f0 σ) (sh la i n : Int32) (hz : vp_in sh 4 → ∃ z : Nat, σ0.1 (14 + sh.toNatClampNeg) 1 = nI z ∧ z ≤ 60) (L : Option Nat × zP) (hL : L = pLoop (fun p => σ0.1 (14 + sh.toNatClampNeg + 4) (i.toNatClampNeg + p)) n.toNatClampNeg n.toNatClampNeg 0 (1, 0, 0, 0, σ0.1 8, σ0.1 9, σ0.1 11, σ0.1 12)) : z_Ex mX5_portage (d + 4) [.ref 0, .int sh, .int la, .int i, .int n] σ (gPgPost σ0 (z_pgC sh la i n (σ0.1 (14 + sh.toNatClampNeg) 0) (σ0.1 (14 + sh.toNatClampNeg) 1)) (z_pgF sh la i n (σ0.1 (14 + sh.toNatClampNeg) 0) (σ0.1 (14 + sh.toNatClampNeg) 1) (σ0.1 0 13)) L) := by
  refine x_enter (by decide) (Nat.le_of_ble_eq_true rfl) ?_
  show z_At _ _ _ [.ref 0, .int sh, .int la, .int i, .int n, .null, .null, .null] _ _ _
  have hrf : z_st σ0 0 13 (σ0.1 0 13) = σ0 := z_st_id rfl
  refine x_aload0 (pc2 := 1) dX5_portage_0 rfl ?_
  refine x_iconst (v := 0) (pc2 := 2) dX5_portage_1 rfl (by decide) ?_
  refine x_putI (pc2 := 5) pX5_53 sh_0 rfl dX5_portage_2 rfl ?_
  rw [show z_st σ 0 13 0 = σ0 from hσ.symm]
  clear hσ
  refine x_iload1 (pc2 := 6) dX5_portage_5 rfl ?_
  refine x_fS1 (pc2 := 9) eX5_isSheet kX5_57 (Nat.le_of_ble_eq_true rfl) dX5_portage_6 rfl (s_isSheetC _ _ _) ?_
  refine x_if_ne (pc2 := 12) (pc3 := 14) dX5_portage_9 rfl rfl (fun h9 => ?_) (fun h9 => ?_)
  rotate_left
  · have h9' := z_b0.mp h9
    refine x_iconst (v := -1) (pc2 := 13) dX5_portage_12 rfl (by decide) ?_
    refine x_iret dX5_portage_13 rfl ?_
    have eC : z_pgC sh la i n (σ0.1 (14 + sh.toNatClampNeg) 0) (σ0.1 (14 + sh.toNatClampNeg) 1) = -1 := by unfold z_pgC; rw [if_pos h9']
    have eF : z_pgF sh la i n (σ0.1 (14 + sh.toNatClampNeg) 0) (σ0.1 (14 + sh.toNatClampNeg) 1) (σ0.1 0 13) = σ0.1 0 13 := by unfold z_pgF; rw [if_pos h9']
    rw [eC, eF]
    exact ⟨fun _ => ⟨rfl, hrf.symm⟩, fun q => absurd q (by decide)⟩
  have h9' : ¬ z_wi sh 0 3 = false := by rw [z_bn0.mp h9]; decide
  have hiS := z_isS_of (z_in_sh h9)
  obtain ⟨z, hz1, hz2⟩ := hz (z_in_sh h9)
  generalize hr : 14 + sh.toNatClampNeg = r at *
  refine x_iload2 (pc2 := 15) dX5_portage_14 rfl ?_
  refine x_fS1 (pc2 := 18) eX5_isLane kX5_61 (Nat.le_of_ble_eq_true rfl) dX5_portage_15 rfl (s_isLane _ _ _) ?_
  refine x_if_ne (pc2 := 21) (pc3 := 24) dX5_portage_18 rfl rfl (fun h18 => ?_) (fun h18 => ?_)
  rotate_left
  · have h18' := z_b0.mp h18
    refine x_bipush (v := -2) (pc2 := 23) dX5_portage_21 rfl (by decide) ?_
    refine x_iret dX5_portage_23 rfl ?_
    have eC : z_pgC sh la i n (σ0.1 r 0) (σ0.1 r 1) = -2 := by unfold z_pgC; rw [if_neg h9', if_pos h18']
    have eF : z_pgF sh la i n (σ0.1 r 0) (σ0.1 r 1) (σ0.1 0 13) = σ0.1 0 13 := by unfold z_pgF; rw [if_neg h9', if_pos h18']
    rw [eC, eF]
    exact ⟨fun _ => ⟨rfl, hrf.symm⟩, fun q => absurd q (by decide)⟩
  have h18' : ¬ z_wi la 0 2 = false := by rw [z_bn0.mp h18]; decide
  refine x_aload0 (pc2 := 25) dX5_portage_24 rfl ?_
  refine x_getR (pc2 := 28) fX5_23 sh_0 rfl dX5_portage_25 rfl ?_
  refine x_iload1 (pc2 := 29) dX5_portage_28 rfl ?_
  refine x_aald (pc2 := 30) sh_13 (z_in_sh h9) dX5_portage_29 rfl ?_
  rw [hr]
  refine x_astore5 (pc2 := 32) dX5_portage_30 rfl rfl ?_
  refine x_aload5 (pc2 := 34) dX5_portage_32 rfl ?_
  refine x_iload2 (pc2 := 35) dX5_portage_34 rfl ?_
  refine x_fV1 (pc2 := 38) eX3_faultAs kX5_64 (sh_S hiS) rfl (Nat.le_of_ble_eq_true rfl) dX5_portage_35 rfl (s_faultAs _ _ hiS _) ?_
  refine x_istore6 (pc2 := 40) dX5_portage_38 rfl rfl ?_
  refine x_iload6 (pc2 := 42) dX5_portage_40 rfl ?_
  refine x_if_eq (pc2 := 45) (pc3 := 52) dX5_portage_42 rfl rfl (fun h42 => ?_) (fun h42 => ?_)
  rotate_left
  · skip
    refine x_aload0 (pc2 := 46) dX5_portage_45 rfl ?_
    refine x_iload6 (pc2 := 48) dX5_portage_46 rfl ?_
    refine x_fV1 (pc2 := 51) eX5_faulted kX5_68 sh_0 rfl (Nat.le_of_ble_eq_true rfl) dX5_portage_48 rfl (s_faulted _ _ _) ?_
    refine x_iret dX5_portage_51 rfl ?_
    have eC : z_pgC sh la i n (σ0.1 r 0) (σ0.1 r 1) = -10 - z_fa (σ0.1 r 0) la := by unfold z_pgC; rw [if_neg h9', if_neg h18', if_pos h42]
    have eF : z_pgF sh la i n (σ0.1 r 0) (σ0.1 r 1) (σ0.1 0 13) = z_fa (σ0.1 r 0) la := by unfold z_pgF; rw [if_neg h9', if_neg h18', if_pos h42]
    rw [eC, eF]
    refine ⟨fun _ => ⟨rfl, rfl⟩, fun q => ?_⟩
    exfalso
    revert q
    unfold z_fa
    split
    · decide
    · split <;> decide
  have n42 : ¬ ¬ z_fa (σ0.1 r 0) la = 0 := fun q => q h42
  refine x_iload4 (pc2 := 54) dX5_portage_52 rfl ?_
  refine x_if_ge (pc2 := 57) (pc3 := 63) dX5_portage_54 rfl rfl (fun h54 => ?_) (fun h54 => ?_)
  rotate_left
  · skip
    refine x_aload0 (pc2 := 58) dX5_portage_57 rfl ?_
    refine x_iconst (v := 4) (pc2 := 59) dX5_portage_58 rfl (by decide) ?_
    refine x_fV1 (pc2 := 62) eX5_faulted kX5_68 sh_0 rfl (Nat.le_of_ble_eq_true rfl) dX5_portage_59 rfl (s_faulted _ _ _) ?_
    refine x_iret dX5_portage_62 rfl ?_
    have eC : z_pgC sh la i n (σ0.1 r 0) (σ0.1 r 1) = -10 - 4 := by unfold z_pgC; rw [if_neg h9', if_neg h18', if_neg n42, if_pos h54]
    have eF : z_pgF sh la i n (σ0.1 r 0) (σ0.1 r 1) (σ0.1 0 13) = 4 := by unfold z_pgF; rw [if_neg h9', if_neg h18', if_neg n42, if_pos h54]
    rw [eC, eF]
    exact ⟨fun _ => ⟨rfl, rfl⟩, fun q => absurd q (by decide)⟩
  have n54 : ¬ ¬ 0 ≤ n := fun q => q h54
  refine x_aload5 (pc2 := 65) dX5_portage_63 rfl ?_
  refine x_iload3 (pc2 := 66) dX5_portage_65 rfl ?_
  refine x_iload4 (pc2 := 68) dX5_portage_66 rfl ?_
  refine x_fV2 (pc2 := 71) eX3_hasCells kX5_71 (sh_S hiS) rfl (Nat.le_of_ble_eq_true rfl) dX5_portage_68 rfl (s_hasCells _ _ hiS _ _) ?_
  refine x_if_ne (pc2 := 74) (pc3 := 80) dX5_portage_71 rfl rfl (fun h71 => ?_) (fun h71 => ?_)
  rotate_left
  · have h71' := z_b0.mp h71
    refine x_aload0 (pc2 := 75) dX5_portage_74 rfl ?_
    refine x_iconst (v := 3) (pc2 := 76) dX5_portage_75 rfl (by decide) ?_
    refine x_fV1 (pc2 := 79) eX5_faulted kX5_68 sh_0 rfl (Nat.le_of_ble_eq_true rfl) dX5_portage_76 rfl (s_faulted _ _ _) ?_
    refine x_iret dX5_portage_79 rfl ?_
    have eC : z_pgC sh la i n (σ0.1 r 0) (σ0.1 r 1) = -10 - 3 := by unfold z_pgC; rw [if_neg h9', if_neg h18', if_neg n42, if_neg n54, if_pos h71']
    have eF : z_pgF sh la i n (σ0.1 r 0) (σ0.1 r 1) (σ0.1 0 13) = 3 := by unfold z_pgF; rw [if_neg h9', if_neg h18', if_neg n42, if_neg n54, if_pos h71']
    rw [eC, eF]
    exact ⟨fun _ => ⟨rfl, rfl⟩, fun q => absurd q (by decide)⟩
  have h71' := z_bn0.mp h71
  have eC : z_pgC sh la i n (σ0.1 r 0) (σ0.1 r 1) = 0 := by unfold z_pgC; rw [if_neg h9', if_neg h18', if_neg n42, if_neg n54, if_neg (by rw [h71']; decide)]
  rw [eC]
  rw [hz1] at h71'
  obtain ⟨b, m, b1, b2, m1, m2, bm⟩ := z_hc_nat2 hz2 h71'
  rw [b2, m2] at hL
  rw [b1, m1]
  refine x_aload0 (pc2 := 81) dX5_portage_80 rfl ?_
  refine x_getR (pc2 := 84) fX5_18 sh_0 rfl dX5_portage_81 rfl ?_
  refine x_aload5 (pc2 := 86) dX5_portage_84 rfl ?_
  refine x_iload3 (pc2 := 87) dX5_portage_86 rfl ?_
  refine x_iload4 (pc2 := 89) dX5_portage_87 rfl ?_
  refine x_cV3 eX0_readText kX5_75 sh_7 rfl (Nat.le_of_ble_eq_true rfl) dX5_portage_89 ?_
  refine (s_readText d hiS (by omega)).mono ?_
  rintro rv τ ⟨rfl, hP⟩
  show z_At _ _ 92 _ [.int _] _ _
  rw [← hL] at hP ⊢
  have hle : ∀ p, L.1 = some p → p ≤ m := fun p hp => pLoop_le _ m m 0 _ p (by omega) (by rw [← hL]; exact hp)
  have hfr : ∀ q, ¬ (7 ≤ q ∧ q ≤ 12) → τ.1 q = σ0.1 q := fun q hq => by
    rw [hP.2.2.1 q (by omega) (by omega) (by omega) (by omega) (by omega)]
    simp [z_fill, z_up, z_st, show ¬ q = 10 by omega, show ¬ q = 7 by omega]
  have hlo : τ.2 = σ0.2 := hP.2.2.2.2
  refine x_istore7 (pc2 := 94) dX5_portage_92 rfl rfl ?_
  refine x_iload7 (pc2 := 96) dX5_portage_94 rfl ?_
  refine x_bipush (v := -9) (pc2 := 98) dX5_portage_96 rfl (by decide) ?_
  refine x_icmp_eq (pc2 := 101) (pc3 := 107) dX5_portage_98 rfl rfl (fun h98 => ?_) (fun h98 => ?_)
  rotate_left
  · rw [wR_none (fun k hk => by have := hle k hk; omega)] at h98
    refine x_bipush (v := -100) (pc2 := 103) dX5_portage_101 rfl (by decide) ?_
    refine x_iload7 (pc2 := 105) dX5_portage_103 rfl ?_
    refine x_isub (pc2 := 106) dX5_portage_105 rfl ?_
    refine x_iret dX5_portage_106 rfl ?_
    refine ⟨fun q => absurd rfl q, fun _ => ⟨fun p hp => ⟨?_, hfr, hlo⟩, fun q => absurd q h98⟩⟩
    rw [hp]; rfl
  rw [wR_none (fun k hk => by have := hle k hk; omega)] at h98
  refine x_aload0 (pc2 := 108) dX5_portage_107 rfl ?_
  refine x_getR (pc2 := 111) fX5_12 sh_0 rfl dX5_portage_108 rfl ?_
  refine x_aload0 (pc2 := 112) dX5_portage_111 rfl ?_
  refine x_getR (pc2 := 115) fX5_18 sh_0 rfl dX5_portage_112 rfl ?_
  refine x_cV1 eX0_become kX5_79 sh_1 rfl (Nat.le_of_ble_eq_true rfl) dX5_portage_115 ?_
  have hbd : ∀ j, j < 3 → τ.1 (7 + 3) j = 0 := fun j hj => by
    rw [hP.2.2.1 (7 + 3) (by decide) (by decide) (by decide) (by decide) (by decide)]
    simp [z_fill, z_up, hj]
  refine (s_become _ (Or.inl ⟨rfl, rfl⟩) (fun j hj => Or.inl (hbd j hj))).mono ?_
  rintro rv υ ⟨rfl, hB⟩
  show z_At _ _ 118 _ [] _ _
  refine x_aload0 (pc2 := 119) dX5_portage_118 rfl ?_
  refine x_getR (pc2 := 122) fX5_30 sh_0 rfl dX5_portage_119 rfl ?_
  refine x_iconst (v := 0) (pc2 := 123) dX5_portage_122 rfl (by decide) ?_
  refine x_putI (pc2 := 126) pX5_83 sh_22 rfl dX5_portage_123 rfl ?_
  refine x_aload0 (pc2 := 127) dX5_portage_126 rfl ?_
  refine x_pV0 (pc2 := 130) eX5_forgetSearches kX5_86 sh_0 rfl (Nat.le_of_ble_eq_true rfl) dX5_portage_127 rfl (s_forget _ _) ?_
  refine x_aload0 (pc2 := 131) dX5_portage_130 rfl ?_
  refine x_getR (pc2 := 134) fX5_12 sh_0 rfl dX5_portage_131 rfl ?_
  refine x_getI (pc2 := 137) fX5_89 sh_1 rfl dX5_portage_134 rfl ?_
  refine x_iret dX5_portage_137 rfl ?_
  refine ⟨fun q => absurd rfl q, fun _ => ⟨fun p hp => (by rw [h98] at hp; cases hp), fun _ => ⟨?_, ?_⟩⟩⟩
  · show some (Value.int (υ.1 1 6)) = _
    rw [hB.2.2.1.2.2.2, hP.1.2.2]
  · obtain ⟨c1, c2, ⟨c3, c4, c5, c6⟩, c7, c8⟩ := hB
    refine ⟨fun q a1 a2 a3 => ?_, fun j a1 a2 => ?_, ⟨rfl, rfl, rfl⟩, ?_, ⟨?_, ?_, ?_, ?_⟩, fun j hj => ?_, fun t ht => ?_⟩
    · rw [z_st_row _ _ _ a1, z_st_row _ _ _ a1, z_st_row _ _ _ a3, c1 q (by omega), hfr q (by omega)]
    · rw [z_st_fld _ _ _ a2, z_st_fld _ _ _ a1, z_st_row _ _ _ (by decide), c1 0 (by decide), hfr 0 (by decide)]
    · show υ.2 = _
      rw [c2]; exact hlo
    · show υ.1 1 0 = _
      rw [c3]; exact hP.1.1
    · show υ.1 1 1 = _
      rw [c4, hP.2.2.2.1]; rfl
    · show υ.1 1 2 = _
      rw [c5]; exact hP.1.2.1
    · show υ.1 1 6 = _
      rw [c6]; exact hP.1.2.2
    · have := c7 j hj
      refine ⟨this.1.trans (congrFun hP.2.1.1 j), this.2.1.trans (congrFun hP.2.1.2.1 j), this.2.2.trans (hbd j hj)⟩
    · have := c8 t ht
      exact ⟨this.1.trans (congrFun hP.2.1.2.2.1 t), this.2.trans (congrFun hP.2.1.2.2.2 t)⟩
