/-! the class's takeTrips, the model's layTrips -/
def gFt (σ τ : zS) : Prop := (∀ q, q ≠ 26 → q ≠ 27 → q ≠ 28 → τ.1 q = σ.1 q) ∧ (∀ j, j ≠ 0 → τ.1 26 j = σ.1 26 j) ∧ τ.2 = σ.2
theorem gFt.rf (σ : zS) : gFt σ σ := ⟨fun _ _ _ _ => rfl, fun _ _ => rfl, rfl⟩
def z_tC (σ : zS) (sh la i n a : Int32) : Int32 := if z_wi sh 0 3 = false then -1 else if z_wi la 0 2 = false ∨ n < 0 ∨ 18 < n ∨ a = 0 then -2 else if ¬ z_fa (σ.1 (14 + sh.toNatClampNeg) 0) la = 0 then -10 - z_fa (σ.1 (14 + sh.toNatClampNeg) 0) la else if z_hc i (2 * n) (σ.1 (14 + sh.toNatClampNeg) 1) = false then -10 - 3 else if z_pos (σ.1 1 2) = false then -3 else z_ck (σ.1 (14 + sh.toNatClampNeg + 4)) i.toNatClampNeg (σ.1 1 2) (σ.1 1 6) n.toNatClampNeg
def z_tF (σ : zS) (sh la i n a : Int32) : zS := if z_wi sh 0 3 = false then σ else if z_wi la 0 2 = false ∨ n < 0 ∨ 18 < n ∨ a = 0 then σ else if ¬ z_fa (σ.1 (14 + sh.toNatClampNeg) 0) la = 0 then z_st σ 0 13 (z_fa (σ.1 (14 + sh.toNatClampNeg) 0) la) else if z_hc i (2 * n) (σ.1 (14 + sh.toNatClampNeg) 1) = false then z_st σ 0 13 3 else σ
theorem gb_two : ∀ n < 19, (2 : Int32) * nI n = nI (2 * n) := by decide +kernel
theorem z_hc_nat {i : Int32} {n z : Nat} (hn : n ≤ 18) (hz : z ≤ 60) (h : z_hc i (nI (2 * n)) (nI z) = true) : ∃ b, i = nI b ∧ i.toNatClampNeg = b ∧ b + 2 * n ≤ z := by
  unfold z_hc at h
  rw [Bool.and_eq_true, Bool.and_eq_true, Bool.and_eq_true] at h
  have h1 : ¬ i < 0 := by simpa using h.2.1
  have h2 : ¬ nI z < i := by simpa using h.2.2.1
  have h3 : ¬ nI z - i < nI (2 * n) := by simpa using h.2.2.2
  have hx := z_nat h1
  have hlt : i.toNatClampNeg < 2 ^ 31 := by
    have := Int32.toInt_lt i
    unfold Int32.toNatClampNeg
    omega
  refine ⟨i.toNatClampNeg, hx, rfl, ?_⟩
  rw [hx, nI_lt_iff (by omega) hlt] at h2
  have e : nI z - i = nI (z - i.toNatClampNeg) := by
    conv => lhs; rw [hx]
    have := Int32.ofNat_sub (a := z) (b := i.toNatClampNeg) (by omega)
    exact this.symm
  rw [e, nI_lt_iff (by omega) (by omega)] at h3
  omega
theorem s_takeTrips (d : Nat) {σ : zS} (sh la i n a : Int32) {N K : Nat} (hN : σ.1 1 2 = nI N) (hN3 : N ≤ 3) (hK : σ.1 1 6 = nI K) (hK4 : K ≤ 4) (hz : vp_in sh 4 → ∃ z : Nat, σ.1 (14 + sh.toNatClampNeg) 1 = nI z ∧ z ≤ 60) : z_Ex mX5_takeTrips (d + 2) [.ref 0, .int sh, .int la, .int i, .int n, .int a] σ (fun rv τ => rv = some (.int (z_tC σ sh la i n a)) ∧ gFt (z_tF σ sh la i n a) τ ∧ (z_tC σ sh la i n a = 0 → gTc τ n.toNatClampNeg (z_to (σ.1 (14 + sh.toNatClampNeg + 4)) i.toNatClampNeg) (z_xs (σ.1 (14 + sh.toNatClampNeg + 4)) i.toNatClampNeg))) := by
  refine x_enter (by decide) (Nat.le_of_ble_eq_true rfl) ?_
  show z_At _ _ _ [.ref 0, .int sh, .int la, .int i, .int n, .int a, .null, .null, .null, .null, .null] _ _ _
  refine x_iload1 (pc2 := 1) dX5_takeTrips_0 rfl ?_
  refine x_fS1 (pc2 := 4) eX5_isSheet kX5_57 (Nat.le_of_ble_eq_true rfl) dX5_takeTrips_1 rfl (s_isSheetC _ _ _) ?_
  refine x_if_ne (pc2 := 7) (pc3 := 9) dX5_takeTrips_4 rfl rfl (fun h4 => ?_) (fun h4 => ?_)
  rotate_left
  · rw [z_b0] at h4
    refine x_iconst (v := -1) (pc2 := 8) dX5_takeTrips_7 rfl (by decide) ?_
    refine x_iret dX5_takeTrips_8 rfl ?_
    have eC : z_tC σ sh la i n a = -1 := by simp [z_tC, h4]
    have eF : z_tF σ sh la i n a = σ := by simp [z_tF, h4]
    rw [eC, eF]
    exact ⟨rfl, gFt.rf _, fun q => absurd q (by decide)⟩
  have h4' := z_bn0.mp h4
  suffices hout : (z_wi la 0 2 = false ∨ n < 0 ∨ 18 < n ∨ a = 0) ∨ (¬ (z_wi la 0 2 = false ∨ n < 0 ∨ 18 < n ∨ a = 0) ∧ z_At mX5_takeTrips (d + 2) 36 [.ref 0, .int sh, .int la, .int i, .int n, .int a, .null, .null, .null, .null, .null] [] σ (fun rv τ => rv = some (.int (z_tC σ sh la i n a)) ∧ gFt (z_tF σ sh la i n a) τ ∧ (z_tC σ sh la i n a = 0 → gTc τ n.toNatClampNeg (z_to (σ.1 (14 + sh.toNatClampNeg + 4)) i.toNatClampNeg) (z_xs (σ.1 (14 + sh.toNatClampNeg + 4)) i.toNatClampNeg)))) by
    have hbad : (z_wi la 0 2 = false ∨ n < 0 ∨ 18 < n ∨ a = 0) → z_At mX5_takeTrips (d + 2) 33 [.ref 0, .int sh, .int la, .int i, .int n, .int a, .null, .null, .null, .null, .null] [] σ (fun rv τ => rv = some (.int (z_tC σ sh la i n a)) ∧ gFt (z_tF σ sh la i n a) τ ∧ (z_tC σ sh la i n a = 0 → gTc τ n.toNatClampNeg (z_to (σ.1 (14 + sh.toNatClampNeg + 4)) i.toNatClampNeg) (z_xs (σ.1 (14 + sh.toNatClampNeg + 4)) i.toNatClampNeg))) := by
      intro hb
      refine x_bipush (v := -2) (pc2 := 35) dX5_takeTrips_33 rfl (by decide) ?_
      refine x_iret dX5_takeTrips_35 rfl ?_
      have eC : z_tC σ sh la i n a = -2 := by unfold z_tC; rw [if_neg (by rw [h4']; decide), if_pos hb]
      have eF : z_tF σ sh la i n a = σ := by unfold z_tF; rw [if_neg (by rw [h4']; decide), if_pos hb]
      rw [eC, eF]
      exact ⟨rfl, gFt.rf _, fun q => absurd q (by decide)⟩
    refine x_iload2 (pc2 := 10) dX5_takeTrips_9 rfl ?_
    refine x_fS1 (pc2 := 13) eX5_isLane kX5_61 (Nat.le_of_ble_eq_true rfl) dX5_takeTrips_10 rfl (s_isLane _ _ _) ?_
    refine x_if_eq (pc2 := 16) (pc3 := 33) dX5_takeTrips_13 rfl rfl (fun h13 => ?_) (fun h13 => ?_)
    · exact hbad (Or.inl (z_b0.mp h13))
    · skip
      refine x_iload4 (pc2 := 18) dX5_takeTrips_16 rfl ?_
      refine x_if_lt (pc2 := 21) (pc3 := 33) dX5_takeTrips_18 rfl rfl (fun h18 => ?_) (fun h18 => ?_)
      · exact hbad (Or.inr (Or.inl h18))
      · skip
        refine x_iload4 (pc2 := 23) dX5_takeTrips_21 rfl ?_
        refine x_bipush (v := 18) (pc2 := 25) dX5_takeTrips_23 rfl (by decide) ?_
        refine x_icmp_gt (pc2 := 28) (pc3 := 33) dX5_takeTrips_25 rfl rfl (fun h25 => ?_) (fun h25 => ?_)
        · exact hbad (Or.inr (Or.inr (Or.inl h25)))
        · skip
          refine x_iload5 (pc2 := 30) dX5_takeTrips_28 rfl ?_
          refine x_if_ne (pc2 := 33) (pc3 := 36) dX5_takeTrips_30 rfl rfl (fun h30 => ?_) (fun h30 => ?_)
          · rcases hout with q | q
            · rcases q with q | q | q | q
              · exact absurd (z_bn0.mp h13) (by rw [q]; decide)
              · exact absurd q h18
              · exact absurd q h25
              · exact absurd q h30
            · exact q.2
          · exact hbad (Or.inr (Or.inr (Or.inr h30)))
  by_cases hb : z_wi la 0 2 = false ∨ n < 0 ∨ 18 < n ∨ a = 0
  · exact Or.inl hb
  refine Or.inr ⟨hb, ?_⟩
  obtain ⟨z, hz1, hz2⟩ := hz (z_in_sh h4)
  have hiS := z_isS_of (z_in_sh h4)
  have hn0 : ¬ n < 0 := fun q => hb (Or.inr (Or.inl q))
  obtain ⟨n', hn'⟩ : ∃ n', n' = n.toNatClampNeg := ⟨_, rfl⟩
  have hnI : n = nI n' := by rw [hn']; exact z_nat hn0
  have hn31 : n' < 2 ^ 31 := by
    have := Int32.toInt_lt n
    rw [hn']
    unfold Int32.toNatClampNeg
    omega
  have hn18 : n' ≤ 18 := by
    have : ¬ (18 : Int32) < n := fun q => hb (Or.inr (Or.inr (Or.inl q)))
    rw [hnI, show (18 : Int32) = nI 18 from rfl, nI_lt_iff (by decide) hn31] at this
    omega
  refine x_aload0 (pc2 := 37) dX5_takeTrips_36 rfl ?_
  refine x_getR (pc2 := 40) fX5_23 sh_0 rfl dX5_takeTrips_37 rfl ?_
  refine x_iload1 (pc2 := 41) dX5_takeTrips_40 rfl ?_
  refine x_aald (pc2 := 42) sh_13 (by exact z_in_sh ‹¬ z_b (z_wi sh 0 3) = 0›) dX5_takeTrips_41 rfl ?_
  refine x_astore6 (pc2 := 44) dX5_takeTrips_42 rfl rfl ?_
  refine x_aload6 (pc2 := 46) dX5_takeTrips_44 rfl ?_
  refine x_iload2 (pc2 := 47) dX5_takeTrips_46 rfl ?_
  refine x_fV1 (pc2 := 50) eX3_faultAs kX5_64 (sh_S (z_isS_of (z_in_sh ‹¬ z_b (z_wi sh 0 3) = 0›))) rfl (Nat.le_of_ble_eq_true rfl) dX5_takeTrips_47 rfl (s_faultAs _ _ (z_isS_of (z_in_sh ‹¬ z_b (z_wi sh 0 3) = 0›)) _) ?_
  refine x_istore7 (pc2 := 52) dX5_takeTrips_50 rfl rfl ?_
  refine x_iload7 (pc2 := 54) dX5_takeTrips_52 rfl ?_
  refine x_if_eq (pc2 := 57) (pc3 := 64) dX5_takeTrips_54 rfl rfl (fun h54 => ?_) (fun h54 => ?_)
  rotate_left
  · skip
    refine x_aload0 (pc2 := 58) dX5_takeTrips_57 rfl ?_
    refine x_iload7 (pc2 := 60) dX5_takeTrips_58 rfl ?_
    refine x_fV1 (pc2 := 63) eX5_faulted kX5_68 sh_0 rfl (Nat.le_of_ble_eq_true rfl) dX5_takeTrips_60 rfl (s_faulted _ _ _) ?_
    refine x_iret dX5_takeTrips_63 rfl ?_
    have eC : z_tC σ sh la i n a = -10 - z_fa (σ.1 (14 + sh.toNatClampNeg) 0) la := by unfold z_tC; rw [if_neg (by rw [h4']; decide), if_neg hb, if_pos h54]
    have eF : z_tF σ sh la i n a = z_st σ 0 13 (z_fa (σ.1 (14 + sh.toNatClampNeg) 0) la) := by unfold z_tF; rw [if_neg (by rw [h4']; decide), if_neg hb, if_pos h54]
    rw [eC, eF]
    refine ⟨rfl, gFt.rf _, fun q => ?_⟩
    exfalso
    revert q
    unfold z_fa
    split
    · decide
    · split <;> decide
  refine x_aload6 (pc2 := 66) dX5_takeTrips_64 rfl ?_
  refine x_iload3 (pc2 := 67) dX5_takeTrips_66 rfl ?_
  refine x_iconst (v := 2) (pc2 := 68) dX5_takeTrips_67 rfl (by decide) ?_
  refine x_iload4 (pc2 := 70) dX5_takeTrips_68 rfl ?_
  refine x_imul (pc2 := 71) dX5_takeTrips_70 rfl ?_
  refine x_fV2 (pc2 := 74) eX3_hasCells kX5_71 (sh_S (z_isS_of (z_in_sh ‹¬ z_b (z_wi sh 0 3) = 0›))) rfl (Nat.le_of_ble_eq_true rfl) dX5_takeTrips_71 rfl (s_hasCells _ _ (z_isS_of (z_in_sh ‹¬ z_b (z_wi sh 0 3) = 0›)) _ _) ?_
  refine x_if_ne (pc2 := 77) (pc3 := 83) dX5_takeTrips_74 rfl rfl (fun h74 => ?_) (fun h74 => ?_)
  rotate_left
  · have h74' := z_b0.mp h74
    refine x_aload0 (pc2 := 78) dX5_takeTrips_77 rfl ?_
    refine x_iconst (v := 3) (pc2 := 79) dX5_takeTrips_78 rfl (by decide) ?_
    refine x_fV1 (pc2 := 82) eX5_faulted kX5_68 sh_0 rfl (Nat.le_of_ble_eq_true rfl) dX5_takeTrips_79 rfl (s_faulted _ _ _) ?_
    refine x_iret dX5_takeTrips_82 rfl ?_
    have eC : z_tC σ sh la i n a = -10 - 3 := by unfold z_tC; rw [if_neg (by rw [h4']; decide), if_neg hb, if_neg (fun q => q h54), if_pos h74']
    have eF : z_tF σ sh la i n a = z_st σ 0 13 3 := by unfold z_tF; rw [if_neg (by rw [h4']; decide), if_neg hb, if_neg (fun q => q h54), if_pos h74']
    rw [eC, eF]
    exact ⟨rfl, gFt.rf _, fun q => absurd q (by decide)⟩
  have h74' := z_bn0.mp h74
  have eF : z_tF σ sh la i n a = σ := by unfold z_tF; rw [if_neg (by rw [h4']; decide), if_neg hb, if_neg (fun q => q h54), if_neg (by rw [h74']; decide)]
  rw [eF]
  refine x_aload0 (pc2 := 84) dX5_takeTrips_83 rfl ?_
  refine x_getR (pc2 := 87) fX5_12 sh_0 rfl dX5_takeTrips_84 rfl ?_
  refine x_fV0 (pc2 := 90) eX0_isThere kX5_114 sh_1 rfl (Nat.le_of_ble_eq_true rfl) dX5_takeTrips_87 rfl (s_isThere _ _ z_P1) ?_
  refine x_if_ne (pc2 := 93) (pc3 := 96) dX5_takeTrips_90 rfl rfl (fun h90 => ?_) (fun h90 => ?_)
  rotate_left
  · have h90' := z_b0.mp h90
    refine x_bipush (v := -3) (pc2 := 95) dX5_takeTrips_93 rfl (by decide) ?_
    refine x_iret dX5_takeTrips_95 rfl ?_
    have eC : z_tC σ sh la i n a = -3 := by unfold z_tC; rw [if_neg (by rw [h4']; decide), if_neg hb, if_neg (fun q => q h54), if_neg (by rw [h74']; decide), if_pos h90']
    rw [eC]
    exact ⟨rfl, gFt.rf _, fun q => absurd q (by decide)⟩
  have h90' := z_bn0.mp h90
  have eC : z_tC σ sh la i n a = z_ck (σ.1 (14 + sh.toNatClampNeg + 4)) i.toNatClampNeg (σ.1 1 2) (σ.1 1 6) n.toNatClampNeg := by unfold z_tC; rw [if_neg (by rw [h4']; decide), if_neg hb, if_neg (fun q => q h54), if_neg (by rw [h74']; decide), if_neg (by rw [h90']; decide)]
  rw [eC]
  rw [hz1, hnI, gb_two n' (by omega)] at h74'
  obtain ⟨b, hib, hib2, hbz⟩ := z_hc_nat hn18 hz2 h74'
  rw [hib2, ← hn', hnI, hib]
  clear eC eF h74 h74' h54 h4' hb hn0 hz
  generalize hr : 14 + sh.toNatClampNeg = r at *
  have hr26 : r + 4 ≠ 26 ∧ r + 4 ≠ 27 ∧ r + 4 ≠ 28 := by rcases hiS with rfl | rfl | rfl | rfl <;> decide
  have hN' := hN
  have hK' := hK
  refine x_aload0 (pc2 := 97) dX5_takeTrips_96 rfl ?_
  refine x_getR (pc2 := 100) fX5_37 sh_0 rfl dX5_takeTrips_97 rfl ?_
  refine x_iconst (v := 0) (pc2 := 101) dX5_takeTrips_100 rfl (by decide) ?_
  refine x_putI (pc2 := 104) pX5_166 sh_26 rfl dX5_takeTrips_101 rfl ?_
  refine x_iconst (v := 0) (pc2 := 105) dX5_takeTrips_104 rfl (by decide) ?_
  refine x_istore8 (pc2 := 107) dX5_takeTrips_105 rfl rfl ?_
  suffices h : ∀ j k, k + j = n' → ∀ o9 o10 : Value, ∀ τ, gFt σ τ → τ.1 26 0 = nI k → (∀ q, q < k → τ.1 27 q = σ.1 (r + 4) (b + 2 * q) ∧ τ.1 28 q = σ.1 (r + 4) (b + 2 * q + 1)) → z_ck (σ.1 (r + 4)) b (σ.1 1 2) (σ.1 1 6) k = 0 → z_At mX5_takeTrips (d + 2) 107 [.ref 0, .int sh, .int la, .int (nI b), .int (nI n'), .int a, .ref r, .int (z_fa (σ.1 r 0) la), .int (nI k), o9, o10] [] τ (fun rv τ => rv = some (.int (z_ck (σ.1 (r + 4)) b (σ.1 1 2) (σ.1 1 6) n')) ∧ gFt σ τ ∧ (z_ck (σ.1 (r + 4)) b (σ.1 1 2) (σ.1 1 6) n' = 0 → gTc τ n' (z_to (σ.1 (r + 4)) b) (z_xs (σ.1 (r + 4)) b))) from h n' 0 (by omega) _ _ _ ⟨fun q h1 _ _ => z_st_row _ _ _ h1, fun j h1 => z_st_fld _ _ _ h1, rfl⟩ rfl (fun q hq => by omega) rfl
  intro j
  induction j with
  | zero =>
    intro k hk o9 o10 τ hF hc0 hrow hck
    obtain rfl : k = n' := by omega
    refine x_iload8 (pc2 := 109) dX5_takeTrips_107 rfl ?_
    refine x_iload4 (pc2 := 111) dX5_takeTrips_109 rfl ?_
    refine x_icmp_ge (pc2 := 114) (pc3 := 190) dX5_takeTrips_111 rfl rfl (fun h111 => ?_) (fun h111 => ?_)
    · skip
      refine x_iconst (v := 0) (pc2 := 191) dX5_takeTrips_190 rfl (by decide) ?_
      refine x_iret dX5_takeTrips_191 rfl ?_
      refine ⟨by rw [hck], hF, fun _ => ⟨hc0, hn18, fun q hq => ?_⟩⟩
      obtain ⟨g1, g2⟩ := z_ck_ok k hck q hq
      rw [hN] at g1
      rw [hK] at g2
      obtain ⟨v, v1, v2, v3⟩ := z_spot_nat hN3 g1
      obtain ⟨s, s1, s2, s3⟩ := z_os_nat hK4 g2
      have hpow : 2 ^ K ≤ 2 ^ 4 := Nat.pow_le_pow_right (by decide) hK4
      rw [(hrow q hq).1, (hrow q hq).2]
      unfold z_to z_xs
      rw [v3, s3, Nat.mod_eq_of_lt (by omega)]
      exact ⟨v2, by omega, s2⟩
    · exact absurd (Int32.le_refl _) h111
  | succ j ih =>
    intro k hk o9 o10 τ hF hc0 hrow hck
    have eR : τ.1 (r + 4) = σ.1 (r + 4) := hF.1 _ hr26.1 hr26.2.1 hr26.2.2
    have e1 : τ.1 1 = σ.1 1 := hF.1 1 (by decide) (by decide) (by decide)
    refine x_iload8 (pc2 := 109) dX5_takeTrips_107 rfl ?_
    refine x_iload4 (pc2 := 111) dX5_takeTrips_109 rfl ?_
    refine x_icmp_ge (pc2 := 114) (pc3 := 190) dX5_takeTrips_111 rfl rfl (fun h111 => ?_) (fun h111 => ?_)
    · exact absurd h111 (nI_ge (by omega) (by omega))
    · skip
      refine x_aload6 (pc2 := 116) dX5_takeTrips_114 rfl ?_
      refine x_getR (pc2 := 119) fX5_167 (sh_S hiS) rfl dX5_takeTrips_116 rfl ?_
      refine x_iload3 (pc2 := 120) dX5_takeTrips_119 rfl ?_
      refine x_iconst (v := 2) (pc2 := 121) dX5_takeTrips_120 rfl (by decide) ?_
      refine x_iload8 (pc2 := 123) dX5_takeTrips_121 rfl ?_
      refine x_imul (pc2 := 124) dX5_takeTrips_123 rfl ?_
      rw [gb_two k (by omega)]
      refine x_iadd (pc2 := 125) dX5_takeTrips_124 rfl ?_
      rw [z_nIadd]
      refine x_iald (pc2 := 126) (sh_S1 hiS) (by exact z_in (by omega)) dX5_takeTrips_125 rfl ?_
      refine x_istore9 (pc2 := 128) dX5_takeTrips_126 rfl rfl ?_
      refine x_aload6 (pc2 := 130) dX5_takeTrips_128 rfl ?_
      refine x_getR (pc2 := 133) fX5_167 (sh_S hiS) rfl dX5_takeTrips_130 rfl ?_
      refine x_iload3 (pc2 := 134) dX5_takeTrips_133 rfl ?_
      refine x_iconst (v := 2) (pc2 := 135) dX5_takeTrips_134 rfl (by decide) ?_
      refine x_iload8 (pc2 := 137) dX5_takeTrips_135 rfl ?_
      refine x_imul (pc2 := 138) dX5_takeTrips_137 rfl ?_
      rw [gb_two k (by omega), nI_clamp (by omega)]
      refine x_iadd (pc2 := 139) dX5_takeTrips_138 rfl ?_
      rw [z_nIadd]
      refine x_iconst (v := 1) (pc2 := 140) dX5_takeTrips_139 rfl (by decide) ?_
      refine x_iadd (pc2 := 141) dX5_takeTrips_140 rfl ?_
      rw [← nI_succ]
      refine x_iald (pc2 := 142) (sh_S1 hiS) (by exact z_in (by omega)) dX5_takeTrips_141 rfl ?_
      refine x_istore10 (pc2 := 144) dX5_takeTrips_142 rfl rfl ?_
      refine x_aload0 (pc2 := 145) dX5_takeTrips_144 rfl ?_
      refine x_getR (pc2 := 148) fX5_12 sh_0 rfl dX5_takeTrips_145 rfl ?_
      refine x_iload9 (pc2 := 150) dX5_takeTrips_148 rfl ?_
      rw [nI_clamp (by omega), eR]
      refine x_fV1 (pc2 := 153) eX0_hasSpot kX5_147 sh_1 rfl (Nat.le_of_ble_eq_true rfl) dX5_takeTrips_150 rfl (s_hasSpot _ _ z_P1 _) ?_
      rw [e1]
      refine x_if_ne (pc2 := 156) (pc3 := 158) dX5_takeTrips_153 rfl rfl (fun h153 => ?_) (fun h153 => ?_)
      rotate_left
      · have h153' := z_b0.mp h153
        refine x_iconst (v := -1) (pc2 := 157) dX5_takeTrips_156 rfl (by decide) ?_
        refine x_iret dX5_takeTrips_157 rfl ?_
        have hc1 : z_ck (σ.1 (r + 4)) b (σ.1 1 2) (σ.1 1 6) (k + 1) = -1 := by rw [z_ck, if_pos hck, if_pos h153']
        have := z_ck_stay (k := k + 1) (by rw [hc1]; decide) j
        rw [show k + 1 + j = n' by omega, hc1] at this
        rw [this]
        exact ⟨rfl, hF, fun q => absurd q (by decide)⟩
      have h153' := z_bn0.mp h153
      refine x_aload0 (pc2 := 159) dX5_takeTrips_158 rfl ?_
      refine x_getR (pc2 := 162) fX5_12 sh_0 rfl dX5_takeTrips_159 rfl ?_
      refine x_iload10 (pc2 := 164) dX5_takeTrips_162 rfl ?_
      refine x_fV1 (pc2 := 167) eX0_hasAllOf kX5_124 sh_1 rfl (Nat.le_of_ble_eq_true rfl) dX5_takeTrips_164 rfl (s_hasAllOf _ _ z_P1 _) ?_
      rw [e1, hK, z_ushr_os _ hK4]
      refine x_if_ne (pc2 := 170) (pc3 := 173) dX5_takeTrips_167 rfl rfl (fun h167 => ?_) (fun h167 => ?_)
      rotate_left
      · have h167' := z_b0.mp h167
        refine x_bipush (v := -2) (pc2 := 172) dX5_takeTrips_170 rfl (by decide) ?_
        refine x_iret dX5_takeTrips_172 rfl ?_
        have hc1 : z_ck (σ.1 (r + 4)) b (σ.1 1 2) (σ.1 1 6) (k + 1) = -2 := by rw [z_ck, if_pos hck, if_neg (by rw [h153']; decide), hK, if_pos h167']
        have := z_ck_stay (k := k + 1) (by rw [hc1]; decide) j
        rw [show k + 1 + j = n' by omega, hc1, hK] at this
        rw [this]
        exact ⟨rfl, hF, fun q => absurd q (by decide)⟩
      have h167' := z_bn0.mp h167
      refine x_aload0 (pc2 := 174) dX5_takeTrips_173 rfl ?_
      refine x_getR (pc2 := 177) fX5_37 sh_0 rfl dX5_takeTrips_174 rfl ?_
      refine x_iload9 (pc2 := 179) dX5_takeTrips_177 rfl ?_
      refine x_iload10 (pc2 := 181) dX5_takeTrips_179 rfl ?_
      refine x_pV2 (pc2 := 184) eX4_add kX5_170 sh_26 rfl (Nat.le_of_ble_eq_true rfl) dX5_takeTrips_181 rfl (s_add4 _ hc0 (by omega) _ _) ?_
      refine x_iinc8 (pc2 := 187) dX5_takeTrips_184 rfl (z_inc1 _) rfl ?_
      refine x_goto (pc2 := 107) dX5_takeTrips_187 rfl ?_
      rw [← nI_succ]
      have hc1 : z_ck (σ.1 (r + 4)) b (σ.1 1 2) (σ.1 1 6) (k + 1) = 0 := by rw [z_ck, if_pos hck, if_neg (by rw [h153']; decide), hK, if_neg (by rw [h167']; decide)]
      rw [hK] at ih
      rw [hK] at hc1
      refine ih (k + 1) (by omega) _ _ _ ⟨fun q h1 h2 h3 => ?_, fun q h1 => ?_, hF.2.2⟩ (z_st_at _ _ _ _) (fun q hq => ?_) hc1
      · rw [z_st_row _ _ _ h1, z_st_row _ _ _ h3, z_st_row _ _ _ h2]; exact hF.1 q h1 h2 h3
      · rw [z_st_fld _ _ _ h1, z_st_row _ _ _ (by decide), z_st_row _ _ _ (by decide)]; exact hF.2.1 q h1
      · have g1 : (z_st (z_st (z_st τ 27 k (σ.1 (r + 4) (b + 2 * k))) 28 k (σ.1 (r + 4) (b + 2 * k + 1))) 26 0 (nI (k + 1))).1 27 = upd (τ.1 27) k (σ.1 (r + 4) (b + 2 * k)) := by rw [z_st_row _ _ _ (by decide), z_st_row _ _ _ (by decide), z_st_rowS]
        have g2 : (z_st (z_st (z_st τ 27 k (σ.1 (r + 4) (b + 2 * k))) 28 k (σ.1 (r + 4) (b + 2 * k + 1))) 26 0 (nI (k + 1))).1 28 = upd (τ.1 28) k (σ.1 (r + 4) (b + 2 * k + 1)) := by rw [z_st_row _ _ _ (by decide), z_st_rowS, z_st_row _ _ _ (by decide)]
        rw [g1, g2]
        unfold upd
        by_cases e : q = k
        · rw [if_pos e, if_pos e, e]
          exact ⟨rfl, rfl⟩
        · rw [if_neg e, if_neg e]
          exact hrow q (by omega)
