/-! the model's trips -/
def gFv (σ τ : zS) (f : Int32) : Prop := (∀ q, q ≠ 43 → q ≠ 54 → q ≠ 55 → q ≠ 56 → q ≠ 57 → τ.1 q = σ.1 q) ∧ (∀ j, j ≠ 0 → j ≠ 21 → j ≠ 26 → j ≠ 27 → τ.1 43 j = σ.1 43 j) ∧ τ.1 43 0 = f ∧ ∀ q, q ≠ 43 → τ.2 q = σ.2 q
theorem z_lF_or (σ : zS) (sh la i n : Int32) : (∀ q, q ≠ 43 → (z_lF σ sh la i n).1 q = σ.1 q) ∧ (∀ j, j ≠ 0 → (z_lF σ sh la i n).1 43 j = σ.1 43 j) ∧ (z_lF σ sh la i n).2 = σ.2 := by
  unfold z_lF
  split
  · exact ⟨fun q h => z_st_row _ _ _ h, fun j h => z_st_fld _ _ _ h, rfl⟩
  · exact ⟨fun _ _ => rfl, fun _ _ => rfl, rfl⟩
theorem gFl.v {σ τ : zS} {sh la i n : Int32} (h : gFl (z_lF σ sh la i n) τ) : gFv σ τ ((z_lF σ sh la i n).1 43 0) := by
  obtain ⟨k1, k2, k3⟩ := z_lF_or σ sh la i n
  obtain ⟨h1, h2, h3⟩ := h
  refine ⟨fun q a1 a2 a3 a4 a5 => ?_, fun j b1 b2 b3 b4 => ?_, ?_, fun q hq => ?_⟩
  · rw [h1 q a1 a2 a3, k1 q a1]
  · rw [h2 j b2, k2 j b1]
  · rw [h2 0 (by decide)]
  · rw [h3, k3]
theorem gFv.c {σ τ υ : zS} {f : Int32} (h : gFv σ τ f) (hc : gFm τ υ) : gFv σ υ f := by
  obtain ⟨h1, h2, h3, h4⟩ := h
  obtain ⟨c1, c2, c3⟩ := hc
  refine ⟨fun q a1 a2 a3 a4 a5 => ?_, fun j b1 b2 b3 b4 => ?_, ?_, fun q hq => ?_⟩
  · rw [c1 q a1 a4 a5]; exact h1 q a1 a2 a3 a4 a5
  · rw [c2 j b3 b4]; exact h2 j b1 b2 b3 b4
  · rw [c2 0 (by decide) (by decide)]; exact h3
  · rw [c3 q hq]; exact h4 q hq
theorem gM.v {σ τ : zS} {c : zG} {f : Int32} (h : gM σ c) (hf : gFv σ τ f) : gM τ c := by
  obtain ⟨⟨a1, a2, a3⟩, ⟨b1, b2⟩, ⟨c1, c2, c3⟩, d1, e1⟩ := h
  obtain ⟨f1, f2, -⟩ := hf
  have g1 : ∀ q, 44 ≤ q → q < 54 → τ.1 q = σ.1 q := fun q h1 h2 => f1 q (by omega) (by omega) (by omega) (by omega) (by omega)
  have g2 : ∀ j, 1 ≤ j → j < 21 → τ.1 43 j = σ.1 43 j := fun j h1 h2 => f2 j (by omega) (by omega) (by omega) (by omega)
  exact ⟨⟨(g2 7 (by decide) (by decide)).trans a1, (g2 6 (by decide) (by decide)).trans a2, (g2 14 (by decide) (by decide)).trans a3⟩, ⟨(g1 50 (by decide) (by decide)).trans b1, (g1 51 (by decide) (by decide)).trans b2⟩, ⟨(g1 47 (by decide) (by decide)).trans c1, (g1 48 (by decide) (by decide)).trans c2, (g1 49 (by decide) (by decide)).trans c3⟩, (g2 5 (by decide) (by decide)).trans d1, (g2 8 (by decide) (by decide)).trans e1⟩
def z_mC (σ : zS) (sh la i n a : Int32) : Int32 := if z_wi sh 0 3 = false then -1 else if (z_wi la 0 2 && z_wi n 0 18) = false ∨ a = 0 then -2 else z_lC σ sh la i n
def z_mF (σ : zS) (sh la i n a : Int32) : zS := if z_wi sh 0 3 = false then σ else if (z_wi la 0 2 && z_wi n 0 18) = false ∨ a = 0 then σ else z_lF σ sh la i n
theorem gFv.rf {σ : zS} : gFv σ σ (σ.1 43 0) := ⟨fun _ _ _ _ _ _ => rfl, fun _ _ _ _ _ => rfl, rfl, fun _ _ => rfl⟩
theorem z_wi18 {n : Int32} (h : z_wi n 0 18 = true) : ∃ n', n = nI n' ∧ n.toNatClampNeg = n' ∧ n' ≤ 18 := by
  unfold z_wi at h
  rw [Bool.and_eq_true] at h
  have h1 : ¬ n < 0 := by simpa using h.1
  have h2 : ¬ (18 : Int32) < n := by simpa using h.2
  have hx := z_nat h1
  have hlt : n.toNatClampNeg < 2 ^ 31 := by
    have := Int32.toInt_lt n
    unfold Int32.toNatClampNeg
    omega
  refine ⟨n.toNatClampNeg, hx, rfl, ?_⟩
  rw [hx, show (18 : Int32) = nI 18 from rfl, nI_lt_iff (by decide) hlt] at h2
  omega
theorem z_lC_0 {σ : zS} {sh la i n : Int32} (h : z_lC σ sh la i n = 0) : ¬ σ.1 43 6 = 0 ∧ z_ck (z_row σ sh.toNatClampNeg) i.toNatClampNeg (σ.1 43 6) (σ.1 43 7) n.toNatClampNeg = 0 := by
  unfold z_lC at h
  by_cases h1 : ¬ z_ag (σ.1 44 sh.toNatClampNeg) la i (2 * n) (σ.1 45 sh.toNatClampNeg) = 0
  · rw [if_pos h1] at h
    exfalso
    revert h
    unfold z_ag
    split
    · decide
    · split
      · decide
      · split
        · decide
        · split <;> decide
  rw [if_neg h1] at h
  by_cases h2 : σ.1 43 6 = 0
  · rw [if_pos h2] at h; exact absurd h (by decide)
  rw [if_neg h2] at h
  exact ⟨h2, h⟩
theorem s_tripsM (d : Nat) (σ σ0 : zS) (hσ : σ0 = z_g0 σ) (sh la i n w : Int32) {N K : Nat} (hN : σ0.1 43 6 = nI N) (hN3 : N ≤ 3) (hK : σ0.1 43 7 = nI K) (hK4 : K ≤ 4) (hz : vp_in sh 4 → σ0.1 44 sh.toNatClampNeg ≠ -9 → ∃ z : Nat, σ0.1 45 sh.toNatClampNeg = nI z ∧ z ≤ 60) {c : zG} (hcf : 1 ≤ N → gWf c ∧ gM σ0 c) (a : Int32) (ha : a = z_b (z_wi w 0 2 || z_wi w 10 13)) : z_Ex mX6_trips (d + 4) [.ref 43, .int sh, .int la, .int i, .int n, .int w] σ (fun rv τ => rv = some (.int (if z_mC σ0 sh la i n a = 0 then z_trO c n.toNatClampNeg (z_to (z_row σ0 sh.toNatClampNeg) i.toNatClampNeg) (z_xs (z_row σ0 sh.toNatClampNeg) i.toNatClampNeg) w else z_mC σ0 sh la i n a)) ∧ gFv σ0 τ ((z_mF σ0 sh la i n a).1 43 0)) := by
  refine x_enter (by decide) (Nat.le_of_ble_eq_true rfl) ?_
  show z_At _ _ _ [.ref 43, .int sh, .int la, .int i, .int n, .int w, .null, .null] _ _ _
  refine x_aload0 (pc2 := 1) dX6_trips_0 rfl ?_
  refine x_iconst (v := 0) (pc2 := 2) dX6_trips_1 rfl (by decide) ?_
  refine x_putI (pc2 := 5) pX6_75 sh_43 rfl dX6_trips_2 rfl ?_
  rw [show z_st σ 43 0 0 = σ0 from hσ.symm]
  clear hσ
  refine x_iload1 (pc2 := 6) dX6_trips_5 rfl ?_
  refine x_fS1 (pc2 := 9) eX6_isSheet kX6_93 (Nat.le_of_ble_eq_true rfl) dX6_trips_6 rfl (s_isSheetM _ _ _) ?_
  refine x_if_ne (pc2 := 12) (pc3 := 14) dX6_trips_9 rfl rfl (fun h9 => ?_) (fun h9 => ?_)
  rotate_left
  · have h9' := z_b0.mp h9
    refine x_iconst (v := -1) (pc2 := 13) dX6_trips_12 rfl (by decide) ?_
    refine x_iret dX6_trips_13 rfl ?_
    have eC : z_mC σ0 sh la i n a = -1 := by unfold z_mC; rw [if_pos h9']
    have eF : z_mF σ0 sh la i n a = σ0 := by unfold z_mF; rw [if_pos h9']
    rw [eC, eF, if_neg (by decide)]
    exact ⟨rfl, gFv.rf⟩
  have h9' : ¬ z_wi sh 0 3 = false := by rw [z_bn0.mp h9]; decide
  have hsh := z_in_sh h9
  by_cases hb : (z_wi la 0 2 && z_wi n 0 18) = false ∨ a = 0
  · have hbad : z_At mX6_trips (d + 4) 45 [.ref 43, .int sh, .int la, .int i, .int n, .int w, .null, .null] [] σ0 (fun rv τ => rv = some (.int (if z_mC σ0 sh la i n a = 0 then z_trO c n.toNatClampNeg (z_to (z_row σ0 sh.toNatClampNeg) i.toNatClampNeg) (z_xs (z_row σ0 sh.toNatClampNeg) i.toNatClampNeg) w else z_mC σ0 sh la i n a)) ∧ gFv σ0 τ ((z_mF σ0 sh la i n a).1 43 0)) := by
      refine x_bipush (v := -2) (pc2 := 47) dX6_trips_45 rfl (by decide) ?_
      refine x_iret dX6_trips_47 rfl ?_
      have eC : z_mC σ0 sh la i n a = -2 := by unfold z_mC; rw [if_neg h9', if_pos hb]
      have eF : z_mF σ0 sh la i n a = σ0 := by unfold z_mF; rw [if_neg h9', if_pos hb]
      rw [eC, eF, if_neg (by decide)]
      exact ⟨rfl, gFv.rf⟩
    refine x_iload2 (pc2 := 15) dX6_trips_14 rfl ?_
    refine x_iload4 (pc2 := 17) dX6_trips_15 rfl ?_
    refine x_fS2 (pc2 := 20) eX6_arePairs kX6_199 (Nat.le_of_ble_eq_true rfl) dX6_trips_17 rfl (s_arePairs _ _ _ _) ?_
    refine x_if_eq (pc2 := 23) (pc3 := 45) dX6_trips_20 rfl rfl (fun h20 => ?_) (fun h20 => ?_)
    · exact hbad
    · have h20' := z_bn0.mp h20
      refine x_iload5 (pc2 := 25) dX6_trips_23 rfl ?_
      refine x_iconst (v := 0) (pc2 := 26) dX6_trips_25 rfl (by decide) ?_
      refine x_iconst (v := 2) (pc2 := 27) dX6_trips_26 rfl (by decide) ?_
      refine x_fS3 (pc2 := 30) eX6_within kX6_80 (Nat.le_of_ble_eq_true rfl) dX6_trips_27 rfl (s_within _ _ _ _ _) ?_
      refine x_if_ne (pc2 := 33) (pc3 := 48) dX6_trips_30 rfl rfl (fun h30 => ?_) (fun h30 => ?_)
      · have h30' := z_bn0.mp h30
        exfalso
        rcases hb with q | q
        · rw [h20'] at q; cases q
        · rw [q] at ha; rw [h30', Bool.true_or] at ha; exact absurd ha (by decide)
      · skip
        refine x_iload5 (pc2 := 35) dX6_trips_33 rfl ?_
        refine x_bipush (v := 10) (pc2 := 37) dX6_trips_35 rfl (by decide) ?_
        refine x_bipush (v := 13) (pc2 := 39) dX6_trips_37 rfl (by decide) ?_
        refine x_fS3 (pc2 := 42) eX6_within kX6_80 (Nat.le_of_ble_eq_true rfl) dX6_trips_39 rfl (s_within _ _ _ _ _) ?_
        refine x_if_ne (pc2 := 45) (pc3 := 48) dX6_trips_42 rfl rfl (fun h42 => ?_) (fun h42 => ?_)
        · have h42' := z_bn0.mp h42
          exfalso
          rcases hb with q | q
          · rw [h20'] at q; cases q
          · rw [q] at ha; rw [h42', Bool.or_true] at ha; exact absurd ha (by decide)
        · exact hbad
  have eC : z_mC σ0 sh la i n a = z_lC σ0 sh la i n := by unfold z_mC; rw [if_neg h9', if_neg hb]
  have eF : z_mF σ0 sh la i n a = z_lF σ0 sh la i n := by unfold z_mF; rw [if_neg h9', if_neg hb]
  rw [eC, eF]
  have hpr : (z_wi la 0 2 && z_wi n 0 18) = true := by
    cases e : (z_wi la 0 2 && z_wi n 0 18) with
    | true => rfl
    | false => exact absurd (Or.inl e) hb
  obtain ⟨n', hn1, hn2, hn18⟩ := z_wi18 (Bool.and_eq_true _ _ ▸ hpr).2
  suffices hgo : z_At mX6_trips (d + 4) 48 [.ref 43, .int sh, .int la, .int i, .int n, .int w, .null, .null] [] σ0 (fun rv τ => rv = some (.int (if z_lC σ0 sh la i n = 0 then z_trO c n.toNatClampNeg (z_to (z_row σ0 sh.toNatClampNeg) i.toNatClampNeg) (z_xs (z_row σ0 sh.toNatClampNeg) i.toNatClampNeg) w else z_lC σ0 sh la i n)) ∧ gFv σ0 τ ((z_lF σ0 sh la i n).1 43 0)) by
    refine x_iload2 (pc2 := 15) dX6_trips_14 rfl ?_
    refine x_iload4 (pc2 := 17) dX6_trips_15 rfl ?_
    refine x_fS2 (pc2 := 20) eX6_arePairs kX6_199 (Nat.le_of_ble_eq_true rfl) dX6_trips_17 rfl (s_arePairs _ _ _ _) ?_
    refine x_if_eq (pc2 := 23) (pc3 := 45) dX6_trips_20 rfl rfl (fun h20 => ?_) (fun h20 => ?_)
    · exact absurd (z_b0.mp h20) (by rw [hpr]; decide)
    · skip
      refine x_iload5 (pc2 := 25) dX6_trips_23 rfl ?_
      refine x_iconst (v := 0) (pc2 := 26) dX6_trips_25 rfl (by decide) ?_
      refine x_iconst (v := 2) (pc2 := 27) dX6_trips_26 rfl (by decide) ?_
      refine x_fS3 (pc2 := 30) eX6_within kX6_80 (Nat.le_of_ble_eq_true rfl) dX6_trips_27 rfl (s_within _ _ _ _ _) ?_
      refine x_if_ne (pc2 := 33) (pc3 := 48) dX6_trips_30 rfl rfl (fun h30 => ?_) (fun h30 => ?_)
      · exact hgo
      · skip
        refine x_iload5 (pc2 := 35) dX6_trips_33 rfl ?_
        refine x_bipush (v := 10) (pc2 := 37) dX6_trips_35 rfl (by decide) ?_
        refine x_bipush (v := 13) (pc2 := 39) dX6_trips_37 rfl (by decide) ?_
        refine x_fS3 (pc2 := 42) eX6_within kX6_80 (Nat.le_of_ble_eq_true rfl) dX6_trips_39 rfl (s_within _ _ _ _ _) ?_
        refine x_if_ne (pc2 := 45) (pc3 := 48) dX6_trips_42 rfl rfl (fun h42 => ?_) (fun h42 => ?_)
        · exact hgo
        · exfalso
          apply hb
          right
          rw [ha, z_b0.mp h30, z_b0.mp h42]
          rfl
  rw [hn2, hn1]
  refine x_aload0 (pc2 := 49) dX6_trips_48 rfl ?_
  refine x_iload1 (pc2 := 50) dX6_trips_49 rfl ?_
  refine x_iload2 (pc2 := 51) dX6_trips_50 rfl ?_
  refine x_iload3 (pc2 := 52) dX6_trips_51 rfl ?_
  refine x_iload4 (pc2 := 54) dX6_trips_52 rfl ?_
  refine x_cV4 eX6_layTrips kX6_202 sh_43 rfl (Nat.le_of_ble_eq_true rfl) dX6_trips_54 ?_
  refine (s_layTrips (d + 1) sh la i hsh hn18 hN hN3 hK hK4 (hz hsh)).mono ?_
  rintro rv τ ⟨rfl, hF, hT⟩
  show z_At _ _ 57 _ [.int _] _ _
  refine x_istore6 (pc2 := 59) dX6_trips_57 rfl rfl ?_
  refine x_iload6 (pc2 := 61) dX6_trips_59 rfl ?_
  refine x_if_eq (pc2 := 64) (pc3 := 67) dX6_trips_61 rfl rfl (fun h61 => ?_) (fun h61 => ?_)
  rotate_left
  · skip
    refine x_iload6 (pc2 := 66) dX6_trips_64 rfl ?_
    refine x_iret dX6_trips_66 rfl ?_
    rw [if_neg h61]
    exact ⟨rfl, hF.v⟩
  have hT := hT h61
  obtain ⟨g1, g2⟩ := z_lC_0 h61
  rw [if_pos h61]
  have hN1 : 1 ≤ N := by
    rw [hN] at g1
    rcases Nat.eq_zero_or_pos N with q | q
    · subst q; exact absurd rfl g1
    · exact q
  obtain ⟨hc, hM⟩ := hcf hN1
  have hF1 := hF.v
  have hM1 : gM τ c := hM.v hF1
  have hxs := z_xs_lt (z_row σ0 sh.toNatClampNeg) i.toNatClampNeg
  generalize z_to (z_row σ0 sh.toNatClampNeg) i.toNatClampNeg = to at *
  generalize z_xs (z_row σ0 sh.toNatClampNeg) i.toNatClampNeg = x at *
  refine x_aload0 (pc2 := 68) dX6_trips_67 rfl ?_
  refine x_cV0 eX6_go kX6_205 sh_43 rfl (Nat.le_of_ble_eq_true rfl) dX6_trips_68 ?_
  refine (s_goM d hc hM1 hT hxs).mono ?_
  rintro rv υ ⟨rfl, hFc, hJ⟩
  show z_At _ _ 71 _ [.int _] _ _
  have hF2 := hF1.c hFc
  unfold z_trO
  refine x_istore7 (pc2 := 73) dX6_trips_71 rfl rfl ?_
  refine x_iload5 (pc2 := 75) dX6_trips_73 rfl ?_
  refine x_iconst (v := 1) (pc2 := 76) dX6_trips_75 rfl (by decide) ?_
  refine x_icmp_ne (pc2 := 79) (pc3 := 82) dX6_trips_76 rfl rfl (fun h76 => ?_) (fun h76 => ?_)
  rotate_left
  · skip
    refine x_iload7 (pc2 := 81) dX6_trips_79 rfl ?_
    refine x_iret dX6_trips_81 rfl ?_
    rw [if_pos h76]
    exact ⟨rfl, hF2⟩
  rw [if_neg h76]
  refine x_iload7 (pc2 := 84) dX6_trips_82 rfl ?_
  refine x_bipush (v := -9) (pc2 := 86) dX6_trips_84 rfl (by decide) ?_
  refine x_icmp_eq (pc2 := 89) (pc3 := 95) dX6_trips_86 rfl rfl (fun h86 => ?_) (fun h86 => ?_)
  rotate_left
  · rw [wR_none (fun k hk => by have := wW_lt _ _ hk; omega)] at h86
    refine x_bipush (v := -100) (pc2 := 91) dX6_trips_89 rfl (by decide) ?_
    refine x_iload7 (pc2 := 93) dX6_trips_91 rfl ?_
    refine x_isub (pc2 := 94) dX6_trips_93 rfl ?_
    refine x_iret dX6_trips_94 rfl ?_
    cases e : wW c to x n' with
    | none => exact absurd e h86
    | some k => exact ⟨rfl, hF2⟩
  rw [wR_none (fun k hk => by have := wW_lt _ _ hk; omega)] at h86
  have hJ := hJ h86
  have hok := wW_ok _ h86
  have hsk := wS_ok hc.2.1.1 n' hok
  have hM2 := hM1.of hFc
  rw [h86]
  have hw10 : ¬ w ≤ 2 → z_wi w 10 13 = true := fun q => by
    have : a ≠ 0 := fun e => hb (Or.inr e)
    rw [ha] at this
    have := z_bn0.mp this
    have h2 : z_wi w 0 2 = false := by unfold z_wi; simp [Int32.not_le.mp q]
    rw [h2, Bool.false_or] at this
    exact this
  have hw2 : w ≤ 2 → w = 0 ∨ w = 1 ∨ w = 2 := fun q => by
    have : a ≠ 0 := fun e => hb (Or.inr e)
    rw [ha] at this
    have := z_bn0.mp this
    rw [Bool.or_eq_true] at this
    have q2 : (w.toInt : Int) ≤ 2 := by rw [Int32.le_iff_toInt_le] at q; exact q
    rcases this with t | t
    · unfold z_wi at t
      rw [Bool.and_eq_true] at t
      have t1 : ¬ w < 0 := by simpa using t.1
      have t2 : (0 : Int) ≤ w.toInt := by simpa [Int32.le_iff_toInt_le] using Int32.not_lt.mp t1
      rcases (show w.toInt = 0 ∨ w.toInt = 1 ∨ w.toInt = 2 by omega) with e | e | e
      · exact Or.inl (z_of_toInt e)
      · exact Or.inr (Or.inl (z_of_toInt e))
      · exact Or.inr (Or.inr (z_of_toInt e))
    · unfold z_wi at t
      rw [Bool.and_eq_true] at t
      have t1 : ¬ w < 10 := by simpa using t.1
      have t2 : (10 : Int) ≤ w.toInt := by
        have := Int32.not_lt.mp t1
        rw [Int32.le_iff_toInt_le] at this
        exact this
      omega
  refine x_iload5 (pc2 := 97) dX6_trips_95 rfl ?_
  refine x_iconst (v := 2) (pc2 := 98) dX6_trips_97 rfl (by decide) ?_
  refine x_icmp_le (pc2 := 101) (pc3 := 132) dX6_trips_98 rfl rfl (fun h98 => ?_) (fun h98 => ?_)
  · skip
    refine x_iload5 (pc2 := 134) dX6_trips_132 rfl ?_
    refine x_if_ne (pc2 := 137) (pc3 := 144) dX6_trips_134 rfl rfl (fun h134 => ?_) (fun h134 => ?_)
    · have e2 : w = 2 := by
        rcases hw2 h98 with e | e | e
        · exact absurd e h134
        · exact absurd e h76
        · exact e
      refine x_aload0 (pc2 := 145) dX6_trips_144 rfl ?_
      refine x_getI (pc2 := 148) fX6_175 sh_43 rfl dX6_trips_145 rfl ?_
      refine x_iconst (v := 3) (pc2 := 149) dX6_trips_148 rfl (by decide) ?_
      refine x_iand (pc2 := 150) dX6_trips_149 rfl ?_
      rw [hJ.2.1.1, gb_spot _ hsk.1]
      refine x_iret dX6_trips_150 rfl ?_
      exact ⟨by simp only [if_neg h134, if_pos e2], hF2⟩
    · skip
      refine x_aload0 (pc2 := 138) dX6_trips_137 rfl ?_
      refine x_getI (pc2 := 141) fX6_178 sh_43 rfl dX6_trips_138 rfl ?_
      refine x_goto (pc2 := 150) dX6_trips_141 rfl ?_
      rw [hJ.2.1.2.1]
      refine x_iret dX6_trips_150 rfl ?_
      exact ⟨by simp only [if_pos h134], hF2⟩
  · have w0 : ¬ w = 0 := fun e => h98 (by rw [e]; decide)
    have w2 : ¬ w = 2 := fun e => h98 (by rw [e]; decide)
    refine x_aload0 (pc2 := 102) dX6_trips_101 rfl ?_
    refine x_iload5 (pc2 := 104) dX6_trips_102 rfl ?_
    refine x_bipush (v := 10) (pc2 := 106) dX6_trips_104 rfl (by decide) ?_
    refine x_isub (pc2 := 107) dX6_trips_106 rfl ?_
    refine x_fV1 (pc2 := 110) eX6_isSpot kX6_160 sh_43 rfl (Nat.le_of_ble_eq_true rfl) dX6_trips_107 rfl (s_isSpot _ _ _) ?_
    rw [hM2.1.2.1]
    refine x_if_eq (pc2 := 113) (pc3 := 129) dX6_trips_110 rfl rfl (fun h110 => ?_) (fun h110 => ?_)
    · have h110' := z_b0.mp h110
      refine x_bipush (v := -9) (pc2 := 131) dX6_trips_129 rfl (by decide) ?_
      refine x_iret dX6_trips_131 rfl ?_
      exact ⟨by simp only [if_neg w0, if_neg w2, if_pos h110'], hF2⟩
    · have h110' := z_bn0.mp h110
      obtain ⟨v, v1, v2, v3⟩ := z_spot_nat hc.2.1.1 h110'
      have hv4 : v < 4 := by have := hc.2.1; omega
      have h110'' : ¬ z_spot (nI v) (nI (cN c)) = false := by rw [← v2, h110']; decide
      refine x_aload0 (pc2 := 114) dX6_trips_113 rfl ?_
      refine x_aload0 (pc2 := 115) dX6_trips_114 rfl ?_
      refine x_getI (pc2 := 118) fX6_175 sh_43 rfl dX6_trips_115 rfl ?_
      refine x_iload5 (pc2 := 120) dX6_trips_118 rfl ?_
      refine x_bipush (v := 10) (pc2 := 122) dX6_trips_120 rfl (by decide) ?_
      refine x_isub (pc2 := 123) dX6_trips_122 rfl ?_
      refine x_fV2 (pc2 := 126) eX6_thingsAt kX6_156 sh_43 rfl (Nat.le_of_ble_eq_true rfl) dX6_trips_123 rfl (s_thingsAt _ _ _ _ hM2.1.1 hc.1) ?_
      rw [hJ.2.1.1, hM2.1.2.2, v3, v2, z_ta_nat hsk.1 hv4 _ hc.1]
      refine x_goto (pc2 := 131) dX6_trips_126 rfl ?_
      refine x_iret dX6_trips_131 rfl ?_
      exact ⟨by simp only [if_neg w0, if_neg w2, if_neg h110''], hF2⟩
