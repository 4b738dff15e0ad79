/-! the model's since and kinds -/
/-- as gFv, but for the rain -/
def gFr (σ τ : zS) (f : Int32) : Prop := (∀ q, q ≠ 43 → q ≠ 54 → q ≠ 55 → q ≠ 56 → q ≠ 57 → τ.1 q = σ.1 q) ∧ (∀ j, j ≠ 0 → j ≠ 8 → j ≠ 21 → j ≠ 26 → j ≠ 27 → τ.1 43 j = σ.1 43 j) ∧ τ.1 43 0 = f ∧ ∀ q, q ≠ 43 → τ.2 q = σ.2 q
theorem gFv.r {σ τ : zS} {f : Int32} (h : gFv σ τ f) : gFr σ τ f := ⟨h.1, fun j b1 _ b2 b3 b4 => h.2.1 j b1 b2 b3 b4, h.2.2⟩
theorem gFr.c {σ τ υ : zS} {f : Int32} (h : gFr σ τ f) (hc : gFm τ υ) : gFr σ υ f := by
  obtain ⟨h1, h2, h3, h4⟩ := h
  obtain ⟨c1, c2, c3⟩ := hc
  refine ⟨fun q a1 a2 a3 a4 a5 => ?_, fun j b1 b2 b3 b4 b5 => ?_, ?_, fun q hq => ?_⟩
  · rw [c1 q a1 a4 a5]; exact h1 q a1 a2 a3 a4 a5
  · rw [c2 j b4 b5]; exact h2 j b1 b2 b3 b4 b5
  · rw [c2 0 (by decide) (by decide)]; exact h3
  · rw [c3 q hq]; exact h4 q hq
theorem gFr.s {σ τ : zS} {f : Int32} (h : gFr σ τ f) (v : Int32) : gFr σ (z_st τ 43 8 v) f := by
  obtain ⟨h1, h2, h3, h4⟩ := h
  refine ⟨fun q a1 a2 a3 a4 a5 => ?_, fun j b1 b2 b3 b4 b5 => ?_, ?_, h4⟩
  · rw [z_st_row _ _ _ a1]; exact h1 q a1 a2 a3 a4 a5
  · rw [z_st_fld _ _ _ b2]; exact h2 j b1 b2 b3 b4 b5
  · rw [z_st_fld _ _ _ (by decide)]; exact h3
theorem gFr.back {σ τ : zS} {f : Int32} (h : gFr σ τ f) : gFv σ (z_st τ 43 8 (σ.1 43 8)) f := by
  obtain ⟨h1, h2, h3, h4⟩ := h.s (σ.1 43 8)
  refine ⟨h1, fun j b1 b3 b4 b5 => ?_, h3, h4⟩
  by_cases e : j = 8
  · subst e; exact z_st_at _ _ _ _
  · exact h2 j b1 e b3 b4 b5
theorem gM.rain {σ τ : zS} {c : zG} {f : Int32} (h : gM σ c) (hf : gFr σ τ f) (v : Int32) : gM (z_st τ 43 8 v) (cRain c v) := by
  obtain ⟨⟨a1, a2, a3⟩, ⟨b1, b2⟩, ⟨c1, c2, c3⟩, d1, e1⟩ := h
  obtain ⟨f1, f2, -⟩ := hf.s v
  have g1 : ∀ q, 44 ≤ q → q < 54 → (z_st τ 43 8 v).1 q = σ.1 q := fun q h1 h2 => f1 q (by omega) (by omega) (by omega) (by omega) (by omega)
  exact ⟨⟨(f2 7 (by decide) (by decide) (by decide) (by decide) (by decide)).trans a1, (f2 6 (by decide) (by decide) (by decide) (by decide) (by decide)).trans a2, (f2 14 (by decide) (by decide) (by decide) (by decide) (by decide)).trans a3⟩, ⟨(g1 50 (by decide) (by decide)).trans b1, (g1 51 (by decide) (by decide)).trans b2⟩, ⟨(g1 47 (by decide) (by decide)).trans c1, (g1 48 (by decide) (by decide)).trans c2, (g1 49 (by decide) (by decide)).trans c3⟩, (f2 5 (by decide) (by decide) (by decide) (by decide) (by decide)).trans d1, z_st_at _ _ _ _⟩
/-- as gFv, but for the kinds -/
def gFk (σ τ : zS) (f : Int32) (t : Nat) : Prop := (∀ q, q ≠ 43 → q ≠ 50 → q ≠ 54 → q ≠ 55 → q ≠ 56 → q ≠ 57 → τ.1 q = σ.1 q) ∧ (∀ j, j ≠ 0 → j ≠ 21 → j ≠ 26 → j ≠ 27 → τ.1 43 j = σ.1 43 j) ∧ τ.1 43 0 = f ∧ (∀ q, q ≠ 43 → τ.2 q = σ.2 q) ∧ ∀ j, j ≠ t → τ.1 50 j = σ.1 50 j
theorem gFv.k {σ τ : zS} {f : Int32} (h : gFv σ τ f) (t : Nat) : gFk σ τ f t := ⟨fun q a1 _ a2 a3 a4 a5 => h.1 q a1 a2 a3 a4 a5, h.2.1, h.2.2.1, h.2.2.2, fun j _ => congrFun (h.1 50 (by decide) (by decide) (by decide) (by decide) (by decide)) j⟩
theorem gFk.c {σ τ υ : zS} {f : Int32} {t : Nat} (h : gFk σ τ f t) (hc : gFm τ υ) : gFk σ υ f t := by
  obtain ⟨h1, h2, h3, h4, h5⟩ := h
  obtain ⟨c1, c2, c3⟩ := hc
  refine ⟨fun q a1 a2 a3 a4 a5 a6 => ?_, fun j b1 b2 b3 b4 => ?_, ?_, fun q hq => ?_, fun j hj => ?_⟩
  · rw [c1 q a1 a5 a6]; exact h1 q a1 a2 a3 a4 a5 a6
  · rw [c2 j b3 b4]; exact h2 j b1 b2 b3 b4
  · rw [c2 0 (by decide) (by decide)]; exact h3
  · rw [c3 q hq]; exact h4 q hq
  · rw [c1 50 (by decide) (by decide) (by decide)]; exact h5 j hj
theorem gFk.s {σ τ : zS} {f : Int32} {t : Nat} (h : gFk σ τ f t) (v : Int32) : gFk σ (z_st τ 50 t v) f t := by
  obtain ⟨h1, h2, h3, h4, h5⟩ := h
  refine ⟨fun q a1 a2 a3 a4 a5 a6 => ?_, fun j b1 b2 b3 b4 => ?_, ?_, h4, fun j hj => ?_⟩
  · rw [z_st_row _ _ _ a2]; exact h1 q a1 a2 a3 a4 a5 a6
  · rw [z_st_row _ _ _ (by decide)]; exact h2 j b1 b2 b3 b4
  · rw [z_st_row _ _ _ (by decide)]; exact h3
  · rw [z_st_fld _ _ _ hj]; exact h5 j hj
theorem gFk.back {σ τ : zS} {f : Int32} {t : Nat} (h : gFk σ τ f t) : gFv σ (z_st τ 50 t (σ.1 50 t)) f := by
  obtain ⟨h1, h2, h3, h4, h5⟩ := h.s (σ.1 50 t)
  refine ⟨fun q a1 a2 a3 a4 a5 => ?_, h2, h3, h4⟩
  by_cases e : q = 50
  · subst e
    funext j
    by_cases e2 : j = t
    · subst e2; exact z_st_at _ _ _ _
    · exact h5 j e2
  · exact h1 q a1 e a2 a3 a4 a5
theorem gM.kind {σ τ : zS} {c : zG} {f : Int32} {t : Nat} (h : gM σ c) (hf : gFk σ τ f t) (v : Int32) : gM (z_st τ 50 t v) (cKind c t v) := by
  obtain ⟨⟨a1, a2, a3⟩, ⟨b1, b2⟩, ⟨c1, c2, c3⟩, d1, e1⟩ := h
  obtain ⟨f1, f2, -, -, f5⟩ := hf.s v
  have g1 : ∀ q, 44 ≤ q → q < 54 → q ≠ 50 → (z_st τ 50 t v).1 q = σ.1 q := fun q h1 h2 h3 => f1 q (by omega) h3 (by omega) (by omega) (by omega) (by omega)
  have g2 : ∀ j, 1 ≤ j → j < 21 → (z_st τ 50 t v).1 43 j = σ.1 43 j := fun j h1 h2 => f2 j (by omega) (by omega) (by omega) (by omega)
  refine ⟨⟨(g2 7 (by decide) (by decide)).trans a1, (g2 6 (by decide) (by decide)).trans a2, (g2 14 (by decide) (by decide)).trans a3⟩, ⟨?_, (g1 51 (by decide) (by decide) (by decide)).trans b2⟩, ⟨(g1 47 (by decide) (by decide) (by decide)).trans c1, (g1 48 (by decide) (by decide) (by decide)).trans c2, (g1 49 (by decide) (by decide) (by decide)).trans c3⟩, (g2 5 (by decide) (by decide)).trans d1, (g2 8 (by decide) (by decide)).trans e1⟩
  show _ = upd (cKd c) t v
  funext j
  unfold upd
  by_cases e : j = t
  · subst e; rw [if_pos rfl]; exact z_st_at _ _ _ _
  · rw [if_neg e, f5 j e, b1]
theorem gTm.gen {σ τ : zS} {n : Nat} {to x : Nat → Nat} (h : gTm σ n to x) (h1 : τ.1 43 21 = σ.1 43 21) (h2 : τ.1 54 = σ.1 54) (h3 : τ.1 55 = σ.1 55) : gTm τ n to x := by
  obtain ⟨a, b, e⟩ := h
  refine ⟨h1.trans a, b, fun k hk => ?_⟩
  rw [h2, h3]
  exact e k hk
theorem s_sinceM (d : Nat) (σ σ0 : zS) (hσ : σ0 = z_g0 σ) (sh la i n : Int32) {N K : Nat} (hN : σ0.1 43 6 = nI N) (hN3 : N ≤ 3) (hK : σ0.1 43 7 = nI K) (hK4 : K ≤ 4) (hz : vp_in sh 4 → σ0.1 44 sh.toNatClampNeg ≠ -9 → ∃ z : Nat, σ0.1 45 sh.toNatClampNeg = nI z ∧ z ≤ 60) {c : zG} (hcf : 1 ≤ N → gWf c ∧ gM σ0 c) {q : Nat} {rt rm : Nat → Nat} {rs : Nat → Int32} (hq0 : σ0.1 43 34 = nI q) (hR0 : gRd σ0 60 61 62 q rt rm rs) : z_Ex mX6_since (d + 5) [.ref 43, .int sh, .int la, .int i, .int n] σ (fun rv τ => rv = some (.int (if z_mC σ0 sh la i n 1 = 0 then z_sn (fun v => wAs (cRain c (nI v)) (z_to (z_row σ0 sh.toNatClampNeg) i.toNatClampNeg) (z_xs (z_row σ0 sh.toNatClampNeg) i.toNatClampNeg) n.toNatClampNeg rt rm rs q) 31 else z_mC σ0 sh la i n 1)) ∧ gFv σ0 τ ((z_mF σ0 sh la i n 1).1 43 0)) := by
  refine x_enter (by decide) (Nat.le_of_ble_eq_true rfl) ?_
  show z_At _ _ _ [.ref 43, .int sh, .int la, .int i, .int n, .null, .null, .null, .null] _ _ _
  refine x_aload0 (pc2 := 1) dX6_since_0 rfl ?_
  refine x_iconst (v := 0) (pc2 := 2) dX6_since_1 rfl (by decide) ?_
  refine x_putI (pc2 := 5) pX6_75 sh_43 rfl dX6_since_2 rfl ?_
  rw [show z_st σ 43 0 0 = σ0 from hσ.symm]
  clear hσ
  refine x_iload1 (pc2 := 6) dX6_since_5 rfl ?_
  refine x_fS1 (pc2 := 9) eX6_isSheet kX6_93 (Nat.le_of_ble_eq_true rfl) dX6_since_6 rfl (s_isSheetM _ _ _) ?_
  refine x_if_ne (pc2 := 12) (pc3 := 14) dX6_since_9 rfl rfl (fun h9 => ?_) (fun h9 => ?_)
  rotate_left
  · have h9' := z_b0.mp h9
    refine x_iconst (v := -1) (pc2 := 13) dX6_since_12 rfl (by decide) ?_
    refine x_iret dX6_since_13 rfl ?_
    have eC : z_mC σ0 sh la i n 1 = -1 := by unfold z_mC; rw [if_pos h9']
    have eF : z_mF σ0 sh la i n 1 = σ0 := by unfold z_mF; rw [if_pos h9']
    rw [eC, eF, if_neg (by decide)]
    exact ⟨rfl, gFv.rf⟩
  have h9' : ¬ z_wi sh 0 3 = false := by rw [z_bn0.mp h9]; decide
  have hsh := z_in_sh h9
  refine x_iload2 (pc2 := 15) dX6_since_14 rfl ?_
  refine x_iload4 (pc2 := 17) dX6_since_15 rfl ?_
  refine x_fS2 (pc2 := 20) eX6_arePairs kX6_199 (Nat.le_of_ble_eq_true rfl) dX6_since_17 rfl (s_arePairs _ _ _ _) ?_
  refine x_if_ne (pc2 := 23) (pc3 := 26) dX6_since_20 rfl rfl (fun h20 => ?_) (fun h20 => ?_)
  rotate_left
  · have h20' := z_b0.mp h20
    refine x_bipush (v := -2) (pc2 := 25) dX6_since_23 rfl (by decide) ?_
    refine x_iret dX6_since_25 rfl ?_
    have eC : z_mC σ0 sh la i n 1 = -2 := by unfold z_mC; rw [if_neg h9', if_pos (Or.inl h20')]
    have eF : z_mF σ0 sh la i n 1 = σ0 := by unfold z_mF; rw [if_neg h9', if_pos (Or.inl h20')]
    rw [eC, eF, if_neg (by decide)]
    exact ⟨rfl, gFv.rf⟩
  have hpr := z_bn0.mp h20
  have hb : ¬ ((z_wi la 0 2 && z_wi n 0 18) = false ∨ (1 : Int32) = 0) := fun q => q.elim (fun q => by rw [hpr] at q; cases q) (fun q => absurd q (by decide))
  have eC : z_mC σ0 sh la i n 1 = z_lC σ0 sh la i n := by unfold z_mC; rw [if_neg h9', if_neg hb]
  have eF : z_mF σ0 sh la i n 1 = z_lF σ0 sh la i n := by unfold z_mF; rw [if_neg h9', if_neg hb]
  rw [eC, eF]
  obtain ⟨n', hn1, hn2, hn18⟩ := z_wi18 (Bool.and_eq_true _ _ ▸ hpr).2
  rw [hn2, hn1]
  refine x_aload0 (pc2 := 27) dX6_since_26 rfl ?_
  refine x_iload1 (pc2 := 28) dX6_since_27 rfl ?_
  refine x_iload2 (pc2 := 29) dX6_since_28 rfl ?_
  refine x_iload3 (pc2 := 30) dX6_since_29 rfl ?_
  refine x_iload4 (pc2 := 32) dX6_since_30 rfl ?_
  refine x_cV4 eX6_layTrips kX6_202 sh_43 rfl (Nat.le_of_ble_eq_true rfl) dX6_since_32 ?_
  refine (s_layTrips (d + 2) sh la i hsh hn18 hN hN3 hK hK4 (hz hsh)).mono ?_
  rintro rv τ ⟨rfl, hF, hT⟩
  show z_At _ _ 35 _ [.int _] _ _
  refine x_istore5 (pc2 := 37) dX6_since_35 rfl rfl ?_
  refine x_iload5 (pc2 := 39) dX6_since_37 rfl ?_
  refine x_if_eq (pc2 := 42) (pc3 := 45) dX6_since_39 rfl rfl (fun h39 => ?_) (fun h39 => ?_)
  rotate_left
  · skip
    refine x_iload5 (pc2 := 44) dX6_since_42 rfl ?_
    refine x_iret dX6_since_44 rfl ?_
    rw [if_neg h39]
    exact ⟨rfl, hF.v⟩
  have hT := hT h39
  obtain ⟨g1, g2⟩ := z_lC_0 h39
  rw [if_pos h39]
  have hN1 : 1 ≤ N := by
    rw [hN] at g1
    rcases Nat.eq_zero_or_pos N with q | q
    · subst q; exact absurd rfl g1
    · exact q
  obtain ⟨hc, hM⟩ := hcf hN1
  have hF1 := hF.v
  have hxs := z_xs_lt (z_row σ0 sh.toNatClampNeg) i.toNatClampNeg
  generalize z_to (z_row σ0 sh.toNatClampNeg) i.toNatClampNeg = to at *
  generalize z_xs (z_row σ0 sh.toNatClampNeg) i.toNatClampNeg = x at *
  generalize (z_lF σ0 sh la i (nI n')).1 43 0 = f at *
  refine x_aload0 (pc2 := 46) dX6_since_45 rfl ?_
  refine x_getI (pc2 := 49) fX6_19 sh_43 rfl dX6_since_46 rfl ?_
  rw [hF1.2.1 8 (by decide) (by decide) (by decide) (by decide)]
  refine x_istore6 (pc2 := 51) dX6_since_49 rfl rfl ?_
  refine x_iconst (v := 0) (pc2 := 52) dX6_since_51 rfl (by decide) ?_
  refine x_istore7 (pc2 := 54) dX6_since_52 rfl rfl ?_
  refine x_iconst (v := 0) (pc2 := 55) dX6_since_54 rfl (by decide) ?_
  refine x_istore8 (pc2 := 57) dX6_since_55 rfl rfl ?_
  suffices h : ∀ m k, k + m = 31 → ∀ τ, gFr σ0 τ f → gTm τ n' to x → z_At mX6_since (d + 5) 57 [.ref 43, .int sh, .int la, .int i, .int (nI n'), .int (z_lC σ0 sh la i (nI n')), .int (σ0.1 43 8), .int (z_sn (fun v => wAs (cRain c (nI v)) to x n' rt rm rs q) k), .int (nI k)] [] τ (fun rv τ => rv = some (.int (z_sn (fun v => wAs (cRain c (nI v)) to x n' rt rm rs q) 31)) ∧ gFv σ0 τ f) from h 31 0 (by omega) τ hF1.r hT
  clear hT hF hF1
  intro m
  induction m with
  | zero =>
    intro k hk τ hFx hT
    obtain rfl : k = 31 := by omega
    refine x_iload8 (pc2 := 59) dX6_since_57 rfl ?_
    refine x_bipush (v := 30) (pc2 := 61) dX6_since_59 rfl (by decide) ?_
    refine x_icmp_gt (pc2 := 64) (pc3 := 96) dX6_since_61 rfl rfl (fun h61 => ?_) (fun h61 => ?_)
    · skip
      refine x_aload0 (pc2 := 97) dX6_since_96 rfl ?_
      refine x_iload6 (pc2 := 99) dX6_since_97 rfl ?_
      refine x_putI (pc2 := 102) pX6_19 sh_43 rfl dX6_since_99 rfl ?_
      refine x_iload7 (pc2 := 104) dX6_since_102 rfl ?_
      refine x_iret dX6_since_104 rfl ?_
      exact ⟨rfl, hFx.back⟩
    · exact absurd (by decide) h61
  | succ m ih =>
    intro k hk τ hFx hT
    refine x_iload8 (pc2 := 59) dX6_since_57 rfl ?_
    refine x_bipush (v := 30) (pc2 := 61) dX6_since_59 rfl (by decide) ?_
    refine x_icmp_gt (pc2 := 64) (pc3 := 96) dX6_since_61 rfl rfl (fun h61 => ?_) (fun h61 => ?_)
    · rw [show (30 : Int32) = nI 30 from rfl, nI_lt_iff (by decide) (by omega)] at h61
      omega
    · skip
      refine x_aload0 (pc2 := 65) dX6_since_64 rfl ?_
      refine x_iload8 (pc2 := 67) dX6_since_65 rfl ?_
      refine x_putI (pc2 := 70) pX6_19 sh_43 rfl dX6_since_67 rfl ?_
      refine x_iload7 (pc2 := 72) dX6_since_70 rfl ?_
      refine x_aload0 (pc2 := 73) dX6_since_72 rfl ?_
      have hM1 := hM.rain hFx (nI k)
      have hFx1 := hFx.s (nI k)
      have hT1 : gTm (z_st τ 43 8 (nI k)) n' to x := hT.gen (z_st_fld _ _ _ (by decide)) (z_st_row _ _ _ (by decide)) (z_st_row _ _ _ (by decide))
      refine x_cV0 eX6_areSo kX6_252 sh_43 rfl (Nat.le_of_ble_eq_true rfl) dX6_since_73 ?_
      refine (s_areSo d (hc.rain (by omega)) hM1 hT1 hxs (by rw [hFx1.2.1 34 (by decide) (by decide) (by decide) (by decide) (by decide)]; exact hq0) ⟨hR0.1, fun j hj => by
        rw [hFx1.1 60 (by decide) (by decide) (by decide) (by decide) (by decide), hFx1.1 61 (by decide) (by decide) (by decide) (by decide) (by decide), hFx1.1 62 (by decide) (by decide) (by decide) (by decide) (by decide)]
        exact hR0.2 j hj⟩).mono ?_
      rintro rv υ ⟨rfl, hFc⟩
      show z_At _ _ 76 _ [.int _, .int _] _ _
      have hFx2 := hFx1.c hFc
      have hT2 := hT1.of hFc
      refine x_if_eq (pc2 := 79) (pc3 := 86) dX6_since_76 rfl rfl (fun h76 => ?_) (fun h76 => ?_)
      · have h76' := z_b0.mp h76
        refine x_iconst (v := 0) (pc2 := 87) dX6_since_86 rfl (by decide) ?_
        refine x_ior (pc2 := 88) dX6_since_87 rfl ?_
        refine x_istore7 (pc2 := 90) dX6_since_88 rfl rfl ?_
        refine x_iinc8 (pc2 := 93) dX6_since_90 rfl (z_inc1 _) rfl ?_
        refine x_goto (pc2 := 57) dX6_since_93 rfl ?_
        rw [← nI_succ, z_or0]
        have := ih (k + 1) (by omega) υ hFx2 hT2
        rw [z_sn, if_neg (by rw [h76']; decide)] at this
        exact this
      · have h76' := z_bn0.mp h76
        refine x_iconst (v := 1) (pc2 := 80) dX6_since_79 rfl (by decide) ?_
        refine x_iload8 (pc2 := 82) dX6_since_80 rfl ?_
        refine x_ishl (pc2 := 83) dX6_since_82 rfl ?_
        refine x_goto (pc2 := 87) dX6_since_83 rfl ?_
        refine x_ior (pc2 := 88) dX6_since_87 rfl ?_
        refine x_istore7 (pc2 := 90) dX6_since_88 rfl rfl ?_
        refine x_iinc8 (pc2 := 93) dX6_since_90 rfl (z_inc1 _) rfl ?_
        refine x_goto (pc2 := 57) dX6_since_93 rfl ?_
        rw [← nI_succ]
        have := ih (k + 1) (by omega) υ hFx2 hT2
        rw [z_sn, if_pos h76'] at this
        exact this
