/-! the class's since and kinds -/
theorem gEq.symm {c c' : zG} (h : gEq c c') : gEq c' c := by
  obtain ⟨h1, h2, h3, h4, h5, h6, h7⟩ := h
  exact ⟨h1.symm, h2.symm, h3.symm, fun t ht => ⟨(h4 t (by omega)).1.symm, (h4 t (by omega)).2.symm⟩, fun k hk => ⟨(h5 k (by omega)).1.symm, (h5 k (by omega)).2.1.symm, (h5 k (by omega)).2.2.symm⟩, h6.symm, h7.symm⟩
theorem gEq.trans {c c' c'' : zG} (h : gEq c c') (g : gEq c' c'') : gEq c c'' := by
  obtain ⟨h1, h2, h3, h4, h5, h6, h7⟩ := h
  obtain ⟨g1, g2, g3, g4, g5, g6, g7⟩ := g
  exact ⟨h1.trans g1, h2.trans g2, h3.trans g3, fun t ht => ⟨(h4 t ht).1.trans (g4 t (by omega)).1, (h4 t ht).2.trans (g4 t (by omega)).2⟩, fun k hk => ⟨(h5 k hk).1.trans (g5 k (by omega)).1, (h5 k hk).2.1.trans (g5 k (by omega)).2.1, (h5 k hk).2.2.trans (g5 k (by omega)).2.2⟩, h6.trans g6, h7.trans g7⟩
theorem gEq.wf {c c' : zG} (h : gEq c c') (hc : gWf c) : gWf c' := by
  obtain ⟨h1, h2, h3, h4, h5, h6, h7⟩ := h
  obtain ⟨w1, w2, w3, w4, w5, w6, w7, w8, w9⟩ := hc
  refine ⟨by omega, by omega, fun t ht => ?_, fun t ht => ?_, fun k hk => ?_, fun k hk => ?_, fun k hk => ?_, ?_, ?_⟩
  · rw [← (h4 t (by omega)).1]; exact w3 t (by omega)
  · rw [← (h4 t (by omega)).2]; exact w4 t (by omega)
  · rw [← (h5 k (by omega)).1]; exact w5 k (by omega)
  · rw [← (h5 k (by omega)).2.1]; exact w6 k (by omega)
  · rw [← (h5 k (by omega)).2.2]; exact w7 k (by omega)
  · rw [← h6]; exact w8
  · rw [← h7]; exact w9
def cRain (c : zG) (v : Int32) : zG := (cK c, cN c, cM c, cKd c, cPd c, cLn c, cMd c, cBd c, cB c, v)
def cKind (c : zG) (t : Nat) (k : Int32) : zG := (cK c, cN c, cM c, upd (cKd c) t k, cPd c, cLn c, cMd c, cBd c, cB c, cR c)
theorem gWf.rain {c : zG} (h : gWf c) {v : Nat} (hv : v ≤ 99) : gWf (cRain c (nI v)) := by
  obtain ⟨w1, w2, w3, w4, w5, w6, w7, w8, w9⟩ := h
  exact ⟨w1, w2, w3, w4, w5, w6, w7, w8, Or.inr ⟨v, hv, rfl⟩⟩
theorem gWf.kind {c : zG} (h : gWf c) {t k : Nat} (hk : k < 3) : gWf (cKind c t (nI k)) := by
  obtain ⟨w1, w2, w3, w4, w5, w6, w7, w8, w9⟩ := h
  refine ⟨w1, w2, fun q hq => ?_, w4, w5, w6, w7, w8, w9⟩
  show upd (cKd c) t (nI k) q = 0 ∨ upd (cKd c) t (nI k) q = 1 ∨ upd (cKd c) t (nI k) q = 2
  unfold upd
  split
  · rcases (show k = 0 ∨ k = 1 ∨ k = 2 by omega) with rfl | rfl | rfl
    · exact Or.inl rfl
    · exact Or.inr (Or.inl rfl)
    · exact Or.inr (Or.inr rfl)
  · exact w3 q hq
/-- the draft holds a portage, where it is looked at -/
def gDr (σ : zS) (c : zG) : Prop := ∃ c', gC 7 σ c' ∧ gEq c c'
theorem gBc.dr {σ τ : zS} {c : zG} (hc : gWf c) (hC : gC 1 σ c) (h : gBc 7 1 σ τ) : gDr τ c := by
  obtain ⟨⟨a1, a2, a3⟩, ⟨b1, b2⟩, ⟨c1, c2, c3⟩, d1, e1⟩ := hC
  obtain ⟨f1, f2, ⟨f3, f4, f5, f6⟩, f7, f8⟩ := h
  have hK := hc.1
  have hN := hc.2.1
  refine ⟨(cK c, cN c, cM c, τ.1 11, τ.1 12, τ.1 8, τ.1 9, τ.1 10, cB c, cR c), ⟨⟨f6.trans a1, f5.trans a2, a3⟩, ⟨rfl, rfl⟩, ⟨rfl, rfl, rfl⟩, f3.trans d1, f4.trans e1⟩, rfl, rfl, rfl, fun t ht => ?_, fun k hk => ?_, rfl, rfl⟩
  · have := f8 t (by omega)
    exact ⟨(congrFun b1 t).symm.trans this.1.symm, (congrFun b2 t).symm.trans this.2.symm⟩
  · have := f7 k (by omega)
    exact ⟨(congrFun c1 k).symm.trans this.1.symm, (congrFun c2 k).symm.trans this.2.1.symm, (congrFun c3 k).symm.trans this.2.2.symm⟩
theorem s_draftIsAsRead (d : Nat) {σ : zS} {c : zG} (hc : gWf c) (hD : gDr σ c) {n : Nat} {to x : Nat → Nat} (hT0 : gTc σ n to x) (hx : ∀ k, x k < 16) (hvN : ∀ k, k < n → to k ≤ cN c) (hb0 : σ.1 29 0 = 0) {q : Nat} {rt rm : Nat → Nat} {rs : Nat → Int32} (hq0 : σ.1 22 0 = nI q) (hR0 : gRd σ 23 24 25 q rt rm rs) : z_Ex mX5_draftIsAsRead (d + 4) [.ref 0] σ (fun rv τ => rv = some (.int (z_b (wAs c to x n rt rm rs q))) ∧ gFc σ τ) := by
  obtain ⟨c', hC', hE⟩ := hD
  have hc' := hE.wf hc
  rw [gEq_wAs hE hc.2.1.1]
  have hvN' : ∀ k, k < n → to k ≤ cN c' := fun k hk => by rw [← hE.2.1]; exact hvN k hk
  have hn18 := hT0.2.1
  refine x_enter (by decide) (Nat.le_of_ble_eq_true rfl) ?_
  show z_At _ _ _ [.ref 0] _ _ _
  refine x_aload0 (pc2 := 1) dX5_draftIsAsRead_0 rfl ?_
  refine x_getR (pc2 := 4) fX5_37 sh_0 rfl dX5_draftIsAsRead_1 rfl ?_
  refine x_aload0 (pc2 := 5) dX5_draftIsAsRead_4 rfl ?_
  refine x_getR (pc2 := 8) fX5_18 sh_0 rfl dX5_draftIsAsRead_5 rfl ?_
  refine x_cV1 eX4_go kX5_134 sh_26 rfl (Nat.le_of_ble_eq_true rfl) dX5_draftIsAsRead_8 ?_
  refine (s_goC d z_P7 hc' hC' hT0 hx hvN' hb0).mono ?_
  rintro rv τ ⟨rfl, hF, hwr, hJ⟩
  show z_At _ _ 11 _ [] _ _
  unfold wAs
  refine x_aload0 (pc2 := 12) dX5_draftIsAsRead_11 rfl ?_
  refine x_getR (pc2 := 15) fX5_37 sh_0 rfl dX5_draftIsAsRead_12 rfl ?_
  refine x_getI (pc2 := 18) fX5_137 sh_26 rfl dX5_draftIsAsRead_15 rfl ?_
  refine x_bipush (v := -9) (pc2 := 20) dX5_draftIsAsRead_18 rfl (by decide) ?_
  rw [hwr]
  refine x_icmp_ne (pc2 := 23) (pc3 := 41) dX5_draftIsAsRead_20 rfl rfl (fun h20 => ?_) (fun h20 => ?_)
  · rw [wR_none (fun k hk => by have := wW_lt _ _ hk; omega)] at h20
    refine x_iconst (v := 0) (pc2 := 42) dX5_draftIsAsRead_41 rfl (by decide) ?_
    refine x_zret dX5_draftIsAsRead_42 rfl (by first | assumption | exact z_b01 _ | exact Or.inl rfl | exact Or.inr rfl) ?_
    cases e : wW c' to x n with
    | none => exact absurd e h20
    | some k => exact ⟨rfl, hF⟩
  rw [wR_none (fun k hk => by have := wW_lt _ _ hk; omega)] at h20
  obtain ⟨hJ, -⟩ := hJ h20
  rw [h20, Option.isNone_none, Bool.true_and]
  have hq : τ.1 22 0 = nI q := by rw [hF.1 22 (by decide) (by decide) (by decide)]; exact hq0
  have hR : gRd τ 23 24 25 q rt rm rs := ⟨hR0.1, fun k hk => by
    rw [hF.1 23 (by decide) (by decide) (by decide), hF.1 24 (by decide) (by decide) (by decide), hF.1 25 (by decide) (by decide) (by decide)]
    exact hR0.2 k hk⟩
  refine x_aload0 (pc2 := 24) dX5_draftIsAsRead_23 rfl ?_
  refine x_getR (pc2 := 27) fX5_30 sh_0 rfl dX5_draftIsAsRead_24 rfl ?_
  refine x_aload0 (pc2 := 28) dX5_draftIsAsRead_27 rfl ?_
  refine x_getR (pc2 := 31) fX5_37 sh_0 rfl dX5_draftIsAsRead_28 rfl ?_
  refine x_fV1 (pc2 := 34) eX1_areSoBy kX5_211 sh_22 rfl (Nat.le_of_ble_eq_true rfl) dX5_draftIsAsRead_31 rfl (s_areSoBy _ hc' (hT0.of hF) hx (wW_ok _ h20) hJ.2.2.2 hq hR) ?_
  refine x_if_eq (pc2 := 37) (pc3 := 41) dX5_draftIsAsRead_34 rfl rfl (fun h34 => ?_) (fun h34 => ?_)
  · have h34' := z_b0.mp h34
    refine x_iconst (v := 0) (pc2 := 42) dX5_draftIsAsRead_41 rfl (by decide) ?_
    refine x_zret dX5_draftIsAsRead_42 rfl (by first | assumption | exact z_b01 _ | exact Or.inl rfl | exact Or.inr rfl) ?_
    rw [h34']
    exact ⟨rfl, hF⟩
  · have h34' := z_bn0.mp h34
    refine x_iconst (v := 1) (pc2 := 38) dX5_draftIsAsRead_37 rfl (by decide) ?_
    refine x_goto (pc2 := 42) dX5_draftIsAsRead_38 rfl ?_
    refine x_zret dX5_draftIsAsRead_42 rfl (by first | assumption | exact z_b01 _ | exact Or.inl rfl | exact Or.inr rfl) ?_
    rw [h34']
    exact ⟨rfl, hF⟩
/-- what since and kinds may change in the class -/
def gFx (σ τ : zS) (f : Int32) : Prop := (∀ q, q ≠ 0 → ¬ (7 ≤ q ∧ q ≤ 12) → ¬ (26 ≤ q ∧ q ≤ 30) → τ.1 q = σ.1 q) ∧ (∀ j, j ≠ 13 → τ.1 0 j = σ.1 0 j) ∧ τ.1 0 13 = f ∧ τ.1 29 0 = σ.1 29 0 ∧ ∀ q, q ≠ 26 → τ.2 q = σ.2 q
theorem gFw.x {σ τ : zS} {f : Int32} (h : gFw σ τ f) : gFx σ τ f := ⟨fun q a1 a2 a3 => h.1 q a1 (by omega) (by omega) (by omega) (by omega) (by omega), h.2⟩
theorem gFx.c {σ τ υ : zS} {f : Int32} (h : gFx σ τ f) (hc : gFc τ υ) : gFx σ υ f := by
  obtain ⟨h1, h2, h3, h4, h5⟩ := h
  obtain ⟨c1, c2, c3, c4⟩ := hc
  refine ⟨fun q a1 a2 a3 => ?_, fun j hj => ?_, ?_, ?_, fun q hq => ?_⟩
  · rw [c1 q (by omega) (by omega) (by omega)]; exact h1 q a1 a2 a3
  · rw [c1 0 (by decide) (by decide) (by decide)]; exact h2 j hj
  · rw [c1 0 (by decide) (by decide) (by decide)]; exact h3
  · rw [c4]; exact h4
  · rw [c3 q hq]; exact h5 q hq
theorem gFx.b {σ τ υ : zS} {f : Int32} (h : gFx σ τ f) (hb : gBc 7 1 τ υ) : gFx σ υ f := by
  obtain ⟨h1, h2, h3, h4, h5⟩ := h
  obtain ⟨c1, c2, -⟩ := hb
  refine ⟨fun q a1 a2 a3 => ?_, fun j hj => ?_, ?_, ?_, fun q hq => ?_⟩
  · rw [c1 q (by omega)]; exact h1 q a1 a2 a3
  · rw [c1 0 (by decide)]; exact h2 j hj
  · rw [c1 0 (by decide)]; exact h3
  · rw [c1 29 (by decide)]; exact h4
  · rw [c2]; exact h5 q hq
theorem gFx.d {σ τ : zS} {f : Int32} (h : gFx σ τ f) {q j : Nat} (hq : 7 ≤ q ∧ q ≤ 12) (v : Int32) : gFx σ (z_st τ q j v) f := by
  obtain ⟨h1, h2, h3, h4, h5⟩ := h
  refine ⟨fun p a1 a2 a3 => ?_, fun j hj => ?_, ?_, ?_, h5⟩
  · rw [z_st_row _ _ _ (by omega)]; exact h1 p a1 a2 a3
  · rw [z_st_row _ _ _ (by omega)]; exact h2 j hj
  · rw [z_st_row _ _ _ (by omega)]; exact h3
  · rw [z_st_row _ _ _ (by omega)]; exact h4
def z_sn (f : Nat → Bool) : Nat → Int32
  | 0 => 0
  | v + 1 => if f v then z_sn f v ||| ((1 : Int32) <<< (nI v &&& 31)) else z_sn f v
