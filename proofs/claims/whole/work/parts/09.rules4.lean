/-! Math.min, Math.abs, System.arraycopy -/
theorem w_math_ini : Cond.initialized "java/lang/Math" ∈ lw_tbl := by decide +kernel
theorem w_sys_ini : Cond.initialized "java/lang/System" ∈ lw_tbl := by decide +kernel
theorem w_min_st : Cond.static Lib.Math.min.name ∈ lw_tbl := by decide +kernel
theorem w_min_code : Cond.code Lib.Math.min.name Lib.Math.min.code 2 (some .int) ∈ lw_tbl := by decide +kernel
theorem w_abs_st : Cond.static Lib.Math.abs.name ∈ lw_tbl := by decide +kernel
theorem w_abs_code : Cond.code Lib.Math.abs.name Lib.Math.abs.code 1 (some .int) ∈ lw_tbl := by decide +kernel
theorem w_cpy_st : Cond.static arraycopyName ∈ lw_tbl := by decide +kernel
theorem w_cpy_nat : Cond.native arraycopyName ∈ lw_tbl := by decide +kernel
theorem w_cpy_link : Cond.methodLink RX5 230 arraycopyName ∈ lw_tbl := by decide +kernel
theorem x_mmin {i : zM} {d pc pc2 idx : Nat} {ls st : List Value} {σ : zS} {Q : Option Value → zS → Prop} {x y : Int32} (hk : Cond.methodLink i.1.cls idx Lib.Math.min.name ∈ lw_tbl) (hst : (st.map fun v => v.category).sum ≤ 8) (hd : decode i.2.1 pc = .ok (.invokestatic idx, 3)) (hp : pc + 3 = pc2) (h : z_At i (d + 1) pc2 ls (.int (if y < x then y else x) :: st) σ Q) : z_At i (d + 1) pc ls (.int y :: .int x :: st) σ Q := by
  subst hp
  intro p l e R s m args below meth c cells slots QS ad dC dI cA A hC hN hc hR H locs lsA hH hl
  have ht : ∀ w, w ∈ lw_tbl → goodWord w = true → w.before args s = true := fun w h1 h2 => hC.2.2.2.2.1 w (z_inT h1 h2)
  have h1 := hC.2.2.2.2.2.1
  have h2 := hC.2.2.2.2.2.2
  have h3 := z_catsum ad st
  exact va_mmin hC.1 hC.2.1 (hC.2.2.1.trans hl.2.1.symm) hC.2.2.2.1 (ht _ hk rfl) (ht _ w_min_st rfl) (ht _ w_math_ini rfl) (ht _ w_min_code rfl) (by omega) (by omega) hc.1 hc.2 hd (h p l e R s m args below meth c cells slots QS ad dC dI cA A hC hN hc hR H locs lsA hH hl)
theorem x_mabs {i : zM} {d pc pc2 idx : Nat} {ls st : List Value} {σ : zS} {Q : Option Value → zS → Prop} {x : Int32} (hk : Cond.methodLink i.1.cls idx Lib.Math.abs.name ∈ lw_tbl) (hst : (st.map fun v => v.category).sum ≤ 8) (hd : decode i.2.1 pc = .ok (.invokestatic idx, 3)) (hp : pc + 3 = pc2) (h : z_At i (d + 1) pc2 ls (.int (if 0 ≤ x then x else 0 - x) :: st) σ Q) : z_At i (d + 1) pc ls (.int x :: st) σ Q := by
  subst hp
  intro p l e R s m args below meth c cells slots QS ad dC dI cA A hC hN hc hR H locs lsA hH hl
  have ht : ∀ w, w ∈ lw_tbl → goodWord w = true → w.before args s = true := fun w h1 h2 => hC.2.2.2.2.1 w (z_inT h1 h2)
  have h1 := hC.2.2.2.2.2.1
  have h2 := hC.2.2.2.2.2.2
  have h3 := z_catsum ad st
  exact va_mabs hC.1 hC.2.1 (hC.2.2.1.trans hl.2.1.symm) hC.2.2.2.1 (ht _ hk rfl) (ht _ w_abs_st rfl) (ht _ w_math_ini rfl) (ht _ w_abs_code rfl) (by omega) (by omega) hc.1 hc.2 hd (h p l e R s m args below meth c cells slots QS ad dC dI cA A hC hN hc hR H locs lsA hH hl)
theorem w_cpy_words : nativeFrameWords "java/lang/System" "arraycopy" 5 ≤ 60 := by decide
def z_cp (σ : zS) (r0 r1 sp dp n : Nat) : zS := (z_up σ.1 r1 (va_cpy (σ.1 r0) (σ.1 r1) sp dp n), σ.2)
theorem x_acopy {i : zM} {d pc pc2 idx : Nat} {ls st : List Value} {σ : zS} {Q : Option Value → zS → Prop} {r0 r1 n0 n1 : Nat} {k0 k1 : List (Nat × Nat)} {sp dp n : Int32} (hk : Cond.methodLink i.1.cls idx arraycopyName ∈ lw_tbl) (hs0 : z_shp r0 = (1, n0, k0)) (hs1 : z_shp r1 = (1, n1, k1)) (g1 : ¬ sp < 0) (g2 : ¬ dp < 0) (g3 : ¬ n < 0) (g4 : sp.toNatClampNeg + n.toNatClampNeg ≤ n0) (g5 : dp.toNatClampNeg + n.toNatClampNeg ≤ n1) (hst : (st.map fun v => v.category).sum ≤ 8) (hd : decode i.2.1 pc = .ok (.invokestatic idx, 3)) (hp : pc + 3 = pc2) (h : z_At i (d + 2) pc2 ls st (z_cp σ r0 r1 sp.toNatClampNeg dp.toNatClampNeg n.toNatClampNeg) Q) : z_At i (d + 2) pc ls (.int n :: .int dp :: .ref r1 :: .int sp :: .ref r0 :: st) σ Q := by
  subst hp
  intro p l e R s m args below meth c cells slots QS ad dC dI cA A hC hN hc hR H locs lsA hH hl
  have ht : ∀ w, w ∈ lw_tbl → goodWord w = true → w.before args s = true := fun w h1 h2 => hC.2.2.2.2.1 w (z_inT h1 h2)
  have h1 := hC.2.2.2.2.2.1
  have h2 := hC.2.2.2.2.2.2
  have h3 := z_catsum ad st
  have h4 := w_cpy_words
  have hr0 : r0 < 63 := z_shp_lt hs0 (by decide)
  have hr1 : r1 < 63 := z_shp_lt hs1 (by decide)
  have hw0 : (z_ws ad cA σ)[r0]? = some (ad r0, .inl (cA 0, n0, .inl (σ.1 r0))) := by rw [z_ws_at ad cA σ hr0, z_cell_i hs0]
  have hw1 : (z_ws ad cA σ)[r1]? = some (ad r1, .inl (cA 0, n1, .inl (σ.1 r1))) := by rw [z_ws_at ad cA σ hr1, z_cell_i hs1]
  generalize hτ : z_cp σ r0 r1 sp.toNatClampNeg dp.toNatClampNeg n.toNatClampNeg = τ at h
  have ho : ∀ q, q ≠ r1 → τ.1 q = σ.1 q ∧ τ.2 q = σ.2 q := fun q hq => by rw [← hτ]; exact ⟨z_up_ne _ _ hq, rfl⟩
  refine va_copyi hC.1 hC.2.1 (hC.2.2.1.trans hl.2.1.symm) hC.2.2.2.1 (ht _ hk rfl) (ht _ w_cpy_nat rfl) (ht _ w_cpy_st rfl) (ht _ w_sys_ini rfl) hN.2.1 hH.1 (z_ws_D hN.1 hN.2.2.1) hH.2.2 r0 r1 0 0 hw0 hw1 rfl rfl rfl g1 g2 g3 g4 g5 (fun _ _ => rfl) (by omega) (by omega) hd (fun H1 locs1 hP1 _ hS1 => ?_)
  have hset : (z_ws ad cA σ).set r1 (ad r1, .inl (cA 0, n1, .inl (va_cpy (σ.1 r0) (σ.1 r1) sp.toNatClampNeg dp.toNatClampNeg n.toNatClampNeg))) = z_ws ad cA τ := by
    rw [← z_ws_set hr1 ho, z_cell_i hs1, ← hτ]
    simp [z_cp, z_up_same]
  rw [hset] at hP1
  exact h p l e R s m args below meth c cells slots QS ad dC dI cA A hC hN hc hR H1 locs1 lsA (hH.mk hP1 hS1 (ho 63 (by omega)).1 (ho 64 (by omega)).1) hl
