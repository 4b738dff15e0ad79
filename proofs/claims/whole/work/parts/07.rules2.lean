/-! fields -/
theorem x_get {i : zM} {d pc pc2 : Nat} {ls st : List Value} {σ : zS} {Q : Option Value → zS → Prop} {idx r ci j : Nat} {ks : List (Nat × Nat)} {k : Nat × Nat} (hf : z_Lf i.1.cls idx ci j) (hs : z_shp r = (0, ci, ks)) (hk : ks[j]? = some k) (hd : decode i.2.1 pc = .ok (.getfield idx, 3)) (hp : pc + 3 = pc2) (h : z_At i d pc2 ls (z_av σ r j k :: st) σ Q) : z_At i d pc ls (.ref r :: st) σ Q := by
  subst hp
  intro p l e R s m args below meth c cells slots QS ad dC dI cA A hC hN hc hR H locs lsA hH hl
  obtain ⟨C, T, N, h1, h2, h3, h4, h5⟩ := hf
  have hr : r < 63 := z_shp_lt hs (by decide)
  have hw : (z_ws ad cA σ)[r]? = some (ad r, .inr (ci, z_fs ad σ r ks)) := by rw [z_ws_at ad cA σ hr, z_cell_o hs]
  have hgo := h p l e R s m args below meth c cells slots QS ad dC dI cA A hC hN hc hR H locs lsA hH hl
  rw [List.map_cons, z_cv_av] at hgo
  have hsame : ∀ x, s.fieldFound? (T j).1 (T j).2.1 (T j).2.2.1 = some x → s.fieldFound? C (T j).2.1 (T j).2.2.1 = some x := fun x hx => by rw [h4] at hx; exact hx
  rcases h5 with h5 | ⟨host, h5⟩
  · exact va_get (D := (dC, dI)) hC.1 hC.2.1 hC.2.2.2.2.1 (z_uws h2) hC.2.2.2.1 hN.2.1 hH.1 r hw h1 j h3 (hC.2.2.2.2.1 _ (z_inT h5 rfl)) hsame (z_fs_at hk) hd hgo
  · exact va_getN (D := (dC, dI)) hC.1 hC.2.1 hC.2.2.2.2.1 (z_uws h2) hC.2.2.2.1 hN.2.1 hH.1 r hw h1 j h3 (va_Nw.use rfl (hN.2.2.2.2.2 _ (List.mem_filter.mpr ⟨h5, rfl⟩))) hsame (z_fs_at hk) hd hgo
theorem x_getI {i : zM} {d pc pc2 : Nat} {ls st : List Value} {σ : zS} {Q : Option Value → zS → Prop} {idx r ci j t : Nat} {ks : List (Nat × Nat)} (hf : z_Lf i.1.cls idx ci j) (hs : z_shp r = (0, ci, ks)) (hk : ks[j]? = some (0, t)) (hd : decode i.2.1 pc = .ok (.getfield idx, 3)) (hp : pc + 3 = pc2) (h : z_At i d pc2 ls (.int (σ.1 r j) :: st) σ Q) : z_At i d pc ls (.ref r :: st) σ Q := x_get hf hs hk hd hp h
theorem x_getL {i : zM} {d pc pc2 : Nat} {ls st : List Value} {σ : zS} {Q : Option Value → zS → Prop} {idx r ci j t : Nat} {ks : List (Nat × Nat)} (hf : z_Lf i.1.cls idx ci j) (hs : z_shp r = (0, ci, ks)) (hk : ks[j]? = some (1, t)) (hd : decode i.2.1 pc = .ok (.getfield idx, 3)) (hp : pc + 3 = pc2) (h : z_At i d pc2 ls (.long (σ.2 r j) :: st) σ Q) : z_At i d pc ls (.ref r :: st) σ Q := x_get hf hs hk hd hp h
theorem x_getR {i : zM} {d pc pc2 : Nat} {ls st : List Value} {σ : zS} {Q : Option Value → zS → Prop} {idx r ci j t : Nat} {ks : List (Nat × Nat)} (hf : z_Lf i.1.cls idx ci j) (hs : z_shp r = (0, ci, ks)) (hk : ks[j]? = some (2, t)) (hd : decode i.2.1 pc = .ok (.getfield idx, 3)) (hp : pc + 3 = pc2) (h : z_At i d pc2 ls (.ref t :: st) σ Q) : z_At i d pc ls (.ref r :: st) σ Q := x_get hf hs hk hd hp h
theorem z_fs_st {ad : Nat → Nat} {σ : zS} {r j t : Nat} {ks : List (Nat × Nat)} (v : Int32) (h : ks[j]? = some (0, t)) : (z_fs ad σ r ks).set j (.int v) = z_fs ad (z_st σ r j v) r ks := by
  apply List.ext_getElem?
  intro q
  unfold z_fs
  by_cases hq : q = j
  · subst hq
    rw [List.getElem?_set_self (by rw [List.length_mapIdx]; exact (List.getElem?_eq_some_iff.mp h).1), List.getElem?_mapIdx, h]
    simp [z_fv, z_st, z_up_same, upd]
  · rw [List.getElem?_set_ne (Ne.symm hq), List.getElem?_mapIdx, List.getElem?_mapIdx]
    cases ks[q]? with
    | none => rfl
    | some k => simp [z_fv, z_st, z_up_same, upd, hq]
theorem z_fs_stL {ad : Nat → Nat} {σ : zS} {r j t : Nat} {ks : List (Nat × Nat)} (v : Int64) (h : ks[j]? = some (1, t)) : (z_fs ad σ r ks).set j (.long v) = z_fs ad (z_stL σ r j v) r ks := by
  apply List.ext_getElem?
  intro q
  unfold z_fs
  by_cases hq : q = j
  · subst hq
    rw [List.getElem?_set_self (by rw [List.length_mapIdx]; exact (List.getElem?_eq_some_iff.mp h).1), List.getElem?_mapIdx, h]
    simp [z_fv, z_stL, z_upL_same, vp_updL]
  · rw [List.getElem?_set_ne (Ne.symm hq), List.getElem?_mapIdx, List.getElem?_mapIdx]
    cases ks[q]? with
    | none => rfl
    | some k => simp [z_fv, z_stL, z_upL_same, vp_updL, hq]
theorem z_st_off {σ : zS} {r j : Nat} {v : Int32} {q : Nat} (h : q ≠ r) : (z_st σ r j v).1 q = σ.1 q ∧ (z_st σ r j v).2 q = σ.2 q := ⟨z_up_ne _ _ h, rfl⟩
theorem z_stL_off {σ : zS} {r j : Nat} {v : Int64} {q : Nat} (h : q ≠ r) : (z_stL σ r j v).1 q = σ.1 q ∧ (z_stL σ r j v).2 q = σ.2 q := ⟨rfl, z_upL_ne _ _ h⟩
theorem x_putG {i : zM} {d pc pc2 : Nat} {ls st : List Value} {σ τ : zS} {Q : Option Value → zS → Prop} {idx r ci j : Nat} {ks : List (Nat × Nat)} {ty : FieldType} {v : Value} (hf : z_Lp i.1.cls idx ci j ty) (hs : z_shp r = (0, ci, ks)) (hj : j < ks.length) (hv : ∀ ad, z_cv ad v = v) (hn : narrow ty v = v) (hfit : fits ty v = true) (he : ∀ ad, (z_fs ad σ r ks).set j v = z_fs ad τ r ks) (ho : ∀ q, q ≠ r → τ.1 q = σ.1 q ∧ τ.2 q = σ.2 q) (hd : decode i.2.1 pc = .ok (.putfield idx, 3)) (hp : pc + 3 = pc2) (h : z_At i d pc2 ls st τ Q) : z_At i d pc ls (v :: .ref r :: st) σ Q := by
  subst hp
  intro p l e R s m args below meth c cells slots QS ad dC dI cA A hC hN hc hR H locs lsA hH hl
  obtain ⟨C, T, N, ty0, h1, h2, h3, h4, h5, h6, h7, h8, h9⟩ := hf
  have hr : r < 63 := z_shp_lt hs (by decide)
  have hw : (z_ws ad cA σ)[r]? = some (ad r, .inr (ci, z_fs ad σ r ks)) := by rw [z_ws_at ad cA σ hr, z_cell_o hs]
  have hsame : ∀ x, s.fieldFound? (T j).1 (T j).2.1 (T j).2.2.1 = some x → s.fieldFound? C (T j).2.1 (T j).2.2.1 = some x := fun x hx => by rw [h4] at hx; exact hx
  have hD : va_D A (z_ws ad cA σ) := z_ws_D hN.1 hN.2.2.1
  have hlen : j < (z_fs ad σ r ks).length := by unfold z_fs; rw [List.length_mapIdx]; exact hj
  have hset : (z_ws ad cA σ).set r (ad r, .inr (ci, (z_fs ad σ r ks).set j v)) = z_ws ad cA τ := by
    rw [he ad, ← z_ws_set hr ho, z_cell_o hs]
  have kk : ∀ (H1 : Heap) (locs1 : List Loc), va_P (dC, dI) vwCl ((z_ws ad cA σ).set r (ad r, .inr (ci, (z_fs ad σ r ks).set j v))) H1 → va_D A ((z_ws ad cA σ).set r (ad r, .inr (ci, (z_fs ad σ r ks).set j v))) → va_S A s.heap H1 locs1 → W p l e R s m args below meth c H1 locs1 cells slots QS (F0 m (pc + 3) lsA (st.map (z_cv ad))) := by
    intro H1 locs1 hP1 _ hS1
    rw [hset] at hP1
    exact h p l e R s m args below meth c cells slots QS ad dC dI cA A hC hN hc hR H1 locs1 lsA (hH.mk hP1 hS1 (ho 63 (by omega)).1 (ho 64 (by omega)).1) hl
  rw [List.map_cons, List.map_cons, hv ad]
  rcases h5 with h5 | ⟨host, h5⟩
  · exact va_put (D := (dC, dI)) hC.1 hC.2.1 hC.2.2.2.2.1 (z_uws h2) ty0 h6 h7 hC.2.2.2.1 hN.2.1 hH.1 hD hH.2.2 r hw h1 j h3 (hC.2.2.2.2.1 _ (z_inT h5 rfl)) hsame h8 h9 hn hfit hlen hd kk
  · exact va_putN (D := (dC, dI)) hC.1 hC.2.1 hC.2.2.2.2.1 (z_uws h2) ty0 h6 h7 hC.2.2.2.1 hN.2.1 hH.1 hD hH.2.2 r hw h1 j h3 (va_Nw.use rfl (hN.2.2.2.2.2 _ (List.mem_filter.mpr ⟨h5, rfl⟩))) hsame h8 h9 hn hfit hlen hd kk
theorem x_putI {i : zM} {d pc pc2 : Nat} {ls st : List Value} {σ : zS} {Q : Option Value → zS → Prop} {idx r ci j t : Nat} {ks : List (Nat × Nat)} {v : Int32} (hf : z_Lp i.1.cls idx ci j .int) (hs : z_shp r = (0, ci, ks)) (hk : ks[j]? = some (0, t)) (hd : decode i.2.1 pc = .ok (.putfield idx, 3)) (hp : pc + 3 = pc2) (h : z_At i d pc2 ls st (z_st σ r j v) Q) : z_At i d pc ls (.int v :: .ref r :: st) σ Q :=
  x_putG hf hs (List.getElem?_eq_some_iff.mp hk).1 (fun _ => rfl) rfl rfl (fun _ => z_fs_st v hk) (fun _ hq => z_st_off hq) hd hp h
theorem x_putZ {i : zM} {d pc pc2 : Nat} {ls st : List Value} {σ : zS} {Q : Option Value → zS → Prop} {idx r ci j t : Nat} {ks : List (Nat × Nat)} {v : Int32} (hf : z_Lp i.1.cls idx ci j .boolean) (hs : z_shp r = (0, ci, ks)) (hk : ks[j]? = some (0, t)) (hv : v = 0 ∨ v = 1) (hd : decode i.2.1 pc = .ok (.putfield idx, 3)) (hp : pc + 3 = pc2) (h : z_At i d pc2 ls st (z_st σ r j v) Q) : z_At i d pc ls (.int v :: .ref r :: st) σ Q :=
  x_putG hf hs (List.getElem?_eq_some_iff.mp hk).1 (fun _ => rfl) (by rcases hv with rfl | rfl <;> rfl) (by rcases hv with rfl | rfl <;> rfl) (fun _ => z_fs_st v hk) (fun _ hq => z_st_off hq) hd hp h
theorem x_putL {i : zM} {d pc pc2 : Nat} {ls st : List Value} {σ : zS} {Q : Option Value → zS → Prop} {idx r ci j t : Nat} {ks : List (Nat × Nat)} {v : Int64} (hf : z_Lp i.1.cls idx ci j .long) (hs : z_shp r = (0, ci, ks)) (hk : ks[j]? = some (1, t)) (hd : decode i.2.1 pc = .ok (.putfield idx, 3)) (hp : pc + 3 = pc2) (h : z_At i d pc2 ls st (z_stL σ r j v) Q) : z_At i d pc ls (.long v :: .ref r :: st) σ Q :=
  x_putG hf hs (List.getElem?_eq_some_iff.mp hk).1 (fun _ => rfl) rfl rfl (fun _ => z_fs_stL v hk) (fun _ hq => z_stL_off hq) hd hp h
/-! arrays -/
theorem x_iald {i : zM} {d pc pc2 : Nat} {ls st : List Value} {σ : zS} {Q : Option Value → zS → Prop} {r n : Nat} {ks : List (Nat × Nat)} {x : Int32} (hs : z_shp r = (1, n, ks)) (hin : vp_in x n) (hd : decode i.2.1 pc = .ok (.iaload, 1)) (hp : pc + 1 = pc2) (h : z_At i d pc2 ls (.int (σ.1 r x.toNatClampNeg) :: st) σ Q) : z_At i d pc ls (.int x :: .ref r :: st) σ Q := by
  subst hp
  intro p l e R s m args below meth c cells slots QS ad dC dI cA A hC hN hc hR H locs lsA hH hl
  have hr : r < 63 := z_shp_lt hs (by decide)
  have hw : (z_ws ad cA σ)[r]? = some (ad r, .inl (cA 0, n, .inl (σ.1 r))) := by rw [z_ws_at ad cA σ hr, z_cell_i hs]
  exact va_iald hC.1 hC.2.1 hN.2.1 hH.1 r 0 hw rfl hin hd (h p l e R s m args below meth c cells slots QS ad dC dI cA A hC hN hc hR H locs lsA hH hl)
theorem x_zald {i : zM} {d pc pc2 : Nat} {ls st : List Value} {σ : zS} {Q : Option Value → zS → Prop} {r n : Nat} {ks : List (Nat × Nat)} {x : Int32} (hs : z_shp r = (2, n, ks)) (hin : vp_in x n) (hd : decode i.2.1 pc = .ok (.baload, 1)) (hp : pc + 1 = pc2) (h : z_At i d pc2 ls (.int (σ.1 r x.toNatClampNeg) :: st) σ Q) : z_At i d pc ls (.int x :: .ref r :: st) σ Q := by
  subst hp
  intro p l e R s m args below meth c cells slots QS ad dC dI cA A hC hN hc hR H locs lsA hH hl
  have hr : r < 63 := z_shp_lt hs (by decide)
  have hw : (z_ws ad cA σ)[r]? = some (ad r, .inl (cA 1, n, .inl (σ.1 r))) := by rw [z_ws_at ad cA σ hr, z_cell_z hs]
  exact va_zald hC.1 hC.2.1 hN.2.1 hH.1 r 1 hw rfl hin hd (h p l e R s m args below meth c cells slots QS ad dC dI cA A hC hN hc hR H locs lsA hH hl)
theorem x_aald {i : zM} {d pc pc2 : Nat} {ls st : List Value} {σ : zS} {Q : Option Value → zS → Prop} {r n : Nat} {ks : List (Nat × Nat)} {x : Int32} (hs : z_shp r = (3, n, ks)) (hin : vp_in x n) (hd : decode i.2.1 pc = .ok (.aaload, 1)) (hp : pc + 1 = pc2) (h : z_At i d pc2 ls (.ref (14 + x.toNatClampNeg) :: st) σ Q) : z_At i d pc ls (.int x :: .ref r :: st) σ Q := by
  subst hp
  intro p l e R s m args below meth c cells slots QS ad dC dI cA A hC hN hc hR H locs lsA hH hl
  have hr : r < 63 := z_shp_lt hs (by decide)
  have hw : (z_ws ad cA σ)[r]? = some (ad r, .inl (cA 2, n, .inr (.inr (.inr (.inr (fun j => some (ad (14 + j)))))))) := by rw [z_ws_at ad cA σ hr, z_cell_q hs]
  exact va_aldq hC.1 hC.2.1 hN.2.1 hH.1 r 2 hw rfl hin hd (h p l e R s m args below meth c cells slots QS ad dC dI cA A hC hN hc hR H locs lsA hH hl)
theorem x_iast {i : zM} {d pc pc2 : Nat} {ls st : List Value} {σ : zS} {Q : Option Value → zS → Prop} {r n : Nat} {ks : List (Nat × Nat)} {x v : Int32} (hs : z_shp r = (1, n, ks)) (hin : vp_in x n) (hd : decode i.2.1 pc = .ok (.iastore, 1)) (hp : pc + 1 = pc2) (h : z_At i d pc2 ls st (z_st σ r x.toNatClampNeg v) Q) : z_At i d pc ls (.int v :: .int x :: .ref r :: st) σ Q := by
  subst hp
  intro p l e R s m args below meth c cells slots QS ad dC dI cA A hC hN hc hR H locs lsA hH hl
  have hr : r < 63 := z_shp_lt hs (by decide)
  have hw : (z_ws ad cA σ)[r]? = some (ad r, .inl (cA 0, n, .inl (σ.1 r))) := by rw [z_ws_at ad cA σ hr, z_cell_i hs]
  have ho : ∀ q, q ≠ r → (z_st σ r x.toNatClampNeg v).1 q = σ.1 q ∧ (z_st σ r x.toNatClampNeg v).2 q = σ.2 q := fun q hq => z_st_off hq
  refine va_iast hC.1 hC.2.1 hN.2.1 hH.1 (z_ws_D hN.1 hN.2.2.1) hH.2.2 r 0 hw rfl hin hd (fun H1 locs1 hP1 _ hS1 => ?_)
  have hset : (z_ws ad cA σ).set r (ad r, .inl (cA 0, n, .inl (upd (σ.1 r) x.toNatClampNeg v))) = z_ws ad cA (z_st σ r x.toNatClampNeg v) := by
    rw [← z_ws_set hr ho, z_cell_i hs]
    simp [z_st, z_up_same]
  rw [hset] at hP1
  exact h p l e R s m args below meth c cells slots QS ad dC dI cA A hC hN hc hR H1 locs1 lsA (hH.mk hP1 hS1 (ho 63 (by omega)).1 (ho 64 (by omega)).1) hl
theorem x_zast {i : zM} {d pc pc2 : Nat} {ls st : List Value} {σ : zS} {Q : Option Value → zS → Prop} {r n : Nat} {ks : List (Nat × Nat)} {x v : Int32} (hs : z_shp r = (2, n, ks)) (hin : vp_in x n) (hv : v = 0 ∨ v = 1) (hd : decode i.2.1 pc = .ok (.bastore, 1)) (hp : pc + 1 = pc2) (h : z_At i d pc2 ls st (z_st σ r x.toNatClampNeg v) Q) : z_At i d pc ls (.int v :: .int x :: .ref r :: st) σ Q := by
  subst hp
  intro p l e R s m args below meth c cells slots QS ad dC dI cA A hC hN hc hR H locs lsA hH hl
  have hr : r < 63 := z_shp_lt hs (by decide)
  have hw : (z_ws ad cA σ)[r]? = some (ad r, .inl (cA 1, n, .inl (σ.1 r))) := by rw [z_ws_at ad cA σ hr, z_cell_z hs]
  have ho : ∀ q, q ≠ r → (z_st σ r x.toNatClampNeg v).1 q = σ.1 q ∧ (z_st σ r x.toNatClampNeg v).2 q = σ.2 q := fun q hq => z_st_off hq
  have hnar : vp_nar .boolean v = v := by rcases hv with rfl | rfl <;> rfl
  refine va_zast hC.1 hC.2.1 hN.2.1 hH.1 (z_ws_D hN.1 hN.2.2.1) hH.2.2 r 1 hw rfl hin hd (fun H1 locs1 hP1 _ hS1 => ?_)
  rw [hnar] at hP1
  have hset : (z_ws ad cA σ).set r (ad r, .inl (cA 1, n, .inl (upd (σ.1 r) x.toNatClampNeg v))) = z_ws ad cA (z_st σ r x.toNatClampNeg v) := by
    rw [← z_ws_set hr ho, z_cell_z hs]
    simp [z_st, z_up_same]
  rw [hset] at hP1
  exact h p l e R s m args below meth c cells slots QS ad dC dI cA A hC hN hc hR H1 locs1 lsA (hH.mk hP1 hS1 (ho 63 (by omega)).1 (ho 64 (by omega)).1) hl
theorem x_alen {i : zM} {d pc pc2 : Nat} {ls st : List Value} {σ : zS} {Q : Option Value → zS → Prop} {r n : Nat} {ks : List (Nat × Nat)} (hs : z_shp r = (1, n, ks)) (hd : decode i.2.1 pc = .ok (.arraylength, 1)) (hp : pc + 1 = pc2) (h : z_At i d pc2 ls (.int (Int32.ofNat n) :: st) σ Q) : z_At i d pc ls (.ref r :: st) σ Q := by
  subst hp
  intro p l e R s m args below meth c cells slots QS ad dC dI cA A hC hN hc hR H locs lsA hH hl
  have hr : r < 63 := z_shp_lt hs (by decide)
  have hw : (z_ws ad cA σ)[r]? = some (ad r, .inl (cA 0, n, .inl (σ.1 r))) := by rw [z_ws_at ad cA σ hr, z_cell_i hs]
  exact va_alen hC.1 hC.2.1 hN.2.1 hH.1 r 0 hw rfl rfl hd (h p l e R s m args below meth c cells slots QS ad dC dI cA A hC hN hc hR H locs lsA hH hl)
/-! the script -/
theorem x_sld {i : zM} {d pc pc2 : Nat} {ls st : List Value} {σ : zS} {Q : Option Value → zS → Prop} {x : Int32} (hin : vp_in x (z_len σ)) (hd : decode i.2.1 pc = .ok (.iaload, 1)) (hp : pc + 1 = pc2) (h : z_At i d pc2 ls (.int (σ.1 63 x.toNatClampNeg) :: st) σ Q) : z_At i d pc ls (.int x :: .ref 63 :: st) σ Q := by
  subst hp
  intro p l e R s m args below meth c cells slots QS ad dC dI cA A hC hN hc hR H locs lsA hH hl
  exact va_sld hC.1 hC.2.1 hH.2.1 hN.2.2.2.2.1 hN.2.2.2.1 hH.2.2 hin hd (h p l e R s m args below meth c cells slots QS ad dC dI cA A hC hN hc hR H locs lsA hH hl)
theorem x_slen {i : zM} {d pc pc2 : Nat} {ls st : List Value} {σ : zS} {Q : Option Value → zS → Prop} (hd : decode i.2.1 pc = .ok (.arraylength, 1)) (hp : pc + 1 = pc2) (h : z_At i d pc2 ls (.int (Int32.ofNat (z_len σ)) :: st) σ Q) : z_At i d pc ls (.ref 63 :: st) σ Q := by
  subst hp
  intro p l e R s m args below meth c cells slots QS ad dC dI cA A hC hN hc hR H locs lsA hH hl
  exact va_slen hC.1 hC.2.1 hH.2.1 hN.2.2.2.2.1 hN.2.2.2.1 hH.2.2 hd (h p l e R s m args below meth c cells slots QS ad dC dI cA A hC hN hc hR H locs lsA hH hl)
