/-! calls -/
theorem z_W.moved {ad : Nat → Nat} {dC : Nat → ClassId} {dI : Nat → Nat → Nat} {cA : Nat → ClassId} {σ : zS} {u U : State} (hh : U.heap = u.heap) (hvm : u.vm.Alike U.vm) (h : z_W ad dC dI cA σ u) : z_W ad dC dI cA σ U := by
  refine ⟨by rw [hh]; exact h.1, va_K.moved hvm h.2.1, ?_⟩
  rw [hh]
  exact va_X.moved hvm h.2.2
theorem z_blind {ad : Nat → Nat} {dC : Nat → ClassId} {dI : Nat → Nat → Nat} {cA : Nat → ClassId} {σ : zS} {as : List Value} : FrameBlind (va_Pc (as.map (z_cv ad)) (fun U => z_W ad dC dI cA σ U ∧ z_Nw U)) := by
  intro a U g mk q
  obtain ⟨q0, q1, q2⟩ := q
  exact ⟨q0, z_W.moved (u := U) (U := U.calling g mk a) rfl (Vm.Alike.refl U.vm) q1, z_Nw.same (s := U) (U := U.calling g mk a) rfl q2⟩
theorem z_pre {ad : Nat → Nat} {dC : Nat → ClassId} {dI : Nat → Nat → Nat} {cA : Nat → ClassId} {A : Nat → Prop} {s : State} {σ : zS} {H : Heap} {locs : List Loc} {as : List Value} (hN : z_N ad dC dI cA A s) (hH : z_H ad dC dI cA A s σ H locs) (U : State) (hU : U.heap = H) (hW : s.WarmedH U.vm) : va_Pc (as.map (z_cv ad)) (fun U => z_W ad dC dI cA σ U ∧ z_Nw U) (as.map (z_cv ad)).toArray U := by
  refine ⟨rfl, ⟨by rw [hU]; exact hH.1, va_K.moved hW.alike hN.2.1, ?_⟩, z_Nw.warm hW hN.2.2.2.2.2⟩
  refine va_X.moved hW.alike (va_X.kept hH.2.1 ?_)
  rw [hU]
  exact hH.2.2.2.1 (ad 63) hN.2.2.2.2.1 hN.2.2.2.1
/-- behind any call -/
theorem z_after {i : zM} {d pc : Nat} {ls st st0 : List Value} {σ : zS} {Q : Option Value → zS → Prop} {p : Program} {l : Launch} {e : Env} {R : Room} {s : State} {m : MethodId} {args : Array Value} {below : List Frame} {meth : Method} {c : Code} {cells slots : Nat} {QS : State → Prop} {ad : Nat → Nat} {dC : Nat → ClassId} {dI : Nat → Nat → Nat} {cA : Nat → ClassId} {A : Nat → Prop} {a : Array Value}
    (hC : z_C i d p R s m args c) (hN : z_N ad dC dI cA A s) (hc : cells ≤ R.cells ∧ slots ≤ R.slots) (hR : z_R i Q ad dC dI cA A p l e R s m args below meth c cells slots QS) {H : Heap} {locs : List Loc} {lsA : Array Slot} (hH : z_H ad dC dI cA A s σ H locs) (hl : z_loc ad i.2.2.1 ls lsA)
    (hr : va_Run p l e R s m args below meth c H locs cells slots 0 0 (F0 m pc lsA (st0.map (z_cv ad))) (st.map (z_cv ad)) (z_Qc ad dC dI cA (fun rv σ' => z_At i d (pc + 3) ls (rv.toList ++ st) σ' Q) a) (z_A ad)) : W p l e R s m args below meth c H locs cells slots QS (F0 m pc lsA (st0.map (z_cv ad))) := by
  intro T hT X
  obtain ⟨v, st₀, t, T', L, h0, X', hL, e1, e2, ⟨⟨rv, σ', hv, hq, hw⟩, hz, hk⟩, stp⟩ := hr T hT X
  have hv' : v = rv.map (z_cv ad) := by injection hv
  subst hv'
  rw [h0] at hz hk
  have hzA : ∀ q, z_A ad q → A q := fun q ⟨r, h1, h2⟩ => by rw [h2]; exact hN.2.2.1 r h1
  have hS1 : va_S A s.heap T'.heap (locs ++ L) := by
    refine ⟨Nat.le_trans hH.2.2.1 (by rw [e1]; exact hz), fun q h1 h2 => ?_, fun q hq => ?_⟩
    · rw [e1, hk q (Nat.lt_of_lt_of_le h1 hH.2.2.1) (fun z => h2 (hzA q z))]
      exact hH.2.2.2.1 q h1 h2
    · rcases List.mem_append.mp hq with h | h
      · exact hH.2.2.2.2 q h
      · exact hzA _ (hL q h)
  have hal : s.vm.Alike t.vm := by rw [← e2]; exact X'.warmed.alike
  have hX1 : va_X (ad 63) (z_len σ') (σ'.1 63) s s.heap := by
    refine va_X.kept (va_X.moved hal.symm hw.2.2) ?_
    rw [← hS1.2.1 (ad 63) hN.2.2.2.2.1 hN.2.2.2.1, e1]
  have hH1 : z_H ad dC dI cA A s σ' T'.heap (locs ++ L) := ⟨by rw [e1]; exact hw.1, hX1, hS1⟩
  obtain ⟨t2, a1, b1⟩ := hq p l e R s m args below meth c cells slots QS ad dC dI cA A hC hN hc hR T'.heap (locs ++ L) lsA hH1 hl T' rfl X'
  refine ⟨t2, stp t2 ?_, b1⟩
  have es : (rv.map (z_cv ad)).toList ++ st.map (z_cv ad) = (rv.toList ++ st).map (z_cv ad) := by cases rv <;> simp
  show Steps p.tables e below (T'.setTop (F0 m (pc + 3) lsA ((rv.map (z_cv ad)).toList ++ st.map (z_cv ad)))) t2
  rw [es]
  exact a1
theorem z_catsum (ad : Nat → Nat) (st : List Value) : ((st.map (z_cv ad)).map fun v => v.category).sum = (st.map fun v => v.category).sum := by
  rw [List.map_map]
  congr 1
  apply List.map_congr_left
  intro v _
  exact z_cv_cat ad v
theorem x_callV {i j : zM} {d pc idx n r ci : Nat} {as ls st : List Value} {σ : zS} {Q : Option Value → zS → Prop} {ks : List (Nat × Nat)} {T : u_T} {N : Nat} (hj : z_LmV j n) (hk : Cond.methodLink i.1.cls idx j.1 ∈ lw_tbl) (hs : z_shp r = (0, ci, ks)) (hcl : vwCl[ci]? = some (j.1.cls, T, N)) (hn : as.length = n) (hst : (st.map fun v => v.category).sum ≤ 8) (hd : decode i.2.1 pc = .ok (.invokevirtual idx, 3))
    (h : z_Ex j d (.ref r :: as) σ (fun rv σ' => z_At i (d + 1) (pc + 3) ls (rv.toList ++ st) σ' Q)) : z_At i (d + 1) pc ls (as.reverse ++ .ref r :: st) σ Q := by
  intro p l e R s m args below meth c cells slots QS ad dC dI cA A hC hN hc hR H locs lsA hH hl
  refine z_after (st := st) (a := (Value.ref (ad r) :: as.map (z_cv ad)).toArray) hC hN hc hR hH hl ?_
  have hM := h _ (fun _ _ hh => hh) l ad dC dI cA hN.1
  have hrr : r < 63 := z_shp_lt hs (by decide)
  have hw : (z_ws ad cA σ)[r]? = some (ad r, .inr (ci, z_fs ad σ r ks)) := by rw [z_ws_at ad cA σ hrr, z_cell_o hs]
  obtain ⟨h1, h2, h3, h4, h5, h6⟩ := hj
  refine va_runV (C := j.1.cls) (As := as.map (z_cv ad)) (rest := st.map (z_cv ad)) ⟨hC.1, hC.2.1, hC.2.2.1, hC.2.2.2.1, hC.2.2.2.2.1⟩ hM (cwV n hC.2.2.2.2.1 (z_goodIn (ws := wsV i.1.cls idx j.1.cls j.1 (z_wd j)) ?_) rfl rfl rfl ⟨rfl, h5⟩ ⟨?_, ?_⟩) ⟨z_blind, va_recv hN.2.1 hH.1 hcl hw, fun U hU hW => z_pre (as := .ref r :: as) hN hH U hU hW⟩ rfl (by rw [List.length_map]; exact hn) hl.2.1 ?_ (lv_room (by rw [z_catsum]; exact hst)) hd ⟨hc.1, hc.2⟩
  · intro w hw
    unfold wsV z_wd at hw
    simp only [List.cons_append, List.nil_append, List.mem_cons] at hw
    rcases hw with rfl | rfl | rfl | rfl | rfl | hw
    · exact z_inT hk rfl
    · exact z_inT h1 rfl
    · exact z_inT h2 rfl
    · exact z_inT h3 rfl
    · exact z_inT h4 rfl
    · exact hw
  · exact hC.2.2.2.2.2.1
  · have := hC.2.2.2.2.2.2
    show 8 + (j.2.2.1 + 11) + 40 * d ≤ R.locals
    omega
  · simp [z_cv]
theorem x_callS {i j : zM} {d pc idx n : Nat} {as ls st : List Value} {σ : zS} {Q : Option Value → zS → Prop} (hj : z_LmS j n) (hk : Cond.methodLink i.1.cls idx j.1 ∈ lw_tbl) (hn : as.length = n) (hst : (st.map fun v => v.category).sum ≤ 8) (hd : decode i.2.1 pc = .ok (.invokestatic idx, 3))
    (h : z_Ex j d as σ (fun rv σ' => z_At i (d + 1) (pc + 3) ls (rv.toList ++ st) σ' Q)) : z_At i (d + 1) pc ls (as.reverse ++ st) σ Q := by
  intro p l e R s m args below meth c cells slots QS ad dC dI cA A hC hN hc hR H locs lsA hH hl
  refine z_after (st := st) (a := (as.map (z_cv ad)).toArray) hC hN hc hR hH hl ?_
  have hM := h _ (fun _ _ hh => hh) l ad dC dI cA hN.1
  obtain ⟨h1, h3, h4, h5, h6⟩ := hj
  refine va_runS (As := as.map (z_cv ad)) (rest := st.map (z_cv ad)) ⟨hC.1, hC.2.1, hC.2.2.1, hC.2.2.2.1, hC.2.2.2.2.1⟩ hM (va_cwS n hC.2.2.2.2.1 (z_goodIn (ws := va_wsS i.1.cls idx j.1 (z_wd j)) ?_) rfl rfl rfl h5 ⟨?_, ?_⟩) ⟨z_blind, fun U hU hW => z_pre hN hH U hU hW⟩ rfl (by rw [List.length_map]; exact hn) hl.2.1 ?_ (lv_room (by rw [z_catsum]; exact hst)) hd ⟨hc.1, hc.2⟩
  · intro w hw
    unfold va_wsS z_wd at hw
    simp only [List.cons_append, List.nil_append, List.mem_cons] at hw
    rcases hw with rfl | rfl | rfl | rfl | hw
    · exact z_inT hk rfl
    · exact z_inT h1 rfl
    · exact z_inT h3 rfl
    · exact z_inT h4 rfl
    · exact hw
  · exact hC.2.2.2.2.2.1
  · have := hC.2.2.2.2.2.2
    show 8 + (j.2.2.1 + 11) + 40 * d ≤ R.locals
    omega
  · simp
/-! a method's beginning -/
def z_sl : List Value → List Value
  | [] => []
  | v :: t => if v.category = 2 then v :: .null :: z_sl t else v :: z_sl t
def z_ent (as : List Value) (nL : Nat) : List Value := z_sl as ++ List.replicate (nL - (z_sl as).length) .null
theorem z_sl_len (ad : Nat → Nat) (as : List Value) : (lg_sl (as.map (z_cv ad))).length = (z_sl as).length := by
  induction as with
  | nil => rfl
  | cons v t ih =>
    unfold lg_sl at ih ⊢
    rw [List.map_cons, List.flatMap_cons, List.length_append, ih, z_cv_cat]
    have e : z_sl (v :: t) = if v.category = 2 then v :: .null :: z_sl t else v :: z_sl t := rfl
    rw [e]
    split <;> simp <;> omega
theorem z_sl_at (ad : Nat → Nat) (as : List Value) : ∀ (b k : Nat) (v : Value), (z_sl as)[k]? = some v → v ≠ .null → (b + k, z_cv ad v) ∈ lv_args b (as.map (z_cv ad)) := by
  induction as with
  | nil => intro b k v h _; simp [z_sl] at h
  | cons u t ih =>
    intro b k v h hn
    unfold z_sl at h
    rw [List.map_cons]
    unfold lv_args
    rw [z_cv_cat]
    split at h
    next h2 =>
      rw [if_pos h2]
      match k, h with
      | 0, h => cases h; exact List.mem_cons_self
      | 1, h => cases h; exact absurd rfl hn
      | k + 2, h =>
        have h' : (z_sl t)[k]? = some v := by simpa using h
        have := ih (b + 2) k v h' hn
        rw [show b + (k + 2) = b + 2 + k by omega]
        exact List.mem_cons_of_mem _ this
    next h2 =>
      rw [if_neg h2]
      match k, h with
      | 0, h => cases h; exact List.mem_cons_self
      | k + 1, h =>
        have h' : (z_sl t)[k]? = some v := by simpa using h
        have := ih (b + 1) k v h' hn
        rw [show b + (k + 1) = b + 1 + k by omega]
        exact List.mem_cons_of_mem _ this
theorem x_enter {j : zM} {d : Nat} {as : List Value} {σ : zS} {Q : Option Value → zS → Prop} (hy : plainName j.1.cls = true) (hlen : (z_sl as).length ≤ j.2.2.1) (h : z_At j d 0 (z_ent as j.2.2.1) [] σ Q) : z_Ex j d as σ Q := by
  intro Q' hq l ad dC dI cA hi
  refine Met.ofW (cc := j.2.1) (maxL := j.2.2.1) (ret := j.2.2.2) hy rfl ?_
  intro p e s m args below meth c s₁ B hml hv
  obtain ⟨rfl, ⟨hP, hK, hX⟩, hNw⟩ := hv
  have hts := atoms_spec (ws := z_wd j) B.pre
  have hown : s.vm.findClass j.1.cls = some m.cls := findClass_of_methodNamed B.named
  have hlocks := B.notSynchronized
  rw [lg_entry_eq]
  have hlen' : (lg_sl (as.map (z_cv ad))).length ≤ j.2.2.1 := by rw [z_sl_len]; exact hlen
  have hl := lv_entry (as.map (z_cv ad)) (n := j.2.2.1) hlen'
  have h63 : ad 63 < s.heap.size := by
    obtain ⟨scr, h1, -⟩ := hX
    exact (Array.getElem?_eq_some_iff.mp h1).1
  have hN : z_N ad dC dI cA (z_A ad) s := ⟨hi, hK, fun r hr => ⟨r, hr, rfl⟩, fun ⟨r, h1, h2⟩ => by have := hi 63 r (by omega) (by omega) h2; omega, h63, hNw⟩
  refine h.mono hq p l e (z_rm d) s m _ below meth c 0 0 _ ad dC dI cA (z_A ad) ⟨B.exec, B.bytes, hml, hown, fun w hw => hts w (List.mem_cons_of_mem _ hw), Nat.le_refl _, Nat.le_refl _⟩ hN ⟨Nat.le_refl _, Nat.le_refl _⟩ ?_ s.heap [] _ ⟨hP, hX, va_S.rf⟩ ?_
  · intro rv τ H locs lsA pc hQ hH hrt
    have hfin : ∀ t : State, t.heap = H → s.WarmedH t.vm → z_Qc ad dC dI cA Q' (as.map (z_cv ad)).toArray s (.returned (rv.map (z_cv ad))) t := by
      intro t ht hW
      refine ⟨⟨rv, τ, rfl, hQ, by rw [ht]; exact hH.1, va_K.moved hW.alike hK, ?_⟩, hH.2.2.F ht⟩
      refine va_X.moved hW.alike (va_X.kept hH.2.1 ?_)
      rw [ht]
      exact hH.2.2.2.1 (ad 63) h63 hN.2.2.2.1
    match rv, hrt, hfin with
    | none, hrt, hfin => exact W.vret B.exec B.bytes (by rw [B.returns]; exact hrt.1) hfin hH.2.2.2.2 hrt.2 hlocks
    | some (.int v), hrt, hfin =>
      obtain ⟨⟨ty, h1, h2⟩, h3⟩ := hrt
      exact W.zret (v := v) B.exec B.bytes (by rw [B.returns]; exact h1) h2 hfin hH.2.2.2.2 h3 hlocks
    | some (.long v), hrt, hfin => exact W.lret (v := v) B.exec B.bytes (by rw [B.returns]; exact hrt.1) hfin hH.2.2.2.2 hrt.2 hlocks
  · refine ⟨?_, hl.1, hl.2.1, fun k v hk hn => ?_⟩
    · unfold z_ent
      rw [List.length_append, List.length_replicate]
      omega
    · unfold z_ent at hk
      by_cases hkl : k < (z_sl as).length
      · rw [List.getElem?_append_left hkl] at hk
        have := z_sl_at ad as 0 k v hk hn
        rw [Nat.zero_add] at this
        exact hl.2.2 _ this
      · rw [List.getElem?_append_right (by omega), List.getElem?_replicate] at hk
        split at hk
        · cases hk; exact absurd rfl hn
        · cases hk
