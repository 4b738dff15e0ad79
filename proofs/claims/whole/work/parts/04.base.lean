/-! ===== A pure calculus over the machine: a world of 63 cells with fixed shapes, its numbers a pair of functions; z_At: 'from this frame the method comes to its end with Q'; z_Ex: a method's contract ===== -/
abbrev zS : Type := (Nat → Nat → Int32) × (Nat → Nat → Int64)
def z_cv (ad : Nat → Nat) : Value → Value
  | .ref r => .ref (ad r)
  | v => v
def z_tab : List (Nat × Nat × List (Nat × Nat)) := [
  (0, 5, [(2, 1), (2, 7), (2, 13), (2, 22), (2, 26), (2, 31), (2, 42), (0, 0), (0, 0), (0, 0), (0, 0), (0, 0), (0, 0), (0, 0)]),
  (0, 0, [(0, 0), (0, 0), (0, 0), (2, 2), (2, 3), (2, 4), (0, 0), (2, 5), (2, 6)]), (1, 3, []), (1, 3, []), (2, 3, []), (1, 4, []), (1, 4, []),
  (0, 0, [(0, 0), (0, 0), (0, 0), (2, 8), (2, 9), (2, 10), (0, 0), (2, 11), (2, 12)]), (1, 3, []), (1, 3, []), (2, 3, []), (1, 4, []), (1, 4, []),
  (3, 4, []),
  (0, 3, [(0, 0), (0, 0), (2, 18)]), (0, 3, [(0, 0), (0, 0), (2, 19)]), (0, 3, [(0, 0), (0, 0), (2, 20)]), (0, 3, [(0, 0), (0, 0), (2, 21)]),
  (1, 60, []), (1, 60, []), (1, 60, []), (1, 60, []),
  (0, 1, [(0, 0), (2, 23), (2, 24), (2, 25)]), (1, 8, []), (1, 8, []), (1, 8, []),
  (0, 4, [(0, 0), (2, 27), (2, 28), (2, 29), (2, 30), (0, 0), (0, 0), (1, 0), (1, 0)]), (1, 18, []), (1, 18, []), (1, 19, []), (1, 4, []),
  (0, 2, [(0, 0), (0, 0), (0, 0), (0, 0), (2, 32), (2, 33), (2, 34), (2, 35), (2, 36), (2, 37), (0, 0), (0, 0), (2, 38), (2, 39), (2, 40), (2, 41)]),
  (2, 16, []), (2, 16, []), (1, 16, []), (1, 96, []), (1, 1024, []), (1, 1024, []), (1, 32, []), (1, 1024, []), (1, 1024, []), (1, 1024, []),
  (1, 1024, []),
  (0, 6, [(0, 0), (0, 0), (2, 44), (2, 45), (2, 46), (0, 0), (0, 0), (0, 0), (0, 0), (2, 47), (2, 48), (2, 49), (2, 50), (2, 51), (0, 0), (0, 0), (0, 0), (0, 0), (0, 0), (2, 52), (2, 53), (0, 0), (2, 54), (2, 55), (2, 56), (2, 57), (0, 0), (0, 0), (1, 0), (1, 0), (2, 58), (2, 59), (0, 0), (0, 0), (0, 0), (2, 60), (2, 61), (2, 62)]),
  (1, 4, []), (1, 4, []), (1, 240, []), (1, 3, []), (1, 3, []), (2, 3, []), (1, 4, []), (1, 4, []), (1, 6, []), (1, 8, []), (1, 18, []), (1, 18, []), (1, 18, []), (1, 18, []), (1, 1024, []), (1, 1024, []), (1, 8, []), (1, 8, []), (1, 8, [])]
def z_shp (r : Nat) : Nat × Nat × List (Nat × Nat) := z_tab.getD r (9, 0, [])
def z_fv (ad : Nat → Nat) (σ : zS) (r j : Nat) (k : Nat × Nat) : Value := match k.1 with
  | 0 => .int (σ.1 r j)
  | 1 => .long (σ.2 r j)
  | _ => .ref (ad k.2)
def z_av (σ : zS) (r j : Nat) (k : Nat × Nat) : Value := match k.1 with
  | 0 => .int (σ.1 r j)
  | 1 => .long (σ.2 r j)
  | _ => .ref k.2
theorem z_cv_av (ad : Nat → Nat) (σ : zS) (r j : Nat) (k : Nat × Nat) : z_cv ad (z_av σ r j k) = z_fv ad σ r j k := by
  unfold z_av z_fv
  split <;> rfl
def z_fs (ad : Nat → Nat) (σ : zS) (r : Nat) (ks : List (Nat × Nat)) : List Value := ks.mapIdx (fun j k => z_fv ad σ r j k)
def z_cell (ad : Nat → Nat) (cA : Nat → ClassId) (σ : zS) (r : Nat) : va_E := match z_shp r with
  | (0, ci, ks) => .inr (ci, z_fs ad σ r ks)
  | (1, n, _) => .inl (cA 0, n, .inl (σ.1 r))
  | (2, n, _) => .inl (cA 1, n, .inl (σ.1 r))
  | (_, n, _) => .inl (cA 2, n, .inr (.inr (.inr (.inr (fun j => some (ad (14 + j)))))))
def z_ws (ad : Nat → Nat) (cA : Nat → ClassId) (σ : zS) : va_W := (List.range 63).map (fun r => (ad r, z_cell ad cA σ r))
def z_tys (cA : Nat → ClassId) : List (ClassId × FieldType) := [(cA 0, .int), (cA 1, .boolean), (cA 2, .object RX3)]
def z_len (σ : zS) : Nat := (σ.1 64 0).toNatClampNeg
def z_inj (ad : Nat → Nat) : Prop := ∀ a b, a < 64 → b < 64 → ad a = ad b → a = b
def z_A (ad : Nat → Nat) : Nat → Prop := fun q => ∃ r, r < 63 ∧ q = ad r
def z_W (ad : Nat → Nat) (dC : Nat → ClassId) (dI : Nat → Nat → Nat) (cA : Nat → ClassId) (σ : zS) (U : State) : Prop := va_P (dC, dI) vwCl (z_ws ad cA σ) U.heap ∧ va_K (dC, dI) vwCl (z_tys cA) U ∧ va_X (ad 63) (z_len σ) (σ.1 63) U U.heap
def z_T : List Cond := lw_tbl.filter goodWord
theorem z_inT {w : Cond} (h : w ∈ lw_tbl) (hg : goodWord w = true) : w ∈ z_T := List.mem_filter.mpr ⟨h, hg⟩
def z_isN : Cond → Bool
  | .fieldLinkNest .. => true
  | _ => false
def z_Nw (U : State) : Prop := ∀ w ∈ lw_tbl.filter z_isN, va_Nw w U
theorem z_Nw.warm {s U : State} (hW : s.WarmedH U.vm) (h : z_Nw s) : z_Nw U := fun w hw => by
  have h1 := h w hw
  have h2 := (List.mem_filter.mp hw).2
  cases w <;> first | exact va_Nw.warmF hW h1 | (cases h2)
theorem z_Nw.same {s U : State} (hv : s.vm = U.vm) (h : z_Nw s) : z_Nw U := fun w hw => by
  have h1 := h w hw
  have h2 := (List.mem_filter.mp hw).2
  cases w <;> first | exact va_Nw.same rfl hv h1 | (cases h2)
def z_wd (i : zM) : List Cond := Cond.code i.1 i.2.1 i.2.2.1 i.2.2.2 :: z_T
def z_rm (d : Nat) : Room := { frames := d, cells := 0, slots := 0, locals := 40 * d }
def z_Qc (ad : Nat → Nat) (dC : Nat → ClassId) (dI : Nat → Nat → Nat) (cA : Nat → ClassId) (Q : Option Value → zS → Prop) : Array Value → State → Outcome → State → Prop := fun _ st oc t => (∃ (rv : Option Value) (σ : zS), oc = .returned (rv.map (z_cv ad)) ∧ Q rv σ ∧ z_W ad dC dI cA σ t) ∧ va_F (z_A ad) st t
def z_Ex (j : zM) (d : Nat) (as : List Value) (σ : zS) (Q : Option Value → zS → Prop) : Prop :=
  ∀ (Q' : Option Value → zS → Prop), (∀ rv σ', Q rv σ' → Q' rv σ') → ∀ (l : Launch) (ad : Nat → Nat) (dC : Nat → ClassId) (dI : Nat → Nat → Nat) (cA : Nat → ClassId), z_inj ad →
    Met l j.1 (z_wd j) (z_rm d) (va_Pc (as.map (z_cv ad)) (fun U => z_W ad dC dI cA σ U ∧ z_Nw U)) (z_Qc ad dC dI cA Q') 0 0 (z_A ad)
def z_C (i : zM) (d : Nat) (p : Program) (R : Room) (s : State) (m : MethodId) (args : Array Value) (c : Code) : Prop :=
  p.tables.exec = Jvm.exec ∧ c.code = i.2.1 ∧ c.maxLocals = i.2.2.1 ∧ s.vm.findClass i.1.cls = some m.cls ∧ (∀ w ∈ z_T, w.before args s = true) ∧ d ≤ R.frames ∧ 40 * d ≤ R.locals
def z_N (ad : Nat → Nat) (dC : Nat → ClassId) (dI : Nat → Nat → Nat) (cA : Nat → ClassId) (A : Nat → Prop) (s : State) : Prop :=
  z_inj ad ∧ va_K (dC, dI) vwCl (z_tys cA) s ∧ (∀ r, r < 63 → A (ad r)) ∧ ¬ A (ad 63) ∧ ad 63 < s.heap.size ∧ z_Nw s
def z_H (ad : Nat → Nat) (dC : Nat → ClassId) (dI : Nat → Nat → Nat) (cA : Nat → ClassId) (A : Nat → Prop) (s : State) (σ : zS) (H : Heap) (locs : List Loc) : Prop :=
  va_P (dC, dI) vwCl (z_ws ad cA σ) H ∧ va_X (ad 63) (z_len σ) (σ.1 63) s s.heap ∧ va_S A s.heap H locs
def z_rt (i : zM) (rv : Option Value) (pc : Nat) : Prop := match rv with
  | none => i.2.2.2 = none ∧ decode i.2.1 pc = .ok (.return_, 1)
  | some (.int v) => (∃ ty, i.2.2.2 = some ty ∧ narrow ty (.int v) = .int v) ∧ decode i.2.1 pc = .ok (.ireturn, 1)
  | some (.long _) => i.2.2.2 = some .long ∧ decode i.2.1 pc = .ok (.lreturn, 1)
  | _ => False
def z_loc (ad : Nat → Nat) (nL : Nat) (ls : List Value) (lsA : Array Slot) : Prop := ls.length = nL ∧ lsA.size = nL ∧ lv_wf lsA ∧ ∀ (k : Nat) (v : Value), ls[k]? = some v → v ≠ .null → lsA[k]? = some (.val (z_cv ad v))
def z_R (i : zM) (Q : Option Value → zS → Prop) (ad : Nat → Nat) (dC : Nat → ClassId) (dI : Nat → Nat → Nat) (cA : Nat → ClassId) (A : Nat → Prop) (p : Program) (l : Launch) (e : Env) (R : Room) (s : State) (m : MethodId) (args : Array Value) (below : List Frame) (meth : Method) (c : Code) (cells slots : Nat) (QS : State → Prop) : Prop :=
  ∀ (rv : Option Value) (σ : zS) (H : Heap) (locs : List Loc) (lsA : Array Slot) (pc : Nat), Q rv σ → z_H ad dC dI cA A s σ H locs → z_rt i rv pc → W p l e R s m args below meth c H locs cells slots QS (F0 m pc lsA (rv.toList.map (z_cv ad)))
def z_At (i : zM) (d pc : Nat) (ls st : List Value) (σ : zS) (Q : Option Value → zS → Prop) : Prop :=
  ∀ (p : Program) (l : Launch) (e : Env) (R : Room) (s : State) (m : MethodId) (args : Array Value) (below : List Frame) (meth : Method) (c : Code) (cells slots : Nat) (QS : State → Prop) (ad : Nat → Nat) (dC : Nat → ClassId) (dI : Nat → Nat → Nat) (cA : Nat → ClassId) (A : Nat → Prop),
    z_C i d p R s m args c → z_N ad dC dI cA A s → (cells ≤ R.cells ∧ slots ≤ R.slots) → z_R i Q ad dC dI cA A p l e R s m args below meth c cells slots QS →
    ∀ (H : Heap) (locs : List Loc) (lsA : Array Slot), z_H ad dC dI cA A s σ H locs → z_loc ad i.2.2.1 ls lsA → W p l e R s m args below meth c H locs cells slots QS (F0 m pc lsA (st.map (z_cv ad)))
theorem z_At.mono {i : zM} {d pc : Nat} {ls st : List Value} {σ : zS} {Q Q' : Option Value → zS → Prop} (h : z_At i d pc ls st σ Q) (hq : ∀ rv σ', Q rv σ' → Q' rv σ') : z_At i d pc ls st σ Q' := by
  intro p l e R s m args below meth c cells slots QS ad dC dI cA A hC hN hc hR
  exact h p l e R s m args below meth c cells slots QS ad dC dI cA A hC hN hc (fun rv σ' H locs lsA pc' hQ hH hrt => hR rv σ' H locs lsA pc' (hq _ _ hQ) hH hrt)
theorem z_Ex.mono {j : zM} {d : Nat} {as : List Value} {σ : zS} {Q Q' : Option Value → zS → Prop} (h : z_Ex j d as σ Q) (hq : ∀ rv σ', Q rv σ' → Q' rv σ') : z_Ex j d as σ Q' :=
  fun Q'' hq' => h Q'' (fun rv σ' hh => hq' _ _ (hq _ _ hh))
/-! the world's list -/
theorem z_ws_at (ad : Nat → Nat) (cA : Nat → ClassId) (σ : zS) {r : Nat} (h : r < 63) : (z_ws ad cA σ)[r]? = some (ad r, z_cell ad cA σ r) := by
  unfold z_ws
  rw [List.getElem?_map, List.getElem?_range h]
  rfl
theorem z_shp_lt {r : Nat} {t n : Nat} {ks : List (Nat × Nat)} (h : z_shp r = (t, n, ks)) (ht : t < 9) : r < 63 := by
  by_cases hr : r < 63
  · exact hr
  · have h1 : z_tab.length = 63 := by decide +kernel
    have h2 : z_shp r = (9, 0, []) := by
      unfold z_shp
      rw [List.getD_eq_getElem?_getD, List.getElem?_eq_none (by omega)]
      rfl
    rw [h2] at h
    have := congrArg Prod.fst h
    simp at this
    omega
theorem z_cell_o {ad : Nat → Nat} {cA : Nat → ClassId} {σ : zS} {r ci : Nat} {ks : List (Nat × Nat)} (h : z_shp r = (0, ci, ks)) : z_cell ad cA σ r = .inr (ci, z_fs ad σ r ks) := by
  unfold z_cell
  rw [h]
  rfl
theorem z_cell_i {ad : Nat → Nat} {cA : Nat → ClassId} {σ : zS} {r n : Nat} {ks : List (Nat × Nat)} (h : z_shp r = (1, n, ks)) : z_cell ad cA σ r = .inl (cA 0, n, .inl (σ.1 r)) := by
  unfold z_cell
  rw [h]
  rfl
theorem z_cell_z {ad : Nat → Nat} {cA : Nat → ClassId} {σ : zS} {r n : Nat} {ks : List (Nat × Nat)} (h : z_shp r = (2, n, ks)) : z_cell ad cA σ r = .inl (cA 1, n, .inl (σ.1 r)) := by
  unfold z_cell
  rw [h]
  rfl
theorem z_cell_q {ad : Nat → Nat} {cA : Nat → ClassId} {σ : zS} {r n : Nat} {ks : List (Nat × Nat)} (h : z_shp r = (3, n, ks)) : z_cell ad cA σ r = .inl (cA 2, n, .inr (.inr (.inr (.inr (fun j => some (ad (14 + j))))))) := by
  unfold z_cell
  rw [h]
  rfl
theorem z_fs_at {ad : Nat → Nat} {σ : zS} {r j : Nat} {ks : List (Nat × Nat)} {k : Nat × Nat} (h : ks[j]? = some k) : (z_fs ad σ r ks)[j]? = some (z_fv ad σ r j k) := by
  unfold z_fs
  rw [List.getElem?_mapIdx, h]
  rfl
/-- a row of numbers, changed -/
def z_up (M : Nat → Nat → Int32) (r : Nat) (f : Nat → Int32) : Nat → Nat → Int32 := fun q => if q = r then f else M q
def z_upL (M : Nat → Nat → Int64) (r : Nat) (f : Nat → Int64) : Nat → Nat → Int64 := fun q => if q = r then f else M q
def z_st (σ : zS) (r j : Nat) (v : Int32) : zS := (z_up σ.1 r (upd (σ.1 r) j v), σ.2)
def z_stL (σ : zS) (r j : Nat) (v : Int64) : zS := (σ.1, z_upL σ.2 r (vp_updL (σ.2 r) j v))
theorem z_up_same (M : Nat → Nat → Int32) (r : Nat) (f : Nat → Int32) : z_up M r f r = f := by simp [z_up]
theorem z_up_ne (M : Nat → Nat → Int32) {r q : Nat} (f : Nat → Int32) (h : q ≠ r) : z_up M r f q = M q := by simp [z_up, h]
theorem z_upL_same (M : Nat → Nat → Int64) (r : Nat) (f : Nat → Int64) : z_upL M r f r = f := by simp [z_upL]
theorem z_upL_ne (M : Nat → Nat → Int64) {r q : Nat} (f : Nat → Int64) (h : q ≠ r) : z_upL M r f q = M q := by simp [z_upL, h]
theorem z_cell_same {ad : Nat → Nat} {cA : Nat → ClassId} {σ τ : zS} {r : Nat} (h1 : τ.1 r = σ.1 r) (h2 : τ.2 r = σ.2 r) : z_cell ad cA τ r = z_cell ad cA σ r := by
  unfold z_cell z_fs
  have hf : ∀ j k, z_fv ad τ r j k = z_fv ad σ r j k := fun j k => by unfold z_fv; rw [h1, h2]
  simp only [h1, hf]
theorem z_ws_set {ad : Nat → Nat} {cA : Nat → ClassId} {σ τ : zS} {r : Nat} (hr : r < 63) (h : ∀ q, q ≠ r → τ.1 q = σ.1 q ∧ τ.2 q = σ.2 q) : (z_ws ad cA σ).set r (ad r, z_cell ad cA τ r) = z_ws ad cA τ := by
  apply List.ext_getElem?
  intro k
  by_cases hk : k = r
  · subst hk
    rw [List.getElem?_set_self (by unfold z_ws; simpa using hr), z_ws_at ad cA τ hr]
  · rw [List.getElem?_set_ne (Ne.symm hk)]
    by_cases hk2 : k < 63
    · rw [z_ws_at ad cA τ hk2, z_ws_at ad cA σ hk2, z_cell_same (h k hk).1 (h k hk).2]
    · rw [List.getElem?_eq_none (by unfold z_ws; simpa using hk2), List.getElem?_eq_none (by unfold z_ws; simpa using hk2)]
theorem z_ws_D {ad : Nat → Nat} {cA : Nat → ClassId} {σ : zS} {A : Nat → Prop} (hi : z_inj ad) (hA : ∀ r, r < 63 → A (ad r)) : va_D A (z_ws ad cA σ) := by
  have key : ∀ (k : Nat) (q : Nat × va_E), (z_ws ad cA σ)[k]? = some q → k < 63 ∧ q.1 = ad k := by
    intro k q hq
    have hk : k < 63 := by
      have := (List.getElem?_eq_some_iff.mp hq).1
      unfold z_ws at this
      simpa using this
    rw [z_ws_at ad cA σ hk] at hq
    exact ⟨hk, by rw [← Option.some.inj hq]⟩
  refine ⟨fun i j p q hp hq hpq => ?_, fun k q hq => ?_⟩
  · obtain ⟨h1, h2⟩ := key i p hp
    obtain ⟨h3, h4⟩ := key j q hq
    exact hi i j (by omega) (by omega) (by rw [← h2, ← h4, hpq])
  · obtain ⟨h1, h2⟩ := key k q hq
    rw [h2]
    exact hA k h1
theorem z_H.mk {ad : Nat → Nat} {dC : Nat → ClassId} {dI : Nat → Nat → Nat} {cA : Nat → ClassId} {A : Nat → Prop} {s : State} {σ τ : zS} {H H1 : Heap} {locs locs1 : List Loc} (h : z_H ad dC dI cA A s σ H locs) (hP : va_P (dC, dI) vwCl (z_ws ad cA τ) H1) (hS : va_S A s.heap H1 locs1) (h63 : τ.1 63 = σ.1 63) (h64 : τ.1 64 = σ.1 64) : z_H ad dC dI cA A s τ H1 locs1 := by
  refine ⟨hP, ?_, hS⟩
  have := h.2.1
  unfold z_len at this ⊢
  rw [h63, h64]
  exact this
/-! words -/
theorem z_goodIn {ws : List Cond} (h : ∀ w ∈ ws, w ∈ z_T) : GoodIn z_T ws := fun w hw => ⟨h w hw, good_of_word (List.mem_filter.mp (h w hw)).2⟩
theorem z_uws {C : String} {T : u_T} {N : Nat} (h : ∀ w ∈ u_ws C T N, w ∈ lw_tbl) : ∀ w ∈ u_ws C T N, w ∈ z_T := fun w hw => by
  refine z_inT (h w hw) ?_
  unfold u_ws at hw
  obtain ⟨k, -, rfl⟩ := List.mem_map.mp hw
  unfold u_lay
  split <;> rfl
theorem z_bad : (lw_tbl.filter (fun w => match w with
  | .native _ | .arrayClass _ | .constant .. | .constantLong .. | .initialized _ | .code .. | .static _ | .instanceMethod _ | .methodLink .. | .fieldLink .. | .classLink .. | .instantiable .. => true
  | _ => false)).all goodWord = true := by decide +kernel
def z_LmV (j : zM) (n : Nat) : Prop := Cond.instanceMethod j.1 ∈ lw_tbl ∧ Cond.selects j.1.cls j.1 j.1 ∈ lw_tbl ∧ Cond.initialized j.1.cls ∈ lw_tbl ∧ Cond.code j.1 j.2.1 j.2.2.1 j.2.2.2 ∈ lw_tbl ∧ (j.1.cls ≠ "java/lang/invoke/MethodHandle" ∧ j.1.cls ≠ "java/lang/invoke/VarHandle" ∧ (parseMethodDescriptor j.1.desc).map (fun d => d.parameters.length) = some n) ∧ j.2.2.1 ≤ 21
def z_LmS (j : zM) (n : Nat) : Prop := Cond.static j.1 ∈ lw_tbl ∧ Cond.initialized j.1.cls ∈ lw_tbl ∧ Cond.code j.1 j.2.1 j.2.2.1 j.2.2.2 ∈ lw_tbl ∧ (j.1.cls ≠ "java/lang/invoke/MethodHandle" ∧ j.1.cls ≠ "java/lang/invoke/VarHandle" ∧ (parseMethodDescriptor j.1.desc).map (fun d => d.parameters.length) = some n) ∧ j.2.2.1 ≤ 21
def z_Lf (own : String) (idx ci j : Nat) : Prop := ∃ (C : String) (T : u_T) (N : Nat), vwCl[ci]? = some (C, T, N) ∧ (∀ w ∈ u_ws C T N, w ∈ lw_tbl) ∧ j < N ∧ (T j).1 = C ∧ (Cond.fieldLink own idx C (T j).2.1 (T j).2.2.1 ∈ lw_tbl ∨ ∃ host, Cond.fieldLinkNest own idx C (T j).2.1 (T j).2.2.1 host ∈ lw_tbl)
def z_Lp (own : String) (idx ci j : Nat) (ty : FieldType) : Prop := ∃ (C : String) (T : u_T) (N : Nat) (ty0 : Nat → FieldType), vwCl[ci]? = some (C, T, N) ∧ (∀ w ∈ u_ws C T N, w ∈ lw_tbl) ∧ j < N ∧ (T j).1 = C ∧ (Cond.fieldLink own idx C (T j).2.1 (T j).2.2.1 ∈ lw_tbl ∨ ∃ host, Cond.fieldLinkNest own idx C (T j).2.1 (T j).2.2.1 host ∈ lw_tbl) ∧ (∀ k, k < N → parseFieldDescriptor (T k).2.2.1 = some (ty0 k)) ∧ (∀ a, a < N → ∀ b, b < N → a ≠ b → (T a).2.1 ≠ (T b).2.1) ∧ (T j).2.2.2 = false ∧ parseFieldDescriptor (T j).2.2.1 = some ty
