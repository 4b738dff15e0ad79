/-! constructors: a world that grows; (classes, slots, array classes) stay -/
def y_isM : Cond → Bool
  | .methodLinkNest .. => true
  | _ => false
def y_M (U : State) : Prop := (∀ w ∈ lw_tbl.filter y_isM, va_Nw w U) ∧ va_AO RX3 U
theorem y_M.warm {s U : State} (hW : s.WarmedH U.vm) (h : y_M s) : y_M U := ⟨fun w hw => by
  have h1 := h.1 w hw
  have h2 := (List.mem_filter.mp hw).2
  cases w <;> first | exact va_Nw.warmM hW h1 | (cases h2), va_AO.moved hW.alike h.2⟩
theorem y_M.same {s U : State} (hv : s.vm = U.vm) (h : y_M s) : y_M U := ⟨fun w hw => by
  have h1 := h.1 w hw
  have h2 := (List.mem_filter.mp hw).2
  cases w <;> first | exact va_Nw.same rfl hv h1 | (cases h2), va_AO.moved (by rw [hv]; exact Vm.Alike.refl _) h.2⟩
def y_C (i : zM) (d : Nat) (p : Program) (R : Room) (s : State) (m : MethodId) (args : Array Value) (c : Code) (meth : Method) : Prop := z_C i d p R s m args c ∧ meth.name = "<init>" ∧ y_M s
def y_H (dC : Nat → ClassId) (dI : Nat → Nat → Nat) (A : Nat → Prop) (s : State) (ws : va_W) (H : Heap) (locs : List Loc) : Prop := va_P (dC, dI) vwCl ws H ∧ va_D A ws ∧ va_S A s.heap H locs
def y_At (dC : Nat → ClassId) (dI : Nat → Nat → Nat) (cA : Nat → ClassId) (i : zM) (d a b pc : Nat) (ls st : List Value) (ws : va_W) (Qp : va_W → Prop) : Prop :=
  ∀ (p : Program) (l : Launch) (e : Env) (R : Room) (s : State) (m : MethodId) (args : Array Value) (below : List Frame) (meth : Method) (c : Code) (cells slots : Nat) (QS : State → Prop) (A : Nat → Prop),
    y_C i d p R s m args c meth → va_K (dC, dI) vwCl (z_tys cA) s → (∀ q, s.heap.size ≤ q → A q) → (cells + a ≤ R.cells ∧ slots + b ≤ R.slots) →
    (∀ (ws' : va_W) (H : Heap) (locs : List Loc) (lsA : Array Slot) (pc' k n : Nat), Qp ws' → y_H dC dI A s ws' H locs → decode i.2.1 pc' = .ok (.return_, 1) → k ≤ cells + a → n ≤ slots + b → W p l e R s m args below meth c H locs k n QS (F0 m pc' lsA [])) →
    ∀ (H : Heap) (locs : List Loc) (lsA : Array Slot), y_H dC dI A s ws H locs → z_loc (fun r => r) i.2.2.1 ls lsA → W p l e R s m args below meth c H locs cells slots QS (F0 m pc lsA st)
section YR
variable {dC : Nat → ClassId} {dI : Nat → Nat → Nat} {cA : Nat → ClassId} {i : zM} {d a b pc pc2 : Nat} {ls st : List Value} {ws : va_W} {Qp : va_W → Prop}
theorem y_aload0 {x : Nat} {t : List Value} (hd : decode i.2.1 pc = .ok (.aload_n 0, 1)) (hp : pc + 1 = pc2) (h : y_At dC dI cA i d a b pc2 (.ref x :: t) (.ref x :: st) ws Qp) : y_At dC dI cA i d a b pc (.ref x :: t) st ws Qp := by
  subst hp
  intro p l e R s m args below meth c cells slots QS A hC hK hA hc hR H locs lsA hH hl
  exact lv_aload_n hC.1.1 hC.1.2.1 hd rfl (hl.2.2.2 0 _ rfl (fun e => by cases e)) (h p l e R s m args below meth c cells slots QS A hC hK hA hc hR H locs lsA hH hl)
theorem y_iload1 {x : Int32} {a0 : Value} {t : List Value} (hd : decode i.2.1 pc = .ok (.iload_n 1, 1)) (hp : pc + 1 = pc2) (h : y_At dC dI cA i d a b pc2 (a0 :: .int x :: t) (.int x :: st) ws Qp) : y_At dC dI cA i d a b pc (a0 :: .int x :: t) st ws Qp := by
  subst hp
  intro p l e R s m args below meth c cells slots QS A hC hK hA hc hR H locs lsA hH hl
  exact lv_iload_n hC.1.1 hC.1.2.1 hd rfl (hl.2.2.2 1 _ rfl (fun e => by cases e)) (h p l e R s m args below meth c cells slots QS A hC hK hA hc hR H locs lsA hH hl)
theorem y_istore1 {x : Int32} {a0 w : Value} {t : List Value} (hd : decode i.2.1 pc = .ok (.istore_n 1, 1)) (hp : pc + 1 = pc2) (hk : a0.category = 1) (h : y_At dC dI cA i d a b pc2 (a0 :: .int x :: t) st ws Qp) : y_At dC dI cA i d a b pc (a0 :: w :: t) (.int x :: st) ws Qp := by
  subst hp
  intro p l e R s m args below meth c cells slots QS A hC hK hA hc hR H locs lsA hH hl
  have hi : 1 < (a0 :: w :: t).length := by simp only [List.length_cons]; omega
  exact lv_istore_n hC.1.1 hC.1.2.1 hd rfl hl.has (by rw [← hl.1]; exact hi) rfl (fun lsB hB => h p l e R s m args below meth c cells slots QS A hC hK hA hc hR H locs lsB hH (hl.set1 (x := .int x) hi (fun u hu _ => by cases hu; rw [hk]; decide) hB))
theorem y_iinc1 {x v : Int32} {n : Int} {a0 : Value} {t : List Value} (hd : decode i.2.1 pc = .ok (.iinc 1 n, 3)) (hp : pc + 3 = pc2) (he : x + Int32.ofInt n = v) (hk : a0.category = 1) (h : y_At dC dI cA i d a b pc2 (a0 :: .int v :: t) st ws Qp) : y_At dC dI cA i d a b pc (a0 :: .int x :: t) st ws Qp := by
  subst hp
  intro p l e R s m args below meth c cells slots QS A hC hK hA hc hR H locs lsA hH hl
  have hi : 1 < (a0 :: .int x :: t).length := by simp only [List.length_cons]; omega
  have hv : (a0 :: Value.int x :: t)[1]? = some (.int x) := rfl
  obtain ⟨q, hq⟩ := List.getElem?_of_mem (z_lst_in (ad := fun r => r) hv (fun e => by cases e))
  exact lv_iinc hC.1.1 hC.1.2.1 hd hl.has hq he (by rw [← hl.1]; exact hi) rfl (fun lsB hB => h p l e R s m args below meth c cells slots QS A hC hK hA hc hR H locs lsB hH (hl.set1 (x := .int v) hi (fun u hu _ => by cases hu; rw [hk]; decide) hB))
theorem y_iconst {n : Int} {v : Int32} (hd : decode i.2.1 pc = .ok (.iconst n, 1)) (hp : pc + 1 = pc2) (hv : Int32.ofInt n = v) (h : y_At dC dI cA i d a b pc2 ls (.int v :: st) ws Qp) : y_At dC dI cA i d a b pc ls st ws Qp := by
  subst hp
  intro p l e R s m args below meth c cells slots QS A hC hK hA hc hR H locs lsA hH hl
  exact lv_iconst hC.1.1 hC.1.2.1 hd hv (h p l e R s m args below meth c cells slots QS A hC hK hA hc hR H locs lsA hH hl)
theorem y_bipush {n : Int} {v : Int32} (hd : decode i.2.1 pc = .ok (.bipush n, 2)) (hp : pc + 2 = pc2) (hv : (Int8.ofInt n).toInt32 = v) (h : y_At dC dI cA i d a b pc2 ls (.int v :: st) ws Qp) : y_At dC dI cA i d a b pc ls st ws Qp := by
  subst hp
  intro p l e R s m args below meth c cells slots QS A hC hK hA hc hR H locs lsA hH hl
  exact lv_bipush hC.1.1 hC.1.2.1 hd hv (h p l e R s m args below meth c cells slots QS A hC hK hA hc hR H locs lsA hH hl)
theorem y_sipush {n : Int} {v : Int32} (hd : decode i.2.1 pc = .ok (.sipush n, 3)) (hp : pc + 3 = pc2) (hv : (Int16.ofInt n).toInt32 = v) (h : y_At dC dI cA i d a b pc2 ls (.int v :: st) ws Qp) : y_At dC dI cA i d a b pc ls st ws Qp := by
  subst hp
  intro p l e R s m args below meth c cells slots QS A hC hK hA hc hR H locs lsA hH hl
  exact lv_sipush hC.1.1 hC.1.2.1 hd hv (h p l e R s m args below meth c cells slots QS A hC hK hA hc hR H locs lsA hH hl)
theorem y_lconst {n : Fin 2} {v : Int64} (hd : decode i.2.1 pc = .ok (.lconst n, 1)) (hp : pc + 1 = pc2) (hv : Int64.ofNat (n : Nat) = v) (h : y_At dC dI cA i d a b pc2 ls (.long v :: st) ws Qp) : y_At dC dI cA i d a b pc ls st ws Qp := by
  subst hp
  intro p l e R s m args below meth c cells slots QS A hC hK hA hc hR H locs lsA hH hl
  exact lv_lconst hC.1.1 hC.1.2.1 hd hv (h p l e R s m args below meth c cells slots QS A hC hK hA hc hR H locs lsA hH hl)
theorem y_dup {v : Value} (hd : decode i.2.1 pc = .ok (.dup, 1)) (hp : pc + 1 = pc2) (hv : v.category = 1) (h : y_At dC dI cA i d a b pc2 ls (v :: v :: st) ws Qp) : y_At dC dI cA i d a b pc ls (v :: st) ws Qp := by
  subst hp
  intro p l e R s m args below meth c cells slots QS A hC hK hA hc hR H locs lsA hH hl
  exact lv_dup hC.1.1 hC.1.2.1 hd hv (h p l e R s m args below meth c cells slots QS A hC hK hA hc hR H locs lsA hH hl)
theorem y_goto {off : Int} (hd : decode i.2.1 pc = .ok (.goto off, 3)) (ht : (pc : Int) + off = (pc2 : Int)) (h : y_At dC dI cA i d a b pc2 ls st ws Qp) : y_At dC dI cA i d a b pc ls st ws Qp := by
  intro p l e R s m args below meth c cells slots QS A hC hK hA hc hR H locs lsA hH hl
  exact lv_goto hC.1.1 hC.1.2.1 hd ht (h p l e R s m args below meth c cells slots QS A hC hK hA hc hR H locs lsA hH hl)
theorem y_icmp_ge {pc3 : Nat} {x y : Int32} {off : Int} (hd : decode i.2.1 pc = .ok (.if_icmp .ge off, 3)) (ht : (pc : Int) + off = (pc3 : Int)) (hp : pc + 3 = pc2) (kt : y ≤ x → y_At dC dI cA i d a b pc3 ls st ws Qp) (kf : ¬ y ≤ x → y_At dC dI cA i d a b pc2 ls st ws Qp) : y_At dC dI cA i d a b pc ls (.int y :: .int x :: st) ws Qp := by
  subst hp
  intro p l e R s m args below meth c cells slots QS A hC hK hA hc hR H locs lsA hH hl
  exact lv_icmp_ge hC.1.1 hC.1.2.1 hd ht (fun g => kt g p l e R s m args below meth c cells slots QS A hC hK hA hc hR H locs lsA hH hl) (fun g => kf g p l e R s m args below meth c cells slots QS A hC hK hA hc hR H locs lsA hH hl)
theorem y_ret (hd : decode i.2.1 pc = .ok (.return_, 1)) (h : Qp ws) : y_At dC dI cA i d a b pc ls [] ws Qp := by
  intro p l e R s m args below meth c cells slots QS A hC hK hA hc hR H locs lsA hH hl
  exact hR ws H locs lsA pc cells slots h hH hd (by omega) (by omega)
theorem y_obj {idx x : Nat} (hk : Cond.methodLink i.1.cls idx objectInit ∈ lw_tbl) (h1 : Cond.instanceMethod objectInit ∈ lw_tbl) (h2 : Cond.code objectInit ⟨#[0xb1]⟩ 1 none ∈ lw_tbl) (hd0 : 1 ≤ d) (hst : (st.map fun v => v.category).sum ≤ 8) (hd : decode i.2.1 pc = .ok (.invokespecial idx, 3)) (hp : pc + 3 = pc2) (h : y_At dC dI cA i d a b pc2 ls st ws Qp) : y_At dC dI cA i d a b pc ls (.ref x :: st) ws Qp := by
  subst hp
  intro p l e R s m args below meth c cells slots QS A hC hK hA hc hR H locs lsA hH hl
  have hC' := hC
  obtain ⟨⟨c1, c2, c3, c4, c5, c6, c7⟩, -, -⟩ := hC'
  refine W.objInit c1 c2 c4 (c5 _ (z_inT hk rfl)) (c5 _ (z_inT h1 rfl)) (c5 _ (z_inT h2 rfl)) rfl (by rw [c3]; exact hl.2.1) rfl hd (by omega) ?_ ?_
  · show 2 * 0 + (st.map fun v => v.category).sum + 12 ≤ R.locals
    omega
  · exact h p l e R s m args below meth c cells slots QS A hC hK hA hc hR H locs lsA hH hl
theorem y_ty {x : ClassId} {ty : FieldType} {s : State} {k : Nat} {q : ClassId} (h1 : va_K (dC, dI) vwCl (z_tys cA ++ [(x, ty)]) s) (hk : (z_tys cA)[k]? = some (q, ty)) (hf : ∀ y, va_RA s y ty → s.vm.findClass ("[" ++ ty.toString) = some y) : x = q := by
  have hl : k < (z_tys cA).length := (List.getElem?_eq_some_iff.mp hk).1
  have a1 := (h1.2 k (q, ty) (by rw [List.getElem?_append_left hl]; exact hk)).2
  have a2 := (h1.2 (z_tys cA).length (x, ty) (by rw [List.getElem?_append_right (Nat.le_refl _), Nat.sub_self]; rfl)).2
  exact Option.some.inj ((hf x a2).symm.trans (hf q a1))
theorem y_newI {n : Int32} {N : Nat} (hn : ¬ n < 0) (hN : n.toNatClampNeg = N) (hN2 : N ≤ 1024) (hw : Cond.arrayClass .int ∈ lw_tbl) (hd : decode i.2.1 pc = .ok (.newarray .int, 2)) (hp : pc + 2 = pc2) (h : ∀ q, y_At dC dI cA i d a b pc2 ls (.ref q :: st) (ws ++ [(q, .inl (cA 0, N, .inl (fun _ => 0)))]) Qp) : y_At dC dI cA i d (a + 1) (b + N) pc ls (.int n :: st) ws Qp := by
  subst hp
  intro p l e R s m args below meth c cells slots QS A hC hK hA hc hR H locs lsA hH hl
  refine va_newa (atype := .int) (ty := .int) (a0 := (N, .inl (fun _ => 0))) hC.1.1 hC.1.2.1 (show (Cond.arrayClass .int).before args s = true from hC.1.2.2.2.2.1 _ (z_inT hw rfl)) rfl hK hH.1 hH.2.1 hH.2.2 hA (fun _ => rfl) hn hN (by show N * 4 ≤ _; omega) (by omega) (by omega) hd (fun q x H1 hK1 hP1 hD1 hS1 => ?_)
  obtain rfl : x = cA 0 := y_ty hK1 (k := 0) rfl (fun _ h => h)
  exact h q p l e R s m args below meth c _ _ QS A hC hK hA ⟨by omega, by omega⟩ (fun ws' H locs lsA pc' k n q1 q2 q3 q4 q5 => hR ws' H locs lsA pc' k n q1 q2 q3 (by omega) (by omega)) H1 locs lsA ⟨hP1, hD1, hS1⟩ hl
theorem y_newZ {n : Int32} {N : Nat} (hn : ¬ n < 0) (hN : n.toNatClampNeg = N) (hN2 : N ≤ 1024) (hw : Cond.arrayClass .boolean ∈ lw_tbl) (hd : decode i.2.1 pc = .ok (.newarray .boolean, 2)) (hp : pc + 2 = pc2) (h : ∀ q, y_At dC dI cA i d a b pc2 ls (.ref q :: st) (ws ++ [(q, .inl (cA 1, N, .inl (fun _ => 0)))]) Qp) : y_At dC dI cA i d (a + 1) (b + N) pc ls (.int n :: st) ws Qp := by
  subst hp
  intro p l e R s m args below meth c cells slots QS A hC hK hA hc hR H locs lsA hH hl
  refine va_newa (atype := .boolean) (ty := .boolean) (a0 := (N, .inl (fun _ => 0))) hC.1.1 hC.1.2.1 (show (Cond.arrayClass .boolean).before args s = true from hC.1.2.2.2.2.1 _ (z_inT hw rfl)) rfl hK hH.1 hH.2.1 hH.2.2 hA (fun _ => rfl) hn hN (by show N * 1 ≤ _; omega) (by omega) (by omega) hd (fun q x H1 hK1 hP1 hD1 hS1 => ?_)
  obtain rfl : x = cA 1 := y_ty hK1 (k := 1) rfl (fun _ h => h)
  exact h q p l e R s m args below meth c _ _ QS A hC hK hA ⟨by omega, by omega⟩ (fun ws' H locs lsA pc' k n q1 q2 q3 q4 q5 => hR ws' H locs lsA pc' k n q1 q2 q3 (by omega) (by omega)) H1 locs lsA ⟨hP1, hD1, hS1⟩ hl
theorem y_newQ {idx : Nat} {n : Int32} {N : Nat} (hn : ¬ n < 0) (hN : n.toNatClampNeg = N) (hN2 : N ≤ 1024) (hw : Cond.classLink i.1.cls idx RX3 ∈ lw_tbl) (hd : decode i.2.1 pc = .ok (.anewarray idx, 3)) (hp : pc + 3 = pc2) (h : ∀ q, y_At dC dI cA i d a b pc2 ls (.ref q :: st) (ws ++ [(q, .inl (cA 2, N, .inr (.inr (.inr (.inr (fun _ => none))))))]) Qp) : y_At dC dI cA i d (a + 1) (b + N) pc ls (.int n :: st) ws Qp := by
  subst hp
  intro p l e R s m args below meth c cells slots QS A hC hK hA hc hR H locs lsA hH hl
  refine va_newq (C := RX3) hC.1.1 hC.1.2.1 hC.1.2.2.2.1 (hC.1.2.2.2.2.1 _ (z_inT hw rfl)) hC.2.2.2 hK hH.1 hH.2.1 hH.2.2 hA hn hN (by omega) (by omega) (by omega) hd (fun q x H1 hK1 hP1 hD1 hS1 => ?_)
  obtain rfl : x = cA 2 := y_ty hK1 (k := 2) rfl (fun y h => by obtain ⟨-, -, -, -, -, h⟩ := h; exact h)
  exact h q p l e R s m args below meth c _ _ QS A hC hK hA ⟨by omega, by omega⟩ (fun ws' H locs lsA pc' k n q1 q2 q3 q4 q5 => hR ws' H locs lsA pc' k n q1 q2 q3 (by omega) (by omega)) H1 locs lsA ⟨hP1, hD1, hS1⟩ hl
/-- a field of its own, final or not -/
def y_Lp (own : String) (idx ci k : Nat) (T : u_T) (N : Nat) (ty0 : Nat → FieldType) (ty : FieldType) : Prop := vwCl[ci]? = some (own, T, N) ∧ (∀ w ∈ u_ws own T N, w ∈ lw_tbl) ∧ k < N ∧ (T k).1 = own ∧ Cond.fieldLink own idx own (T k).2.1 (T k).2.2.1 ∈ lw_tbl ∧ (∀ k, k < N → parseFieldDescriptor (T k).2.2.1 = some (ty0 k)) ∧ (∀ a, a < N → ∀ b, b < N → a ≠ b → (T a).2.1 ≠ (T b).2.1) ∧ parseFieldDescriptor (T k).2.2.1 = some ty
theorem y_put {idx ci k q0 x : Nat} {T : u_T} {N : Nat} {ty0 : Nat → FieldType} {ty : FieldType} {fs : List Value} {v : Value} (hf : y_Lp i.1.cls idx ci k T N ty0 ty) (he : ws[q0]? = some (x, .inr (ci, fs))) (hl0 : k < fs.length) (hn : narrow ty v = v) (hfit : fits ty v = true) (hd : decode i.2.1 pc = .ok (.putfield idx, 3)) (hp : pc + 3 = pc2) (h : y_At dC dI cA i d a b pc2 ls st (ws.set q0 (x, .inr (ci, fs.set k v))) Qp) : y_At dC dI cA i d a b pc ls (v :: .ref x :: st) ws Qp := by
  subst hp
  intro p l e R s m args below meth c cells slots QS A hC hK hA hc hR H locs lsA hH hl
  obtain ⟨f1, f2, f3, f4, f5, f6, f7, f8⟩ := hf
  have hts := hC.1.2.2.2.2.1
  cases hfin : (T k).2.2.2 with
  | true => exact va_putF (D := (dC, dI)) (ci := ci) (v := v) (ty := ty) hC.1.1 hC.1.2.1 hts (z_uws f2) ty0 f6 f7 hC.1.2.2.2.1 hK hH.1 hH.2.1 hH.2.2 q0 he f1 k f3 (hts _ (z_inT f5 rfl)) (fun y hy => by rw [f4] at hy; exact hy) hfin hC.2.1 f4 f8 hn hfit hl0 hd (fun H1 locs1 hP1 hD1 hS1 => h p l e R s m args below meth c cells slots QS A hC hK hA hc hR H1 locs1 lsA ⟨hP1, hD1, hS1⟩ hl)
  | false => exact va_put (D := (dC, dI)) (ci := ci) (v := v) (ty := ty) hC.1.1 hC.1.2.1 hts (z_uws f2) ty0 f6 f7 hC.1.2.2.2.1 hK hH.1 hH.2.1 hH.2.2 q0 he f1 k f3 (hts _ (z_inT f5 rfl)) (fun y hy => by rw [f4] at hy; exact hy) hfin f8 hn hfit hl0 hd (fun H1 locs1 hP1 hD1 hS1 => h p l e R s m args below meth c cells slots QS A hC hK hA hc hR H1 locs1 lsA ⟨hP1, hD1, hS1⟩ hl)
theorem y_get {idx ci k q0 x : Nat} {T : u_T} {N : Nat} {ty0 : Nat → FieldType} {ty : FieldType} {fs : List Value} {v : Value} (hf : y_Lp i.1.cls idx ci k T N ty0 ty) (he : ws[q0]? = some (x, .inr (ci, fs))) (hv : fs[k]? = some v) (hd : decode i.2.1 pc = .ok (.getfield idx, 3)) (hp : pc + 3 = pc2) (h : y_At dC dI cA i d a b pc2 ls (v :: st) ws Qp) : y_At dC dI cA i d a b pc ls (.ref x :: st) ws Qp := by
  subst hp
  intro p l e R s m args below meth c cells slots QS A hC hK hA hc hR H locs lsA hH hl
  obtain ⟨f1, f2, f3, f4, f5, f6, f7, f8⟩ := hf
  have hts := hC.1.2.2.2.2.1
  exact va_get (D := (dC, dI)) (ci := ci) (v := v) hC.1.1 hC.1.2.1 hts (z_uws f2) hC.1.2.2.2.1 hK hH.1 q0 he f1 k f3 (hts _ (z_inT f5 rfl)) (fun y hy => by rw [f4] at hy; exact hy) hv hd (h p l e R s m args below meth c cells slots QS A hC hK hA hc hR H locs lsA hH hl)
theorem y_iast {q0 x n : Nat} {f : Nat → Int32} {j v : Int32} (he : ws[q0]? = some (x, .inl (cA 0, n, .inl f))) (hin : vp_in j n) (hd : decode i.2.1 pc = .ok (.iastore, 1)) (hp : pc + 1 = pc2) (h : y_At dC dI cA i d a b pc2 ls st (ws.set q0 (x, .inl (cA 0, n, .inl (upd f j.toNatClampNeg v)))) Qp) : y_At dC dI cA i d a b pc ls (.int v :: .int j :: .ref x :: st) ws Qp := by
  subst hp
  intro p l e R s m args below meth c cells slots QS A hC hK hA hc hR H locs lsA hH hl
  exact va_iast hC.1.1 hC.1.2.1 hK hH.1 hH.2.1 hH.2.2 q0 0 he rfl hin hd (fun H1 locs1 hP1 hD1 hS1 => h p l e R s m args below meth c cells slots QS A hC hK hA hc hR H1 locs1 lsA ⟨hP1, hD1, hS1⟩ hl)
theorem y_qast {q0 qk x y n : Nat} {vs : List Value} {f : Nat → Option Nat} {j : Int32} (he : ws[q0]? = some (x, .inl (cA 2, n, .inr (.inr (.inr (.inr f)))))) (hv : ws[qk]? = some (y, .inr (3, vs))) (hin : vp_in j n) (hd : decode i.2.1 pc = .ok (.aastore, 1)) (hp : pc + 1 = pc2) (h : y_At dC dI cA i d a b pc2 ls st (ws.set q0 (x, .inl (cA 2, n, .inr (.inr (.inr (.inr (va_up f j.toNatClampNeg (some y)))))))) Qp) : y_At dC dI cA i d a b pc ls (.ref y :: .int j :: .ref x :: st) ws Qp := by
  subst hp
  intro p l e R s m args below meth c cells slots QS A hC hK hA hc hR H locs lsA hH hl
  exact va_astq (r := (RX3, TX3, 3)) hC.1.1 hC.1.2.1 hK hH.1 hH.2.1 hH.2.2 q0 2 qk 3 he rfl hv rfl hin hd (fun H1 locs1 hP1 hD1 hS1 => h p l e R s m args below meth c cells slots QS A hC hK hA hc hR H1 locs1 lsA ⟨hP1, hD1, hS1⟩ hl)
theorem y_new {idx ci : Nat} {C : String} {T : u_T} {N : Nat} {ty0 : Nat → FieldType} {fs : List Value} (hcl : vwCl[ci]? = some (C, T, N)) (hi : ∀ w ∈ u_ws C T N, w ∈ lw_tbl) (hty : ∀ k, k < N → parseFieldDescriptor (T k).2.2.1 = some (ty0 k)) (h1 : Cond.classLink i.1.cls idx C ∈ lw_tbl) (h2 : Cond.instantiable C N ∈ lw_tbl) (h3 : Cond.initialized C ∈ lw_tbl) (hfs : ∀ j, j < N → defaultValue (ty0 j) = vp_V fs j) (hd : decode i.2.1 pc = .ok (.new idx, 3)) (hp : pc + 3 = pc2) (h : ∀ q, y_At dC dI cA i d a b pc2 ls (.ref q :: st) (ws ++ [(q, .inr (ci, fs))]) Qp) : y_At dC dI cA i d (a + 1) (b + N) pc ls st ws Qp := by
  subst hp
  intro p l e R s m args below meth c cells slots QS A hC hK hA hc hR H locs lsA hH hl
  have hts := hC.1.2.2.2.2.1
  exact va_new (ci := ci) (fs := fs) hC.1.1 hC.1.2.1 hts (z_uws hi) ty0 hty hC.1.2.2.2.1 (hts _ (z_inT h1 rfl)) (hts _ (z_inT h2 rfl)) (hts _ (z_inT h3 rfl)) hK hH.1 hH.2.1 hH.2.2 hA hcl hfs (by omega) (by omega) hd (fun q H1 hP1 hD1 hS1 => h q p l e R s m args below meth c _ _ QS A hC hK hA ⟨by omega, by omega⟩ (fun ws' H locs lsA pc' k n q1 q2 q3 q4 q5 => hR ws' H locs lsA pc' k n q1 q2 q3 (by omega) (by omega)) H1 locs lsA ⟨hP1, hD1, hS1⟩ hl)
end YR
/-- a constructor's contract: from a fresh object to its world -/
def y_Ex (j : zM) (d a b ci : Nat) (fs : List Value) (Post : (Nat → ClassId) → Nat → va_W → Prop) : Prop := ∀ (l : Launch) (dC : Nat → ClassId) (dI : Nat → Nat → Nat) (cA : Nat → ClassId) (x sz : Nat),
  Met l j.1 (z_wd j) { frames := d, cells := a, slots := b, locals := 40 * d } (va_Pc [.ref x] (fun U => U.heap.size = sz ∧ va_P (dC, dI) vwCl [(x, .inr (ci, fs))] U.heap ∧ va_K (dC, dI) vwCl (z_tys cA) U ∧ va_D (fun _ => True) [(x, .inr (ci, fs))] ∧ y_M U)) (va_Qv (Post cA x) (fun u t => va_P (dC, dI) vwCl u t.heap ∧ va_K (dC, dI) vwCl (z_tys cA) t ∧ va_D (va_A [(x, .inr (ci, fs))] sz) u) (va_A [(x, .inr (ci, fs))] sz)) a b (va_A [(x, .inr (ci, fs))] sz)
theorem y_enter {j : zM} {d a b ci : Nat} {fs : List Value} {Post : (Nat → ClassId) → Nat → va_W → Prop} (hy : plainName j.1.cls = true) (hn : j.1.name = "<init>") (hr : j.2.2.2 = none) (h1 : 1 ≤ j.2.2.1) (h : ∀ dC dI cA x, y_At dC dI cA j d a b 0 (.ref x :: List.replicate (j.2.2.1 - 1) .null) [] [(x, .inr (ci, fs))] (Post cA x)) : y_Ex j d a b ci fs Post := by
  intro l dC dI cA x sz
  refine Met.ofW (cc := j.2.1) (maxL := j.2.2.1) (ret := j.2.2.2) hy rfl ?_
  intro p e s m args below meth c s₁ B hml hv
  obtain ⟨rfl, hsz, hP, hK, hD0, hM⟩ := hv
  have hts := atoms_spec (ws := z_wd j) B.pre
  have hown : s.vm.findClass j.1.cls = some m.cls := findClass_of_methodNamed B.named
  have hlocks := B.notSynchronized
  have hin : meth.name = "<init>" := (name_of_methodNamed B.named B.method).1.trans hn
  subst hsz
  have hD := hD0.self (sz := s.heap.size)
  have hl := lv_entry ([Value.ref x]) (n := j.2.2.1) (show (lg_sl ([Value.ref x])).length ≤ j.2.2.1 from h1)
  rw [lg_entry_eq]
  generalize (lg_sl ([Value.ref x]) ++ List.replicate (j.2.2.1 - (lg_sl ([Value.ref x])).length) Slot.unset).toArray = lsA at hl ⊢
  have hl : lv_has lsA j.2.2.1 [(0, .ref x)] := hl
  refine h dC dI cA x p l e { frames := d, cells := a, slots := b, locals := 40 * d } s m _ below meth c 0 0 _ (va_A [(x, .inr (ci, fs))] s.heap.size) ⟨⟨B.exec, B.bytes, hml, hown, fun w hw => hts w (List.mem_cons_of_mem _ hw), Nat.le_refl _, Nat.le_refl _⟩, hin, hM⟩ hK (fun q h => Or.inr h) ⟨by show 0 + a ≤ a; omega, by show 0 + b ≤ b; omega⟩ ?_ s.heap [] lsA ⟨hP, hD, va_S.rf⟩ ?_
  · intro ws' H locs lsA pc' k n hQ hH hd hk hn
    refine W.widen (k := a) (n := b) (by omega) (by omega) ?_
    exact W.vret B.exec B.bytes (by rw [B.returns]; exact hr) (fun t ht hW => ⟨⟨ws', rfl, hQ, by rw [ht]; exact hH.1, va_K.moved hW.alike hK, hH.2.1⟩, hH.2.2.F ht⟩) hH.2.2.2.2 hd hlocks
  · refine ⟨?_, hl.1, hl.2.1, fun k v hk hn => ?_⟩
    · rw [List.length_cons, List.length_replicate]; omega
    · cases k with
      | zero =>
        have : v = .ref x := (Option.some.inj hk).symm
        subst this
        exact hl.2.2 (0, .ref x) (by simp)
      | succ k =>
        exfalso
        rw [List.getElem?_cons_succ, List.getElem?_replicate] at hk
        split at hk
        · exact hn (Option.some.inj hk).symm
        · cases hk
