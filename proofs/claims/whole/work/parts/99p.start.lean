/-! the start of the law -/
def R_law : String := "PortageTripsLaw"
def lw_P (b : Addr) (xs : List Int32) (args : Array Value) (s : State) : Prop := args = #[.ref b] ∧ s.IntsAt b xs ∧ xs.length ≤ 448 ∧ (Jvm.Cond.and given_1 narrow_1).before args s = true
def lw_Q (_ : Array Value) (s : State) (o : Outcome) (t : State) : Prop := o = .returned (some (.int 1)) ∧ Framed s o t [] 600000 7302250
def lw_Z (below : List Frame) (a : Array Value) (s : State) : State → Prop := fun t => ∃ o, t.status = .running ∧ Ended t below o ∧ lw_Q a s o t
/-- the law's own end, with 1 on the stack, nothing written that was there before, its room as the claim has it -/
theorem lw_ret {p : Program} {l : Launch} {e : Env} {s : State} {m : MethodId} {below : List Frame} {meth : Method} {c : Code} {b : Nat} (hx : p.tables.exec = Jvm.exec) (hb : c.code = code) (hr : meth.sig.returnType = ret) (hlocks : meth.locks = false) {pc : Nat} {H : Heap} {ls : Array Slot} (hdg : decode code pc = .ok (.ireturn, 1)) : W p l e room_1 s m #[Value.ref b] below meth c H [] 600000 7302250 (lw_Z below #[Value.ref b] s) (F0 m pc ls [.int 1]) := by
  intro T hT X
  obtain ⟨fs, hret, hrun, hended, hW, hframe⟩ := X.leave (v := some (.int 1)) (hlocks := hlocks) (fun h => by rw [hr] at h; cases h)
  have hmeth' : T.vm.method? m = some meth := X.method'
  refine ⟨T.setFrames fs, ?_, .returned (some (.int 1)), hrun, hended, rfl, ⟨_, rfl⟩, hW, hframe⟩
  jvm_step X.here [X.here.top, hx, hb, hdg, hmeth', hr, ret, narrow_b1]
  (try refine ⟨rfl, ?_⟩); (try refine ⟨rfl, ?_⟩)
  first | (intro acts; rw [hret _ acts rfl rfl rfl]) | rw [hret _ _ rfl rfl rfl]
  exact Steps.refl _
/-- what holds at the law's entry: the machine, the code, the tables' words (any of lw_tbl by 'hts w (by decide +kernel)'), the script of L ints xs at the cell b, what the Statement gives of the start (any of its parts by flat_of_before) -/
def lw_At (p : Program) (s : State) (m : MethodId) (meth : Method) (c : Code) (b L : Nat) (xs : Nat → Int32) : Prop :=
  p.tables.exec = Jvm.exec ∧ c.code = code ∧ meth.sig.returnType = ret ∧ c.maxLocals = 4 ∧ s.vm.findClass R_law = some m.cls ∧ (∀ w ∈ lw_tbl, w.before #[Value.ref b] s = true) ∧ va_X b L xs s s.heap ∧ b < s.heap.size ∧ meth.locks = false ∧ (Jvm.Cond.and given_1 narrow_1).before #[Value.ref b] s = true
def z_ini (xs : Nat → Int32) (L : Nat) : zS := (fun r => ([(fun _ => 0), (fun j => if j = 1 then -9 else 0), (fun _ => 0), (fun _ => 0), (fun _ => 0), (fun _ => 0), (fun _ => 0), (fun j => if j = 1 then -9 else 0), (fun _ => 0), (fun _ => 0), (fun _ => 0), (fun _ => 0), (fun _ => 0), (fun _ => 0), (fun j => if j = 0 then -9 else 0), (fun j => if j = 0 then -9 else 0), (fun j => if j = 0 then -9 else 0), (fun j => if j = 0 then -9 else 0), (fun _ => 0), (fun _ => 0), (fun _ => 0), (fun _ => 0), (fun _ => 0), (fun _ => 0), (fun _ => 0), (fun _ => 0), (fun j => if j = 6 then -9 else 0), (fun _ => 0), (fun _ => 0), (fun _ => 0), (fun _ => 0), (fun _ => 0), (fun _ => 0), (fun _ => 0), (fun _ => 0), (fun _ => 0), (fun _ => 0), (fun _ => 0), (fun _ => 0), (fun _ => 0), (fun _ => 0), (fun _ => 0), (fun _ => 0), (fun j => if j = 8 then -9 else if j = 14 then -9 else 0), (upd (upd (upd (upd (fun _ => 0) 0 (-9)) 1 (-9)) 2 (-9)) 3 (-9)), (fun _ => 0), (fun _ => 0), (fun _ => 0), (fun _ => 0), (fun _ => 0), (fun _ => 0), (fun _ => 0), (fun _ => 0), (fun _ => 0), (fun _ => 0), (fun _ => 0), (fun _ => 0), (fun _ => 0), (fun _ => 0), (fun _ => 0), (fun _ => 0), (fun _ => 0), (fun _ => 0), xs, (fun _ => nI L)] : List (Nat → Int32)).getD r (fun _ => 0), fun r _ => if r = 26 then 1 else 0)
def z_adr (l : List Nat) : Nat → Nat := fun r => l.getD r 0
theorem z_ini_len (xs : Nat → Int32) {L : Nat} (hL : L ≤ 448) : z_len (z_ini xs L) = L := by
  show (nI L).toNatClampNeg = L
  exact nI_clamp (by omega)
def aIni : zI := (0, 0, (0, 0, 9, (fun _ => 0), (fun _ => 0), (fun _ => 0), (fun _ => 0), (fun _ => 0), 0, -9), (fun _ => -9), (fun _ => 0), (fun _ _ => 0), 0, (fun _ => 0), (fun _ => 0), (fun _ => 0))
theorem z_four {P : Nat → Prop} (h0 : P 0) (h1 : P 1) (h2 : P 2) (h3 : P 3) : ∀ k, k < 4 → P k := fun k hk => by
  rcases (show k = 0 ∨ k = 1 ∨ k = 2 ∨ k = 3 by omega) with rfl | rfl | rfl | rfl
  · exact h0
  · exact h1
  · exact h2
  · exact h3
theorem z_ini_iN (xs : Nat → Int32) (L : Nat) : iN (z_ini xs L) := by
  have hgC : gC 1 (z_ini xs L) (aG aIni) := ⟨⟨rfl, rfl, by decide⟩, ⟨rfl, rfl⟩, ⟨rfl, rfl, rfl⟩, rfl, rfl⟩
  have hgM : gM (z_ini xs L) (aG aIni) := ⟨⟨rfl, rfl, rfl⟩, ⟨rfl, rfl⟩, ⟨rfl, rfl, rfl⟩, rfl, rfl⟩
  have hE : gEq (aG aIni) (aG aIni) := ⟨rfl, rfl, rfl, fun _ _ => ⟨rfl, rfl⟩, fun _ _ => ⟨rfl, rfl, rfl⟩, rfl, rfl⟩
  refine iN_mk (a := aIni) ⟨⟨rfl, rfl⟩, ⟨hgC, fun j _ => Or.inl rfl⟩, z_four ⟨rfl, rfl, fun _ _ => rfl⟩ ⟨rfl, rfl, fun _ _ => rfl⟩ ⟨rfl, rfl, fun _ _ => rfl⟩ ⟨rfl, rfl, fun _ _ => rfl⟩, ⟨rfl, by decide, fun k hk => absurd hk (Nat.not_lt_zero k)⟩, rfl, fun h => absurd h (by decide)⟩ ⟨⟨rfl, rfl⟩, ⟨_, hgM, hE⟩, z_four ⟨rfl, ⟨0, by decide, rfl⟩, fun h => absurd rfl h⟩ ⟨rfl, ⟨0, by decide, rfl⟩, fun h => absurd rfl h⟩ ⟨rfl, ⟨0, by decide, rfl⟩, fun h => absurd rfl h⟩ ⟨rfl, ⟨0, by decide, rfl⟩, fun h => absurd rfl h⟩, ⟨rfl, by decide, fun k hk => absurd hk (Nat.not_lt_zero k)⟩⟩ ⟨⟨⟨by decide, by decide⟩, by decide⟩, rfl, fun h => absurd h (by decide), fun k _ => ⟨Or.inl rfl, by show 0 ≤ 60; decide⟩⟩
/-- the classes' numbers, from the tables -/
theorem y_known {args : Array Value} {s : State} (hts : ∀ w ∈ lw_tbl, w.before args s = true) : ∃ (dC : Nat → ClassId) (dI : Nat → Nat → Nat) (cA : Nat → ClassId), va_K (dC, dI) vwCl (z_tys cA) s := by
  obtain ⟨c0, i0, k0⟩ := u_known hts iX0 (hts (.instantiable RX0 9) (by decide +kernel))
  obtain ⟨c1, i1, k1⟩ := u_known hts iX1 (hts (.instantiable RX1 4) (by decide +kernel))
  obtain ⟨c2, i2, k2⟩ := u_known hts iX2 (hts (.instantiable RX2 16) (by decide +kernel))
  obtain ⟨c3, i3, k3⟩ := u_known hts iX3 (hts (.instantiable RX3 3) (by decide +kernel))
  obtain ⟨c4, i4, k4⟩ := u_known hts iX4 (hts (.instantiable RX4 9) (by decide +kernel))
  obtain ⟨c5, i5, k5⟩ := u_known hts iX5 (hts (.instantiable RX5 14) (by decide +kernel))
  obtain ⟨c6, i6, k6⟩ := u_known hts iX6 (hts (.instantiable RX6 38) (by decide +kernel))
  obtain ⟨a0, ka0, co0, f0, g0, e0⟩ := Cond.arrayClass_spec (hts (.arrayClass .int) y_aI)
  obtain ⟨a1, ka1, co1, f1, g1, e1⟩ := Cond.arrayClass_spec (hts (.arrayClass .boolean) y_aZ)
  obtain ⟨co2, a2, ka2, f2, -, g2, e2, h2⟩ := Cond.arrayOver_spec (hts (.arrayOver (.object RX3)) (by decide +kernel))
  refine ⟨fun c => [c0, c1, c2, c3, c4, c5, c6].getD c c0, fun c => [i0, i1, i2, i3, i4, i5, i6].getD c i0, fun k => [a0, a1, a2].getD k a0, fun c q hq => ?_, fun k q hq => ?_⟩
  · match c, hq with
    | 0, hq => cases hq; exact k0
    | 1, hq => cases hq; exact k1
    | 2, hq => cases hq; exact k2
    | 3, hq => cases hq; exact k3
    | 4, hq => cases hq; exact k4
    | 5, hq => cases hq; exact k5
    | 6, hq => cases hq; exact k6
    | c + 7, hq => cases hq
  · match k, hq with
    | 0, hq => cases hq; exact ⟨fun n z => ⟨(fun k h => by cases h), ka0, g0, co0, e0⟩, f0⟩
    | 1, hq => cases hq; exact ⟨fun n z => ⟨(fun k h => by cases h), ka1, g1, co1, e1⟩, f1⟩
    | 2, hq => cases hq; exact ⟨fun n z => ⟨(fun k h => by cases h), ka2, g2, co2, e2⟩, ⟨ka2, co2, g2, e2, f2, h2⟩⟩
    | k + 3, hq => cases hq
theorem z_Nw_of {args : Array Value} {s : State} (hts : ∀ w ∈ lw_tbl, w.before args s = true) : z_Nw s := fun w hw => by
  have h1 := hts w (List.mem_filter.mp hw).1
  have h2 := (List.mem_filter.mp hw).2
  cases w <;> first | exact va_Nw.of rfl h1 | (cases h2)
theorem y_M_of {args : Array Value} {s : State} (hts : ∀ w ∈ lw_tbl, w.before args s = true) : y_M s := ⟨fun w hw => by
  have h1 := hts w (List.mem_filter.mp hw).1
  have h2 := (List.mem_filter.mp hw).2
  cases w <;> first | exact va_Nw.of rfl h1 | (cases h2), va_AO.of (hts (.arrayOver (.object RX3)) (by decide +kernel))⟩
theorem arrV_cg {c : ClassId} {n : Nat} {f g : Nat → Value} (h : ∀ j, j < n → f j = g j) : arrV c n f = arrV c n g := by
  unfold arrV
  congr 1
  congr 1
  funext j
  exact h j.1 j.2
theorem z_ws_P {D : va_G} {ad : Nat → Nat} {cA : Nat → ClassId} {σ : zS} {H : Heap} (h : ∀ r, r < 63 → va_at D vwCl (ad r, z_cell ad cA σ r) H) : va_P D vwCl (z_ws ad cA σ) H := fun k q hk => by
  have h1 : k < 63 := by
    have := (List.getElem?_eq_some_iff.mp hk).1
    unfold z_ws at this
    rw [List.length_map, List.length_range] at this
    exact this
  rw [z_ws_at ad cA σ h1] at hk
  cases hk
  exact h k h1
theorem z_ad_at {ws : va_W} {ad : Nat → Nat} (hl : ws.map (fun q => q.1) = (List.range 63).map ad) {r : Nat} (hr : r < 63) : ∃ e, ws[r]? = some (ad r, e) := by
  have h : (ws.map (fun q => q.1))[r]? = some (ad r) := by rw [hl, List.getElem?_map, List.getElem?_range hr]; rfl
  rw [List.getElem?_map] at h
  cases hw : ws[r]? with
  | none => rw [hw] at h; cases h
  | some q =>
    rw [hw] at h
    obtain ⟨a, e⟩ := q
    cases h
    exact ⟨e, rfl⟩
theorem z_ad_inj {A : Nat → Prop} {ws : va_W} {ad : Nat → Nat} (hl : ws.map (fun q => q.1) = (List.range 63).map ad) (hD : va_D A ws) (hb : ¬ A (ad 63)) : z_inj ad ∧ (∀ r, r < 63 → A (ad r)) := by
  have hA : ∀ r, r < 63 → A (ad r) := fun r hr => by
    obtain ⟨e, h⟩ := z_ad_at hl hr
    exact hD.2 r _ h
  refine ⟨fun a c ha hc h => ?_, hA⟩
  rcases Nat.lt_or_ge a 63 with h1 | h1
  · rcases Nat.lt_or_ge c 63 with h2 | h2
    · obtain ⟨e1, g1⟩ := z_ad_at hl h1
      obtain ⟨e2, g2⟩ := z_ad_at hl h2
      exact hD.1 a c _ _ g1 g2 h
    · obtain rfl : c = 63 := by omega
      exact absurd (h ▸ hA a h1) hb
  · obtain rfl : a = 63 := by omega
    rcases Nat.lt_or_ge c 63 with h2 | h2
    · exact absurd (h.symm ▸ hA c h2) hb
    · omega
