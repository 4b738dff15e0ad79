theorem z_toInt_ne {x k : Int32} (h : x ≠ k) : x.toInt ≠ k.toInt := fun e => h (Int32.toInt_inj.mp e)
theorem x_lk2 {i : zM} {d pc len : Nat} {ls st : List Value} {σ : zS} {Q : Option Value → zS → Prop} {x : Int32} {dflt K1 o1 K2 o2 : Int} {k1 k2 : Int32} {p0 p1 p2 : Nat} (hd : decode i.2.1 pc = .ok (.lookupswitch dflt #[(K1, o1), (K2, o2)], len)) (s1 : K1 < K2) (e1 : k1.toInt = K1) (e2 : k2.toInt = K2) (t1 : (pc : Int) + o1 = (p1 : Int)) (t2 : (pc : Int) + o2 = (p2 : Int)) (t0 : (pc : Int) + dflt = (p0 : Int)) (g1 : x = k1 → z_At i d p1 ls st σ Q) (g2 : x = k2 → z_At i d p2 ls st σ Q) (g0 : x ≠ k1 → x ≠ k2 → z_At i d p0 ls st σ Q) : z_At i d pc ls (.int x :: st) σ Q := by
  by_cases c1 : x = k1
  · refine x_lookup hd (by simp [s1]) (off := o1) ?_ t1 (g1 c1)
    simp [Op.lookupswitch.offset, c1, e1]
  by_cases c2 : x = k2
  · refine x_lookup hd (by simp [s1]) (off := o2) ?_ t2 (g2 c2)
    have n1 : ¬ K1 = K2 := by omega
    simp [Op.lookupswitch.offset, c2, e2, n1]
  have n1 : ¬ K1 = x.toInt := fun h => c1 (Int32.toInt_inj.mp (by rw [e1]; exact h.symm))
  have n2 : ¬ K2 = x.toInt := fun h => c2 (Int32.toInt_inj.mp (by rw [e2]; exact h.symm))
  refine x_lookup hd (by simp [s1]) (off := dflt) ?_ t0 (g0 c1 c2)
  simp [Op.lookupswitch.offset, n1, n2]
theorem x_lk3 {i : zM} {d pc len : Nat} {ls st : List Value} {σ : zS} {Q : Option Value → zS → Prop} {x : Int32} {dflt K1 o1 K2 o2 K3 o3 : Int} {k1 k2 k3 : Int32} {p0 p1 p2 p3 : Nat} (hd : decode i.2.1 pc = .ok (.lookupswitch dflt #[(K1, o1), (K2, o2), (K3, o3)], len)) (s1 : K1 < K2) (s2 : K2 < K3) (e1 : k1.toInt = K1) (e2 : k2.toInt = K2) (e3 : k3.toInt = K3) (t1 : (pc : Int) + o1 = (p1 : Int)) (t2 : (pc : Int) + o2 = (p2 : Int)) (t3 : (pc : Int) + o3 = (p3 : Int)) (t0 : (pc : Int) + dflt = (p0 : Int)) (g1 : x = k1 → z_At i d p1 ls st σ Q) (g2 : x = k2 → z_At i d p2 ls st σ Q) (g3 : x = k3 → z_At i d p3 ls st σ Q) (g0 : x ≠ k1 → x ≠ k2 → x ≠ k3 → z_At i d p0 ls st σ Q) : z_At i d pc ls (.int x :: st) σ Q := by
  by_cases c1 : x = k1
  · refine x_lookup hd (by simp [s1, s2]) (off := o1) ?_ t1 (g1 c1)
    simp [Op.lookupswitch.offset, c1, e1]
  by_cases c2 : x = k2
  · refine x_lookup hd (by simp [s1, s2]) (off := o2) ?_ t2 (g2 c2)
    have n1 : ¬ K1 = K2 := by omega
    simp [Op.lookupswitch.offset, c2, e2, n1]
  by_cases c3 : x = k3
  · refine x_lookup hd (by simp [s1, s2]) (off := o3) ?_ t3 (g3 c3)
    have n1 : ¬ K1 = K3 := by omega
    have n2 : ¬ K2 = K3 := by omega
    simp [Op.lookupswitch.offset, c3, e3, n1, n2]
  have n1 : ¬ K1 = x.toInt := fun h => c1 (Int32.toInt_inj.mp (by rw [e1]; exact h.symm))
  have n2 : ¬ K2 = x.toInt := fun h => c2 (Int32.toInt_inj.mp (by rw [e2]; exact h.symm))
  have n3 : ¬ K3 = x.toInt := fun h => c3 (Int32.toInt_inj.mp (by rw [e3]; exact h.symm))
  refine x_lookup hd (by simp [s1, s2]) (off := dflt) ?_ t0 (g0 c1 c2 c3)
  simp [Op.lookupswitch.offset, n1, n2, n3]
theorem x_tbl {i : zM} {d pc len : Nat} {ls st : List Value} {σ : zS} {Q : Option Value → zS → Prop} {x : Int32} {dflt lo hi : Int} {offs : Array Int} {p0 : Nat} (f : Nat → Nat) (hd : decode i.2.1 pc = .ok (.tableswitch dflt lo hi offs, len)) (hsz : (offs.size : Int) = hi - lo + 1) (hf : ∀ k, k < offs.size → (offs[k]?).map (fun o => (pc : Int) + o) = some ((f k : Nat) : Int)) (t0 : (pc : Int) + dflt = (p0 : Int)) (g : ∀ k, k < offs.size → x.toInt = lo + k → z_At i d (f k) ls st σ Q) (g0 : x.toInt < lo ∨ hi < x.toInt → z_At i d p0 ls st σ Q) : z_At i d pc ls (.int x :: st) σ Q := by
  by_cases c1 : x.toInt < lo ∨ hi < x.toInt
  · exact x_tableOut hd c1 t0 (g0 c1)
  · have hk : (x.toInt - lo).toNat < offs.size := by omega
    have h1 := hf _ hk
    cases ho : offs[(x.toInt - lo).toNat]? with
    | none => rw [ho] at h1; cases h1
    | some o =>
      rw [ho] at h1
      exact x_tableIn hd (by omega) (by omega) ho (Option.some.inj h1) (g _ hk (by omega))
theorem z_of_toInt {x k : Int32} (h : x.toInt = k.toInt) : x = k := Int32.toInt_inj.mp h
