theorem sh_0 : z_shp 0 = (0, 5, [(2, 1), (2, 7), (2, 13), (2, 22), (2, 26), (2, 31), (2, 42), (0, 0), (0, 0), (0, 0), (0, 0), (0, 0), (0, 0), (0, 0)]) := rfl
theorem sh_1 : z_shp 1 = (0, 0, [(0, 0), (0, 0), (0, 0), (2, 2), (2, 3), (2, 4), (0, 0), (2, 5), (2, 6)]) := rfl
theorem sh_2 : z_shp 2 = (1, 3, []) := rfl
theorem sh_3 : z_shp 3 = (1, 3, []) := rfl
theorem sh_4 : z_shp 4 = (2, 3, []) := rfl
theorem sh_5 : z_shp 5 = (1, 4, []) := rfl
theorem sh_6 : z_shp 6 = (1, 4, []) := rfl
theorem sh_7 : z_shp 7 = (0, 0, [(0, 0), (0, 0), (0, 0), (2, 8), (2, 9), (2, 10), (0, 0), (2, 11), (2, 12)]) := rfl
theorem sh_8 : z_shp 8 = (1, 3, []) := rfl
theorem sh_9 : z_shp 9 = (1, 3, []) := rfl
theorem sh_10 : z_shp 10 = (2, 3, []) := rfl
theorem sh_11 : z_shp 11 = (1, 4, []) := rfl
theorem sh_12 : z_shp 12 = (1, 4, []) := rfl
theorem sh_13 : z_shp 13 = (3, 4, []) := rfl
theorem sh_14 : z_shp 14 = (0, 3, [(0, 0), (0, 0), (2, 18)]) := rfl
theorem sh_15 : z_shp 15 = (0, 3, [(0, 0), (0, 0), (2, 19)]) := rfl
theorem sh_16 : z_shp 16 = (0, 3, [(0, 0), (0, 0), (2, 20)]) := rfl
theorem sh_17 : z_shp 17 = (0, 3, [(0, 0), (0, 0), (2, 21)]) := rfl
theorem sh_18 : z_shp 18 = (1, 60, []) := rfl
theorem sh_19 : z_shp 19 = (1, 60, []) := rfl
theorem sh_20 : z_shp 20 = (1, 60, []) := rfl
theorem sh_21 : z_shp 21 = (1, 60, []) := rfl
theorem sh_22 : z_shp 22 = (0, 1, [(0, 0), (2, 23), (2, 24), (2, 25)]) := rfl
theorem sh_23 : z_shp 23 = (1, 8, []) := rfl
theorem sh_24 : z_shp 24 = (1, 8, []) := rfl
theorem sh_25 : z_shp 25 = (1, 8, []) := rfl
theorem sh_26 : z_shp 26 = (0, 4, [(0, 0), (2, 27), (2, 28), (2, 29), (2, 30), (0, 0), (0, 0), (1, 0), (1, 0)]) := rfl
theorem sh_27 : z_shp 27 = (1, 18, []) := rfl
theorem sh_28 : z_shp 28 = (1, 18, []) := rfl
theorem sh_29 : z_shp 29 = (1, 19, []) := rfl
theorem sh_30 : z_shp 30 = (1, 4, []) := rfl
theorem sh_31 : z_shp 31 = (0, 2, [(0, 0), (0, 0), (0, 0), (0, 0), (2, 32), (2, 33), (2, 34), (2, 35), (2, 36), (2, 37), (0, 0), (0, 0), (2, 38), (2, 39), (2, 40), (2, 41)]) := rfl
theorem sh_32 : z_shp 32 = (2, 16, []) := rfl
theorem sh_33 : z_shp 33 = (2, 16, []) := rfl
theorem sh_34 : z_shp 34 = (1, 16, []) := rfl
theorem sh_35 : z_shp 35 = (1, 96, []) := rfl
theorem sh_36 : z_shp 36 = (1, 1024, []) := rfl
theorem sh_37 : z_shp 37 = (1, 1024, []) := rfl
theorem sh_38 : z_shp 38 = (1, 32, []) := rfl
theorem sh_39 : z_shp 39 = (1, 1024, []) := rfl
theorem sh_40 : z_shp 40 = (1, 1024, []) := rfl
theorem sh_41 : z_shp 41 = (1, 1024, []) := rfl
theorem sh_42 : z_shp 42 = (1, 1024, []) := rfl
theorem sh_43 : z_shp 43 = (0, 6, [(0, 0), (0, 0), (2, 44), (2, 45), (2, 46), (0, 0), (0, 0), (0, 0), (0, 0), (2, 47), (2, 48), (2, 49), (2, 50), (2, 51), (0, 0), (0, 0), (0, 0), (0, 0), (0, 0), (2, 52), (2, 53), (0, 0), (2, 54), (2, 55), (2, 56), (2, 57), (0, 0), (0, 0), (1, 0), (1, 0), (2, 58), (2, 59), (0, 0), (0, 0), (0, 0), (2, 60), (2, 61), (2, 62)]) := rfl
theorem sh_44 : z_shp 44 = (1, 4, []) := rfl
theorem sh_45 : z_shp 45 = (1, 4, []) := rfl
theorem sh_46 : z_shp 46 = (1, 240, []) := rfl
theorem sh_47 : z_shp 47 = (1, 3, []) := rfl
theorem sh_48 : z_shp 48 = (1, 3, []) := rfl
theorem sh_49 : z_shp 49 = (2, 3, []) := rfl
theorem sh_50 : z_shp 50 = (1, 4, []) := rfl
theorem sh_51 : z_shp 51 = (1, 4, []) := rfl
theorem sh_52 : z_shp 52 = (1, 6, []) := rfl
theorem sh_53 : z_shp 53 = (1, 8, []) := rfl
theorem sh_54 : z_shp 54 = (1, 18, []) := rfl
theorem sh_55 : z_shp 55 = (1, 18, []) := rfl
theorem sh_56 : z_shp 56 = (1, 18, []) := rfl
theorem sh_57 : z_shp 57 = (1, 18, []) := rfl
theorem sh_58 : z_shp 58 = (1, 1024, []) := rfl
theorem sh_59 : z_shp 59 = (1, 1024, []) := rfl
theorem sh_60 : z_shp 60 = (1, 8, []) := rfl
theorem sh_61 : z_shp 61 = (1, 8, []) := rfl
theorem sh_62 : z_shp 62 = (1, 8, []) := rfl
def z_isP (r : Nat) : Prop := r = 1 ∨ r = 7
def z_isS (r : Nat) : Prop := r = 14 ∨ r = 15 ∨ r = 16 ∨ r = 17
theorem z_isS_of {x : Int32} (h : vp_in x 4) : z_isS (14 + x.toNatClampNeg) := by
  have : x.toNatClampNeg < 4 := Nat.not_le.mp fun q => h (Or.inr q)
  unfold z_isS
  omega
theorem sh_P {r : Nat} (h : z_isP r) : z_shp r = (0, 0, [(0, 0), (0, 0), (0, 0), (2, r + 1), (2, r + 2), (2, r + 3), (0, 0), (2, r + 4), (2, r + 5)]) := by rcases h with rfl | rfl <;> rfl
theorem sh_P1 {r : Nat} (h : z_isP r) : z_shp (r + 1) = (1, 3, []) := by rcases h with rfl | rfl <;> rfl
theorem sh_P2 {r : Nat} (h : z_isP r) : z_shp (r + 2) = (1, 3, []) := by rcases h with rfl | rfl <;> rfl
theorem sh_P3 {r : Nat} (h : z_isP r) : z_shp (r + 3) = (2, 3, []) := by rcases h with rfl | rfl <;> rfl
theorem sh_P4 {r : Nat} (h : z_isP r) : z_shp (r + 4) = (1, 4, []) := by rcases h with rfl | rfl <;> rfl
theorem sh_P5 {r : Nat} (h : z_isP r) : z_shp (r + 5) = (1, 4, []) := by rcases h with rfl | rfl <;> rfl
theorem sh_S {r : Nat} (h : z_isS r) : z_shp r = (0, 3, [(0, 0), (0, 0), (2, r + 4)]) := by rcases h with rfl | rfl | rfl | rfl <;> rfl
theorem sh_S1 {r : Nat} (h : z_isS r) : z_shp (r + 4) = (1, 60, []) := by rcases h with rfl | rfl | rfl | rfl <;> rfl
/-! contracts that are functions: one answer, one state behind it -/
def z_Fn (j : zM) (d : Nat) (as : List Value) (σ : zS) (v : Value) (τ : zS) : Prop := z_Ex j d as σ (fun rv σ' => rv = some v ∧ σ' = τ)
def z_Pr (j : zM) (d : Nat) (as : List Value) (σ τ : zS) : Prop := z_Ex j d as σ (fun rv σ' => rv = none ∧ σ' = τ)
def z_b (c : Bool) : Int32 := if c then 1 else 0
theorem z_b01 (c : Bool) : z_b c = 0 ∨ z_b c = 1 := by cases c <;> simp [z_b]
theorem z_b0 {c : Bool} : z_b c = 0 ↔ c = false := by cases c <;> simp [z_b]
theorem z_b1 {c : Bool} : z_b c = 1 ↔ c = true := by cases c <;> simp [z_b]
theorem z_bn0 {c : Bool} : ¬ z_b c = 0 ↔ c = true := by cases c <;> simp [z_b]
theorem z_inc1 (x : Int32) : x + Int32.ofInt 1 = x + 1 := rfl
theorem z_inc2 (x : Int32) : x + Int32.ofInt 2 = x + 2 := rfl
theorem z_inc7 (x : Int32) : x + Int32.ofInt 7 = x + 7 := rfl
theorem z_incm1 (x : Int32) : x + Int32.ofInt (-1) = x + (-1) := rfl
theorem x_cV0 {i j : zM} {d pc idx r ci : Nat} {ls st : List Value} {σ : zS} {Q : Option Value → zS → Prop} {ks : List (Nat × Nat)} {T : u_T} {N : Nat}  (hj : z_LmV j 0) (hk : Cond.methodLink i.1.cls idx j.1 ∈ lw_tbl) (hs : z_shp r = (0, ci, ks)) (hcl : vwCl[ci]? = some (j.1.cls, T, N)) (hst : (st.map fun v => v.category).sum ≤ 8) (hd : decode i.2.1 pc = .ok (.invokevirtual idx, 3)) (h : z_Ex j d [.ref r] σ (fun rv σ' => z_At i (d + 1) (pc + 3) ls (rv.toList ++ st) σ' Q)) : z_At i (d + 1) pc ls (.ref r :: st) σ Q := x_callV (as := []) hj hk hs hcl rfl hst hd h
theorem x_fV0 {i j : zM} {d pc idx r ci : Nat} {ls st : List Value} {σ : zS} {Q : Option Value → zS → Prop} {ks : List (Nat × Nat)} {T : u_T} {N : Nat}  {pc2 : Nat} {v : Value} {τ : zS} (hj : z_LmV j 0) (hk : Cond.methodLink i.1.cls idx j.1 ∈ lw_tbl) (hs : z_shp r = (0, ci, ks)) (hcl : vwCl[ci]? = some (j.1.cls, T, N)) (hst : (st.map fun v => v.category).sum ≤ 8) (hd : decode i.2.1 pc = .ok (.invokevirtual idx, 3)) (hp : pc + 3 = pc2) (hf : z_Fn j d [.ref r] σ v τ) (h : z_At i (d + 1) pc2 ls (v :: st) τ Q) : z_At i (d + 1) pc ls (.ref r :: st) σ Q := by
  subst hp
  exact x_cV0 hj hk hs hcl hst hd (hf.mono (fun rv σ' hh => by obtain ⟨rfl, rfl⟩ := hh; exact h))
theorem x_pV0 {i j : zM} {d pc idx r ci : Nat} {ls st : List Value} {σ : zS} {Q : Option Value → zS → Prop} {ks : List (Nat × Nat)} {T : u_T} {N : Nat}  {pc2 : Nat} {τ : zS} (hj : z_LmV j 0) (hk : Cond.methodLink i.1.cls idx j.1 ∈ lw_tbl) (hs : z_shp r = (0, ci, ks)) (hcl : vwCl[ci]? = some (j.1.cls, T, N)) (hst : (st.map fun v => v.category).sum ≤ 8) (hd : decode i.2.1 pc = .ok (.invokevirtual idx, 3)) (hp : pc + 3 = pc2) (hf : z_Pr j d [.ref r] σ τ) (h : z_At i (d + 1) pc2 ls st τ Q) : z_At i (d + 1) pc ls (.ref r :: st) σ Q := by
  subst hp
  exact x_cV0 hj hk hs hcl hst hd (hf.mono (fun rv σ' hh => by obtain ⟨rfl, rfl⟩ := hh; exact h))
theorem x_cS0 {i j : zM} {d pc idx : Nat} {ls st : List Value} {σ : zS} {Q : Option Value → zS → Prop}  (hj : z_LmS j 0) (hk : Cond.methodLink i.1.cls idx j.1 ∈ lw_tbl) (hst : (st.map fun v => v.category).sum ≤ 8) (hd : decode i.2.1 pc = .ok (.invokestatic idx, 3)) (h : z_Ex j d [] σ (fun rv σ' => z_At i (d + 1) (pc + 3) ls (rv.toList ++ st) σ' Q)) : z_At i (d + 1) pc ls (st) σ Q := x_callS (as := []) hj hk rfl hst hd h
theorem x_fS0 {i j : zM} {d pc idx : Nat} {ls st : List Value} {σ : zS} {Q : Option Value → zS → Prop}  {pc2 : Nat} {v : Value} {τ : zS} (hj : z_LmS j 0) (hk : Cond.methodLink i.1.cls idx j.1 ∈ lw_tbl) (hst : (st.map fun v => v.category).sum ≤ 8) (hd : decode i.2.1 pc = .ok (.invokestatic idx, 3)) (hp : pc + 3 = pc2) (hf : z_Fn j d [] σ v τ) (h : z_At i (d + 1) pc2 ls (v :: st) τ Q) : z_At i (d + 1) pc ls (st) σ Q := by
  subst hp
  exact x_cS0 hj hk hst hd (hf.mono (fun rv σ' hh => by obtain ⟨rfl, rfl⟩ := hh; exact h))
theorem x_pS0 {i j : zM} {d pc idx : Nat} {ls st : List Value} {σ : zS} {Q : Option Value → zS → Prop}  {pc2 : Nat} {τ : zS} (hj : z_LmS j 0) (hk : Cond.methodLink i.1.cls idx j.1 ∈ lw_tbl) (hst : (st.map fun v => v.category).sum ≤ 8) (hd : decode i.2.1 pc = .ok (.invokestatic idx, 3)) (hp : pc + 3 = pc2) (hf : z_Pr j d [] σ τ) (h : z_At i (d + 1) pc2 ls st τ Q) : z_At i (d + 1) pc ls (st) σ Q := by
  subst hp
  exact x_cS0 hj hk hst hd (hf.mono (fun rv σ' hh => by obtain ⟨rfl, rfl⟩ := hh; exact h))
theorem x_cV1 {i j : zM} {d pc idx r ci : Nat} {ls st : List Value} {σ : zS} {Q : Option Value → zS → Prop} {ks : List (Nat × Nat)} {T : u_T} {N : Nat} {b1 : Value} (hj : z_LmV j 1) (hk : Cond.methodLink i.1.cls idx j.1 ∈ lw_tbl) (hs : z_shp r = (0, ci, ks)) (hcl : vwCl[ci]? = some (j.1.cls, T, N)) (hst : (st.map fun v => v.category).sum ≤ 8) (hd : decode i.2.1 pc = .ok (.invokevirtual idx, 3)) (h : z_Ex j d [.ref r, b1] σ (fun rv σ' => z_At i (d + 1) (pc + 3) ls (rv.toList ++ st) σ' Q)) : z_At i (d + 1) pc ls (b1 :: .ref r :: st) σ Q := x_callV (as := [b1]) hj hk hs hcl rfl hst hd h
theorem x_fV1 {i j : zM} {d pc idx r ci : Nat} {ls st : List Value} {σ : zS} {Q : Option Value → zS → Prop} {ks : List (Nat × Nat)} {T : u_T} {N : Nat} {b1 : Value} {pc2 : Nat} {v : Value} {τ : zS} (hj : z_LmV j 1) (hk : Cond.methodLink i.1.cls idx j.1 ∈ lw_tbl) (hs : z_shp r = (0, ci, ks)) (hcl : vwCl[ci]? = some (j.1.cls, T, N)) (hst : (st.map fun v => v.category).sum ≤ 8) (hd : decode i.2.1 pc = .ok (.invokevirtual idx, 3)) (hp : pc + 3 = pc2) (hf : z_Fn j d [.ref r, b1] σ v τ) (h : z_At i (d + 1) pc2 ls (v :: st) τ Q) : z_At i (d + 1) pc ls (b1 :: .ref r :: st) σ Q := by
  subst hp
  exact x_cV1 hj hk hs hcl hst hd (hf.mono (fun rv σ' hh => by obtain ⟨rfl, rfl⟩ := hh; exact h))
theorem x_pV1 {i j : zM} {d pc idx r ci : Nat} {ls st : List Value} {σ : zS} {Q : Option Value → zS → Prop} {ks : List (Nat × Nat)} {T : u_T} {N : Nat} {b1 : Value} {pc2 : Nat} {τ : zS} (hj : z_LmV j 1) (hk : Cond.methodLink i.1.cls idx j.1 ∈ lw_tbl) (hs : z_shp r = (0, ci, ks)) (hcl : vwCl[ci]? = some (j.1.cls, T, N)) (hst : (st.map fun v => v.category).sum ≤ 8) (hd : decode i.2.1 pc = .ok (.invokevirtual idx, 3)) (hp : pc + 3 = pc2) (hf : z_Pr j d [.ref r, b1] σ τ) (h : z_At i (d + 1) pc2 ls st τ Q) : z_At i (d + 1) pc ls (b1 :: .ref r :: st) σ Q := by
  subst hp
  exact x_cV1 hj hk hs hcl hst hd (hf.mono (fun rv σ' hh => by obtain ⟨rfl, rfl⟩ := hh; exact h))
theorem x_cS1 {i j : zM} {d pc idx : Nat} {ls st : List Value} {σ : zS} {Q : Option Value → zS → Prop} {b1 : Value} (hj : z_LmS j 1) (hk : Cond.methodLink i.1.cls idx j.1 ∈ lw_tbl) (hst : (st.map fun v => v.category).sum ≤ 8) (hd : decode i.2.1 pc = .ok (.invokestatic idx, 3)) (h : z_Ex j d [b1] σ (fun rv σ' => z_At i (d + 1) (pc + 3) ls (rv.toList ++ st) σ' Q)) : z_At i (d + 1) pc ls (b1 :: st) σ Q := x_callS (as := [b1]) hj hk rfl hst hd h
theorem x_fS1 {i j : zM} {d pc idx : Nat} {ls st : List Value} {σ : zS} {Q : Option Value → zS → Prop} {b1 : Value} {pc2 : Nat} {v : Value} {τ : zS} (hj : z_LmS j 1) (hk : Cond.methodLink i.1.cls idx j.1 ∈ lw_tbl) (hst : (st.map fun v => v.category).sum ≤ 8) (hd : decode i.2.1 pc = .ok (.invokestatic idx, 3)) (hp : pc + 3 = pc2) (hf : z_Fn j d [b1] σ v τ) (h : z_At i (d + 1) pc2 ls (v :: st) τ Q) : z_At i (d + 1) pc ls (b1 :: st) σ Q := by
  subst hp
  exact x_cS1 hj hk hst hd (hf.mono (fun rv σ' hh => by obtain ⟨rfl, rfl⟩ := hh; exact h))
theorem x_pS1 {i j : zM} {d pc idx : Nat} {ls st : List Value} {σ : zS} {Q : Option Value → zS → Prop} {b1 : Value} {pc2 : Nat} {τ : zS} (hj : z_LmS j 1) (hk : Cond.methodLink i.1.cls idx j.1 ∈ lw_tbl) (hst : (st.map fun v => v.category).sum ≤ 8) (hd : decode i.2.1 pc = .ok (.invokestatic idx, 3)) (hp : pc + 3 = pc2) (hf : z_Pr j d [b1] σ τ) (h : z_At i (d + 1) pc2 ls st τ Q) : z_At i (d + 1) pc ls (b1 :: st) σ Q := by
  subst hp
  exact x_cS1 hj hk hst hd (hf.mono (fun rv σ' hh => by obtain ⟨rfl, rfl⟩ := hh; exact h))
theorem x_cV2 {i j : zM} {d pc idx r ci : Nat} {ls st : List Value} {σ : zS} {Q : Option Value → zS → Prop} {ks : List (Nat × Nat)} {T : u_T} {N : Nat} {b1 b2 : Value} (hj : z_LmV j 2) (hk : Cond.methodLink i.1.cls idx j.1 ∈ lw_tbl) (hs : z_shp r = (0, ci, ks)) (hcl : vwCl[ci]? = some (j.1.cls, T, N)) (hst : (st.map fun v => v.category).sum ≤ 8) (hd : decode i.2.1 pc = .ok (.invokevirtual idx, 3)) (h : z_Ex j d [.ref r, b1, b2] σ (fun rv σ' => z_At i (d + 1) (pc + 3) ls (rv.toList ++ st) σ' Q)) : z_At i (d + 1) pc ls (b2 :: b1 :: .ref r :: st) σ Q := x_callV (as := [b1, b2]) hj hk hs hcl rfl hst hd h
theorem x_fV2 {i j : zM} {d pc idx r ci : Nat} {ls st : List Value} {σ : zS} {Q : Option Value → zS → Prop} {ks : List (Nat × Nat)} {T : u_T} {N : Nat} {b1 b2 : Value} {pc2 : Nat} {v : Value} {τ : zS} (hj : z_LmV j 2) (hk : Cond.methodLink i.1.cls idx j.1 ∈ lw_tbl) (hs : z_shp r = (0, ci, ks)) (hcl : vwCl[ci]? = some (j.1.cls, T, N)) (hst : (st.map fun v => v.category).sum ≤ 8) (hd : decode i.2.1 pc = .ok (.invokevirtual idx, 3)) (hp : pc + 3 = pc2) (hf : z_Fn j d [.ref r, b1, b2] σ v τ) (h : z_At i (d + 1) pc2 ls (v :: st) τ Q) : z_At i (d + 1) pc ls (b2 :: b1 :: .ref r :: st) σ Q := by
  subst hp
  exact x_cV2 hj hk hs hcl hst hd (hf.mono (fun rv σ' hh => by obtain ⟨rfl, rfl⟩ := hh; exact h))
theorem x_pV2 {i j : zM} {d pc idx r ci : Nat} {ls st : List Value} {σ : zS} {Q : Option Value → zS → Prop} {ks : List (Nat × Nat)} {T : u_T} {N : Nat} {b1 b2 : Value} {pc2 : Nat} {τ : zS} (hj : z_LmV j 2) (hk : Cond.methodLink i.1.cls idx j.1 ∈ lw_tbl) (hs : z_shp r = (0, ci, ks)) (hcl : vwCl[ci]? = some (j.1.cls, T, N)) (hst : (st.map fun v => v.category).sum ≤ 8) (hd : decode i.2.1 pc = .ok (.invokevirtual idx, 3)) (hp : pc + 3 = pc2) (hf : z_Pr j d [.ref r, b1, b2] σ τ) (h : z_At i (d + 1) pc2 ls st τ Q) : z_At i (d + 1) pc ls (b2 :: b1 :: .ref r :: st) σ Q := by
  subst hp
  exact x_cV2 hj hk hs hcl hst hd (hf.mono (fun rv σ' hh => by obtain ⟨rfl, rfl⟩ := hh; exact h))
theorem x_cS2 {i j : zM} {d pc idx : Nat} {ls st : List Value} {σ : zS} {Q : Option Value → zS → Prop} {b1 b2 : Value} (hj : z_LmS j 2) (hk : Cond.methodLink i.1.cls idx j.1 ∈ lw_tbl) (hst : (st.map fun v => v.category).sum ≤ 8) (hd : decode i.2.1 pc = .ok (.invokestatic idx, 3)) (h : z_Ex j d [b1, b2] σ (fun rv σ' => z_At i (d + 1) (pc + 3) ls (rv.toList ++ st) σ' Q)) : z_At i (d + 1) pc ls (b2 :: b1 :: st) σ Q := x_callS (as := [b1, b2]) hj hk rfl hst hd h
theorem x_fS2 {i j : zM} {d pc idx : Nat} {ls st : List Value} {σ : zS} {Q : Option Value → zS → Prop} {b1 b2 : Value} {pc2 : Nat} {v : Value} {τ : zS} (hj : z_LmS j 2) (hk : Cond.methodLink i.1.cls idx j.1 ∈ lw_tbl) (hst : (st.map fun v => v.category).sum ≤ 8) (hd : decode i.2.1 pc = .ok (.invokestatic idx, 3)) (hp : pc + 3 = pc2) (hf : z_Fn j d [b1, b2] σ v τ) (h : z_At i (d + 1) pc2 ls (v :: st) τ Q) : z_At i (d + 1) pc ls (b2 :: b1 :: st) σ Q := by
  subst hp
  exact x_cS2 hj hk hst hd (hf.mono (fun rv σ' hh => by obtain ⟨rfl, rfl⟩ := hh; exact h))
theorem x_pS2 {i j : zM} {d pc idx : Nat} {ls st : List Value} {σ : zS} {Q : Option Value → zS → Prop} {b1 b2 : Value} {pc2 : Nat} {τ : zS} (hj : z_LmS j 2) (hk : Cond.methodLink i.1.cls idx j.1 ∈ lw_tbl) (hst : (st.map fun v => v.category).sum ≤ 8) (hd : decode i.2.1 pc = .ok (.invokestatic idx, 3)) (hp : pc + 3 = pc2) (hf : z_Pr j d [b1, b2] σ τ) (h : z_At i (d + 1) pc2 ls st τ Q) : z_At i (d + 1) pc ls (b2 :: b1 :: st) σ Q := by
  subst hp
  exact x_cS2 hj hk hst hd (hf.mono (fun rv σ' hh => by obtain ⟨rfl, rfl⟩ := hh; exact h))
theorem x_cV3 {i j : zM} {d pc idx r ci : Nat} {ls st : List Value} {σ : zS} {Q : Option Value → zS → Prop} {ks : List (Nat × Nat)} {T : u_T} {N : Nat} {b1 b2 b3 : Value} (hj : z_LmV j 3) (hk : Cond.methodLink i.1.cls idx j.1 ∈ lw_tbl) (hs : z_shp r = (0, ci, ks)) (hcl : vwCl[ci]? = some (j.1.cls, T, N)) (hst : (st.map fun v => v.category).sum ≤ 8) (hd : decode i.2.1 pc = .ok (.invokevirtual idx, 3)) (h : z_Ex j d [.ref r, b1, b2, b3] σ (fun rv σ' => z_At i (d + 1) (pc + 3) ls (rv.toList ++ st) σ' Q)) : z_At i (d + 1) pc ls (b3 :: b2 :: b1 :: .ref r :: st) σ Q := x_callV (as := [b1, b2, b3]) hj hk hs hcl rfl hst hd h
theorem x_fV3 {i j : zM} {d pc idx r ci : Nat} {ls st : List Value} {σ : zS} {Q : Option Value → zS → Prop} {ks : List (Nat × Nat)} {T : u_T} {N : Nat} {b1 b2 b3 : Value} {pc2 : Nat} {v : Value} {τ : zS} (hj : z_LmV j 3) (hk : Cond.methodLink i.1.cls idx j.1 ∈ lw_tbl) (hs : z_shp r = (0, ci, ks)) (hcl : vwCl[ci]? = some (j.1.cls, T, N)) (hst : (st.map fun v => v.category).sum ≤ 8) (hd : decode i.2.1 pc = .ok (.invokevirtual idx, 3)) (hp : pc + 3 = pc2) (hf : z_Fn j d [.ref r, b1, b2, b3] σ v τ) (h : z_At i (d + 1) pc2 ls (v :: st) τ Q) : z_At i (d + 1) pc ls (b3 :: b2 :: b1 :: .ref r :: st) σ Q := by
  subst hp
  exact x_cV3 hj hk hs hcl hst hd (hf.mono (fun rv σ' hh => by obtain ⟨rfl, rfl⟩ := hh; exact h))
theorem x_pV3 {i j : zM} {d pc idx r ci : Nat} {ls st : List Value} {σ : zS} {Q : Option Value → zS → Prop} {ks : List (Nat × Nat)} {T : u_T} {N : Nat} {b1 b2 b3 : Value} {pc2 : Nat} {τ : zS} (hj : z_LmV j 3) (hk : Cond.methodLink i.1.cls idx j.1 ∈ lw_tbl) (hs : z_shp r = (0, ci, ks)) (hcl : vwCl[ci]? = some (j.1.cls, T, N)) (hst : (st.map fun v => v.category).sum ≤ 8) (hd : decode i.2.1 pc = .ok (.invokevirtual idx, 3)) (hp : pc + 3 = pc2) (hf : z_Pr j d [.ref r, b1, b2, b3] σ τ) (h : z_At i (d + 1) pc2 ls st τ Q) : z_At i (d + 1) pc ls (b3 :: b2 :: b1 :: .ref r :: st) σ Q := by
  subst hp
  exact x_cV3 hj hk hs hcl hst hd (hf.mono (fun rv σ' hh => by obtain ⟨rfl, rfl⟩ := hh; exact h))
theorem x_cS3 {i j : zM} {d pc idx : Nat} {ls st : List Value} {σ : zS} {Q : Option Value → zS → Prop} {b1 b2 b3 : Value} (hj : z_LmS j 3) (hk : Cond.methodLink i.1.cls idx j.1 ∈ lw_tbl) (hst : (st.map fun v => v.category).sum ≤ 8) (hd : decode i.2.1 pc = .ok (.invokestatic idx, 3)) (h : z_Ex j d [b1, b2, b3] σ (fun rv σ' => z_At i (d + 1) (pc + 3) ls (rv.toList ++ st) σ' Q)) : z_At i (d + 1) pc ls (b3 :: b2 :: b1 :: st) σ Q := x_callS (as := [b1, b2, b3]) hj hk rfl hst hd h
theorem x_fS3 {i j : zM} {d pc idx : Nat} {ls st : List Value} {σ : zS} {Q : Option Value → zS → Prop} {b1 b2 b3 : Value} {pc2 : Nat} {v : Value} {τ : zS} (hj : z_LmS j 3) (hk : Cond.methodLink i.1.cls idx j.1 ∈ lw_tbl) (hst : (st.map fun v => v.category).sum ≤ 8) (hd : decode i.2.1 pc = .ok (.invokestatic idx, 3)) (hp : pc + 3 = pc2) (hf : z_Fn j d [b1, b2, b3] σ v τ) (h : z_At i (d + 1) pc2 ls (v :: st) τ Q) : z_At i (d + 1) pc ls (b3 :: b2 :: b1 :: st) σ Q := by
  subst hp
  exact x_cS3 hj hk hst hd (hf.mono (fun rv σ' hh => by obtain ⟨rfl, rfl⟩ := hh; exact h))
theorem x_pS3 {i j : zM} {d pc idx : Nat} {ls st : List Value} {σ : zS} {Q : Option Value → zS → Prop} {b1 b2 b3 : Value} {pc2 : Nat} {τ : zS} (hj : z_LmS j 3) (hk : Cond.methodLink i.1.cls idx j.1 ∈ lw_tbl) (hst : (st.map fun v => v.category).sum ≤ 8) (hd : decode i.2.1 pc = .ok (.invokestatic idx, 3)) (hp : pc + 3 = pc2) (hf : z_Pr j d [b1, b2, b3] σ τ) (h : z_At i (d + 1) pc2 ls st τ Q) : z_At i (d + 1) pc ls (b3 :: b2 :: b1 :: st) σ Q := by
  subst hp
  exact x_cS3 hj hk hst hd (hf.mono (fun rv σ' hh => by obtain ⟨rfl, rfl⟩ := hh; exact h))
theorem x_cV4 {i j : zM} {d pc idx r ci : Nat} {ls st : List Value} {σ : zS} {Q : Option Value → zS → Prop} {ks : List (Nat × Nat)} {T : u_T} {N : Nat} {b1 b2 b3 b4 : Value} (hj : z_LmV j 4) (hk : Cond.methodLink i.1.cls idx j.1 ∈ lw_tbl) (hs : z_shp r = (0, ci, ks)) (hcl : vwCl[ci]? = some (j.1.cls, T, N)) (hst : (st.map fun v => v.category).sum ≤ 8) (hd : decode i.2.1 pc = .ok (.invokevirtual idx, 3)) (h : z_Ex j d [.ref r, b1, b2, b3, b4] σ (fun rv σ' => z_At i (d + 1) (pc + 3) ls (rv.toList ++ st) σ' Q)) : z_At i (d + 1) pc ls (b4 :: b3 :: b2 :: b1 :: .ref r :: st) σ Q := x_callV (as := [b1, b2, b3, b4]) hj hk hs hcl rfl hst hd h
theorem x_fV4 {i j : zM} {d pc idx r ci : Nat} {ls st : List Value} {σ : zS} {Q : Option Value → zS → Prop} {ks : List (Nat × Nat)} {T : u_T} {N : Nat} {b1 b2 b3 b4 : Value} {pc2 : Nat} {v : Value} {τ : zS} (hj : z_LmV j 4) (hk : Cond.methodLink i.1.cls idx j.1 ∈ lw_tbl) (hs : z_shp r = (0, ci, ks)) (hcl : vwCl[ci]? = some (j.1.cls, T, N)) (hst : (st.map fun v => v.category).sum ≤ 8) (hd : decode i.2.1 pc = .ok (.invokevirtual idx, 3)) (hp : pc + 3 = pc2) (hf : z_Fn j d [.ref r, b1, b2, b3, b4] σ v τ) (h : z_At i (d + 1) pc2 ls (v :: st) τ Q) : z_At i (d + 1) pc ls (b4 :: b3 :: b2 :: b1 :: .ref r :: st) σ Q := by
  subst hp
  exact x_cV4 hj hk hs hcl hst hd (hf.mono (fun rv σ' hh => by obtain ⟨rfl, rfl⟩ := hh; exact h))
theorem x_pV4 {i j : zM} {d pc idx r ci : Nat} {ls st : List Value} {σ : zS} {Q : Option Value → zS → Prop} {ks : List (Nat × Nat)} {T : u_T} {N : Nat} {b1 b2 b3 b4 : Value} {pc2 : Nat} {τ : zS} (hj : z_LmV j 4) (hk : Cond.methodLink i.1.cls idx j.1 ∈ lw_tbl) (hs : z_shp r = (0, ci, ks)) (hcl : vwCl[ci]? = some (j.1.cls, T, N)) (hst : (st.map fun v => v.category).sum ≤ 8) (hd : decode i.2.1 pc = .ok (.invokevirtual idx, 3)) (hp : pc + 3 = pc2) (hf : z_Pr j d [.ref r, b1, b2, b3, b4] σ τ) (h : z_At i (d + 1) pc2 ls st τ Q) : z_At i (d + 1) pc ls (b4 :: b3 :: b2 :: b1 :: .ref r :: st) σ Q := by
  subst hp
  exact x_cV4 hj hk hs hcl hst hd (hf.mono (fun rv σ' hh => by obtain ⟨rfl, rfl⟩ := hh; exact h))
theorem x_cS4 {i j : zM} {d pc idx : Nat} {ls st : List Value} {σ : zS} {Q : Option Value → zS → Prop} {b1 b2 b3 b4 : Value} (hj : z_LmS j 4) (hk : Cond.methodLink i.1.cls idx j.1 ∈ lw_tbl) (hst : (st.map fun v => v.category).sum ≤ 8) (hd : decode i.2.1 pc = .ok (.invokestatic idx, 3)) (h : z_Ex j d [b1, b2, b3, b4] σ (fun rv σ' => z_At i (d + 1) (pc + 3) ls (rv.toList ++ st) σ' Q)) : z_At i (d + 1) pc ls (b4 :: b3 :: b2 :: b1 :: st) σ Q := x_callS (as := [b1, b2, b3, b4]) hj hk rfl hst hd h
theorem x_fS4 {i j : zM} {d pc idx : Nat} {ls st : List Value} {σ : zS} {Q : Option Value → zS → Prop} {b1 b2 b3 b4 : Value} {pc2 : Nat} {v : Value} {τ : zS} (hj : z_LmS j 4) (hk : Cond.methodLink i.1.cls idx j.1 ∈ lw_tbl) (hst : (st.map fun v => v.category).sum ≤ 8) (hd : decode i.2.1 pc = .ok (.invokestatic idx, 3)) (hp : pc + 3 = pc2) (hf : z_Fn j d [b1, b2, b3, b4] σ v τ) (h : z_At i (d + 1) pc2 ls (v :: st) τ Q) : z_At i (d + 1) pc ls (b4 :: b3 :: b2 :: b1 :: st) σ Q := by
  subst hp
  exact x_cS4 hj hk hst hd (hf.mono (fun rv σ' hh => by obtain ⟨rfl, rfl⟩ := hh; exact h))
theorem x_pS4 {i j : zM} {d pc idx : Nat} {ls st : List Value} {σ : zS} {Q : Option Value → zS → Prop} {b1 b2 b3 b4 : Value} {pc2 : Nat} {τ : zS} (hj : z_LmS j 4) (hk : Cond.methodLink i.1.cls idx j.1 ∈ lw_tbl) (hst : (st.map fun v => v.category).sum ≤ 8) (hd : decode i.2.1 pc = .ok (.invokestatic idx, 3)) (hp : pc + 3 = pc2) (hf : z_Pr j d [b1, b2, b3, b4] σ τ) (h : z_At i (d + 1) pc2 ls st τ Q) : z_At i (d + 1) pc ls (b4 :: b3 :: b2 :: b1 :: st) σ Q := by
  subst hp
  exact x_cS4 hj hk hst hd (hf.mono (fun rv σ' hh => by obtain ⟨rfl, rfl⟩ := hh; exact h))
theorem x_cV5 {i j : zM} {d pc idx r ci : Nat} {ls st : List Value} {σ : zS} {Q : Option Value → zS → Prop} {ks : List (Nat × Nat)} {T : u_T} {N : Nat} {b1 b2 b3 b4 b5 : Value} (hj : z_LmV j 5) (hk : Cond.methodLink i.1.cls idx j.1 ∈ lw_tbl) (hs : z_shp r = (0, ci, ks)) (hcl : vwCl[ci]? = some (j.1.cls, T, N)) (hst : (st.map fun v => v.category).sum ≤ 8) (hd : decode i.2.1 pc = .ok (.invokevirtual idx, 3)) (h : z_Ex j d [.ref r, b1, b2, b3, b4, b5] σ (fun rv σ' => z_At i (d + 1) (pc + 3) ls (rv.toList ++ st) σ' Q)) : z_At i (d + 1) pc ls (b5 :: b4 :: b3 :: b2 :: b1 :: .ref r :: st) σ Q := x_callV (as := [b1, b2, b3, b4, b5]) hj hk hs hcl rfl hst hd h
theorem x_fV5 {i j : zM} {d pc idx r ci : Nat} {ls st : List Value} {σ : zS} {Q : Option Value → zS → Prop} {ks : List (Nat × Nat)} {T : u_T} {N : Nat} {b1 b2 b3 b4 b5 : Value} {pc2 : Nat} {v : Value} {τ : zS} (hj : z_LmV j 5) (hk : Cond.methodLink i.1.cls idx j.1 ∈ lw_tbl) (hs : z_shp r = (0, ci, ks)) (hcl : vwCl[ci]? = some (j.1.cls, T, N)) (hst : (st.map fun v => v.category).sum ≤ 8) (hd : decode i.2.1 pc = .ok (.invokevirtual idx, 3)) (hp : pc + 3 = pc2) (hf : z_Fn j d [.ref r, b1, b2, b3, b4, b5] σ v τ) (h : z_At i (d + 1) pc2 ls (v :: st) τ Q) : z_At i (d + 1) pc ls (b5 :: b4 :: b3 :: b2 :: b1 :: .ref r :: st) σ Q := by
  subst hp
  exact x_cV5 hj hk hs hcl hst hd (hf.mono (fun rv σ' hh => by obtain ⟨rfl, rfl⟩ := hh; exact h))
theorem x_pV5 {i j : zM} {d pc idx r ci : Nat} {ls st : List Value} {σ : zS} {Q : Option Value → zS → Prop} {ks : List (Nat × Nat)} {T : u_T} {N : Nat} {b1 b2 b3 b4 b5 : Value} {pc2 : Nat} {τ : zS} (hj : z_LmV j 5) (hk : Cond.methodLink i.1.cls idx j.1 ∈ lw_tbl) (hs : z_shp r = (0, ci, ks)) (hcl : vwCl[ci]? = some (j.1.cls, T, N)) (hst : (st.map fun v => v.category).sum ≤ 8) (hd : decode i.2.1 pc = .ok (.invokevirtual idx, 3)) (hp : pc + 3 = pc2) (hf : z_Pr j d [.ref r, b1, b2, b3, b4, b5] σ τ) (h : z_At i (d + 1) pc2 ls st τ Q) : z_At i (d + 1) pc ls (b5 :: b4 :: b3 :: b2 :: b1 :: .ref r :: st) σ Q := by
  subst hp
  exact x_cV5 hj hk hs hcl hst hd (hf.mono (fun rv σ' hh => by obtain ⟨rfl, rfl⟩ := hh; exact h))
theorem x_cS5 {i j : zM} {d pc idx : Nat} {ls st : List Value} {σ : zS} {Q : Option Value → zS → Prop} {b1 b2 b3 b4 b5 : Value} (hj : z_LmS j 5) (hk : Cond.methodLink i.1.cls idx j.1 ∈ lw_tbl) (hst : (st.map fun v => v.category).sum ≤ 8) (hd : decode i.2.1 pc = .ok (.invokestatic idx, 3)) (h : z_Ex j d [b1, b2, b3, b4, b5] σ (fun rv σ' => z_At i (d + 1) (pc + 3) ls (rv.toList ++ st) σ' Q)) : z_At i (d + 1) pc ls (b5 :: b4 :: b3 :: b2 :: b1 :: st) σ Q := x_callS (as := [b1, b2, b3, b4, b5]) hj hk rfl hst hd h
theorem x_fS5 {i j : zM} {d pc idx : Nat} {ls st : List Value} {σ : zS} {Q : Option Value → zS → Prop} {b1 b2 b3 b4 b5 : Value} {pc2 : Nat} {v : Value} {τ : zS} (hj : z_LmS j 5) (hk : Cond.methodLink i.1.cls idx j.1 ∈ lw_tbl) (hst : (st.map fun v => v.category).sum ≤ 8) (hd : decode i.2.1 pc = .ok (.invokestatic idx, 3)) (hp : pc + 3 = pc2) (hf : z_Fn j d [b1, b2, b3, b4, b5] σ v τ) (h : z_At i (d + 1) pc2 ls (v :: st) τ Q) : z_At i (d + 1) pc ls (b5 :: b4 :: b3 :: b2 :: b1 :: st) σ Q := by
  subst hp
  exact x_cS5 hj hk hst hd (hf.mono (fun rv σ' hh => by obtain ⟨rfl, rfl⟩ := hh; exact h))
theorem x_pS5 {i j : zM} {d pc idx : Nat} {ls st : List Value} {σ : zS} {Q : Option Value → zS → Prop} {b1 b2 b3 b4 b5 : Value} {pc2 : Nat} {τ : zS} (hj : z_LmS j 5) (hk : Cond.methodLink i.1.cls idx j.1 ∈ lw_tbl) (hst : (st.map fun v => v.category).sum ≤ 8) (hd : decode i.2.1 pc = .ok (.invokestatic idx, 3)) (hp : pc + 3 = pc2) (hf : z_Pr j d [b1, b2, b3, b4, b5] σ τ) (h : z_At i (d + 1) pc2 ls st τ Q) : z_At i (d + 1) pc ls (b5 :: b4 :: b3 :: b2 :: b1 :: st) σ Q := by
  subst hp
  exact x_cS5 hj hk hst hd (hf.mono (fun rv σ' hh => by obtain ⟨rfl, rfl⟩ := hh; exact h))
theorem x_cV6 {i j : zM} {d pc idx r ci : Nat} {ls st : List Value} {σ : zS} {Q : Option Value → zS → Prop} {ks : List (Nat × Nat)} {T : u_T} {N : Nat} {b1 b2 b3 b4 b5 b6 : Value} (hj : z_LmV j 6) (hk : Cond.methodLink i.1.cls idx j.1 ∈ lw_tbl) (hs : z_shp r = (0, ci, ks)) (hcl : vwCl[ci]? = some (j.1.cls, T, N)) (hst : (st.map fun v => v.category).sum ≤ 8) (hd : decode i.2.1 pc = .ok (.invokevirtual idx, 3)) (h : z_Ex j d [.ref r, b1, b2, b3, b4, b5, b6] σ (fun rv σ' => z_At i (d + 1) (pc + 3) ls (rv.toList ++ st) σ' Q)) : z_At i (d + 1) pc ls (b6 :: b5 :: b4 :: b3 :: b2 :: b1 :: .ref r :: st) σ Q := x_callV (as := [b1, b2, b3, b4, b5, b6]) hj hk hs hcl rfl hst hd h
theorem x_fV6 {i j : zM} {d pc idx r ci : Nat} {ls st : List Value} {σ : zS} {Q : Option Value → zS → Prop} {ks : List (Nat × Nat)} {T : u_T} {N : Nat} {b1 b2 b3 b4 b5 b6 : Value} {pc2 : Nat} {v : Value} {τ : zS} (hj : z_LmV j 6) (hk : Cond.methodLink i.1.cls idx j.1 ∈ lw_tbl) (hs : z_shp r = (0, ci, ks)) (hcl : vwCl[ci]? = some (j.1.cls, T, N)) (hst : (st.map fun v => v.category).sum ≤ 8) (hd : decode i.2.1 pc = .ok (.invokevirtual idx, 3)) (hp : pc + 3 = pc2) (hf : z_Fn j d [.ref r, b1, b2, b3, b4, b5, b6] σ v τ) (h : z_At i (d + 1) pc2 ls (v :: st) τ Q) : z_At i (d + 1) pc ls (b6 :: b5 :: b4 :: b3 :: b2 :: b1 :: .ref r :: st) σ Q := by
  subst hp
  exact x_cV6 hj hk hs hcl hst hd (hf.mono (fun rv σ' hh => by obtain ⟨rfl, rfl⟩ := hh; exact h))
theorem x_pV6 {i j : zM} {d pc idx r ci : Nat} {ls st : List Value} {σ : zS} {Q : Option Value → zS → Prop} {ks : List (Nat × Nat)} {T : u_T} {N : Nat} {b1 b2 b3 b4 b5 b6 : Value} {pc2 : Nat} {τ : zS} (hj : z_LmV j 6) (hk : Cond.methodLink i.1.cls idx j.1 ∈ lw_tbl) (hs : z_shp r = (0, ci, ks)) (hcl : vwCl[ci]? = some (j.1.cls, T, N)) (hst : (st.map fun v => v.category).sum ≤ 8) (hd : decode i.2.1 pc = .ok (.invokevirtual idx, 3)) (hp : pc + 3 = pc2) (hf : z_Pr j d [.ref r, b1, b2, b3, b4, b5, b6] σ τ) (h : z_At i (d + 1) pc2 ls st τ Q) : z_At i (d + 1) pc ls (b6 :: b5 :: b4 :: b3 :: b2 :: b1 :: .ref r :: st) σ Q := by
  subst hp
  exact x_cV6 hj hk hs hcl hst hd (hf.mono (fun rv σ' hh => by obtain ⟨rfl, rfl⟩ := hh; exact h))
theorem x_cS6 {i j : zM} {d pc idx : Nat} {ls st : List Value} {σ : zS} {Q : Option Value → zS → Prop} {b1 b2 b3 b4 b5 b6 : Value} (hj : z_LmS j 6) (hk : Cond.methodLink i.1.cls idx j.1 ∈ lw_tbl) (hst : (st.map fun v => v.category).sum ≤ 8) (hd : decode i.2.1 pc = .ok (.invokestatic idx, 3)) (h : z_Ex j d [b1, b2, b3, b4, b5, b6] σ (fun rv σ' => z_At i (d + 1) (pc + 3) ls (rv.toList ++ st) σ' Q)) : z_At i (d + 1) pc ls (b6 :: b5 :: b4 :: b3 :: b2 :: b1 :: st) σ Q := x_callS (as := [b1, b2, b3, b4, b5, b6]) hj hk rfl hst hd h
theorem x_fS6 {i j : zM} {d pc idx : Nat} {ls st : List Value} {σ : zS} {Q : Option Value → zS → Prop} {b1 b2 b3 b4 b5 b6 : Value} {pc2 : Nat} {v : Value} {τ : zS} (hj : z_LmS j 6) (hk : Cond.methodLink i.1.cls idx j.1 ∈ lw_tbl) (hst : (st.map fun v => v.category).sum ≤ 8) (hd : decode i.2.1 pc = .ok (.invokestatic idx, 3)) (hp : pc + 3 = pc2) (hf : z_Fn j d [b1, b2, b3, b4, b5, b6] σ v τ) (h : z_At i (d + 1) pc2 ls (v :: st) τ Q) : z_At i (d + 1) pc ls (b6 :: b5 :: b4 :: b3 :: b2 :: b1 :: st) σ Q := by
  subst hp
  exact x_cS6 hj hk hst hd (hf.mono (fun rv σ' hh => by obtain ⟨rfl, rfl⟩ := hh; exact h))
theorem x_pS6 {i j : zM} {d pc idx : Nat} {ls st : List Value} {σ : zS} {Q : Option Value → zS → Prop} {b1 b2 b3 b4 b5 b6 : Value} {pc2 : Nat} {τ : zS} (hj : z_LmS j 6) (hk : Cond.methodLink i.1.cls idx j.1 ∈ lw_tbl) (hst : (st.map fun v => v.category).sum ≤ 8) (hd : decode i.2.1 pc = .ok (.invokestatic idx, 3)) (hp : pc + 3 = pc2) (hf : z_Pr j d [b1, b2, b3, b4, b5, b6] σ τ) (h : z_At i (d + 1) pc2 ls st τ Q) : z_At i (d + 1) pc ls (b6 :: b5 :: b4 :: b3 :: b2 :: b1 :: st) σ Q := by
  subst hp
  exact x_cS6 hj hk hst hd (hf.mono (fun rv σ' hh => by obtain ⟨rfl, rfl⟩ := hh; exact h))
