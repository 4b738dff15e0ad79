/-! the class's search made ready: strides, moves, minutes -/
def sD (x : Nat) : Nat → Nat
  | 0 => 1
  | n + 1 => if x.testBit n then sD x n + 4 ^ (n + 1) else sD x n
theorem gs_up {a n p : Nat} (hn : n < 4) (h : gd a n = p) : gs a n (p + 1) = a + 4 ^ (n + 1) := by
  rcases (show n = 0 ∨ n = 1 ∨ n = 2 ∨ n = 3 by omega) with rfl | rfl | rfl | rfl <;> simp only [gs, gd, Nat.reducePow, Nat.reduceAdd] at h ⊢ <;> omega
theorem gs_dn {a n p : Nat} (hn : n < 4) (h : gd a n = p + 1) : gs a n p + 4 ^ (n + 1) = a := by
  rcases (show n = 0 ∨ n = 1 ∨ n = 2 ∨ n = 3 by omega) with rfl | rfl | rfl | rfl <;> simp only [gs, gd, Nat.reducePow, Nat.reduceAdd] at h ⊢ <;> omega
theorem gG_upS {s x p : Nat} (hp : s % 4 = p) (hp3 : p + 1 < 4) (hb : ∀ t, t < 4 → x.testBit t = true → gd s t = p) : ∀ n ≤ 4, gG s (p + 1) x n = s + sD x n
  | 0, _ => by rw [gG, sD]; omega
  | n + 1, h => by
    have ih := gG_upS hp hp3 hb n (by omega)
    rw [gG, sD]
    by_cases c : x.testBit n
    · have e : gd (gG s (p + 1) x n) n = p := by
        rw [gG_gd hp3 n (by omega) n (by omega), if_neg (by omega)]
        exact hb n (by omega) c
      rw [if_pos c, if_pos c, gs_up (by omega) e, ih]
      omega
    · rw [if_neg c, if_neg c, ih]
theorem gG_dnS {s x p : Nat} (hp : s % 4 = p + 1) (hb : ∀ t, t < 4 → x.testBit t = true → gd s t = p + 1) : ∀ n ≤ 4, gG s p x n + sD x n = s
  | 0, _ => by rw [gG, sD]; omega
  | n + 1, h => by
    have ih := gG_dnS hp hb n (by omega)
    rw [gG, sD]
    by_cases c : x.testBit n
    · have e : gd (gG s p x n) n = p + 1 := by
        rw [gG_gd (by omega) n (by omega) n (by omega), if_neg (by omega)]
        exact hb n (by omega) c
      have := gs_dn (by omega) e
      rw [if_pos c, if_pos c]
      omega
    · rw [if_neg c, if_neg c, ih]
theorem gb_top : ∀ K < 5, ∀ x < 2 ^ K, ∀ t < 4, K ≤ t → x.testBit t = false := by decide +kernel
theorem sD_top {x K : Nat} (hK : K ≤ 4) (hx : x < 2 ^ K) : ∀ n, K ≤ n → n ≤ 4 → sD x n = sD x K
  | 0, h, _ => by rw [show K = 0 by omega]
  | n + 1, h, h4 => by
    by_cases e : K = n + 1
    · rw [e]
    · rw [sD, gb_top K (by omega) x hx n (by omega) (by omega), if_neg (by decide), sD_top hK hx n (by omega) (by omega)]
theorem sD_lt {x : Nat} : ∀ n ≤ 4, sD x n < 1024
  | 0, _ => by rw [sD]; decide
  | 1, _ => by rw [sD, sD]; split <;> decide
  | 2, _ => by rw [sD, sD, sD]; split <;> split <;> decide
  | 3, _ => by rw [sD, sD, sD, sD]; split <;> split <;> split <;> decide
  | 4, _ => by rw [sD, sD, sD, sD, sD]; split <;> split <;> split <;> split <;> decide
  | n + 5, h => by omega
def eX : Option Nat → Int32
  | none => -1
  | some s => nI s
def nB (b : Bool) (v : Nat) : Nat := if b then 1 else v
def nGb (c : zG) (b : Bool) : zX := (nX c, fun s mv m => nB b (nT c s mv m))
theorem nGb_f (c : zG) : nGb c false = nG c := rfl
theorem nGb_t (c : zG) : nGb c true = nG1 c := rfl
theorem nGb_gr {c : zG} (hc : gWf c) : ∀ b, pGr (nGb c b)
  | false => nG_gr hc
  | true => nG1_gr hc
theorem sB_nX {c : zG} (hc : gWf c) {s mv : Nat} (hs : s < 1024) (hsN : s % 4 ≤ cN c) (hm : mv < 32) : sB (gGo c) (gSt c) (fun x => sD x (cK c)) (cN c) s (gHr c s) mv = eX (nX c s mv) := by
  have hx : mv % 16 < 16 := Nat.mod_lt _ (by decide)
  have hh : gHr c s < 16 := gH_16 _ _ _ hc.1
  have hN := hc.2.1
  unfold sB
  by_cases c1 : (mv < 16 ∧ s % 4 = 0) ∨ (¬ mv < 16 ∧ s % 4 = cN c) ∨ mv % 16 &&& (15 - gHr c s) ≠ 0
  · rw [if_pos c1, nX_no]
    · rfl
    · rw [← Bool.not_eq_true]
      intro q
      have q1 := gOk_v q
      unfold gOk at q
      simp only [Bool.and_eq_true, decide_eq_true_eq] at q
      have q2 := q.2.2.1
      unfold nV at q1
      rcases c1 with c1 | c1 | c1
      · rw [if_pos c1.1] at q1; omega
      · rw [if_neg c1.1] at q1; omega
      · exact c1 q2
  · rw [if_neg c1]
    have d1 : ¬ (mv < 16 ∧ s % 4 = 0) := fun q => c1 (Or.inl q)
    have d2 : ¬ (¬ mv < 16 ∧ s % 4 = cN c) := fun q => c1 (Or.inr (Or.inl q))
    have d3 : mv % 16 &&& (15 - gHr c s) = 0 := Classical.not_not.mp (fun q => c1 (Or.inr (Or.inr q)))
    by_cases c2 : gGo c (mv % 16) = false ∨ gSt c (gHr c s &&& (15 - mv % 16)) = false
    · rw [if_pos c2, nX_no]
      · rfl
      · rw [← Bool.not_eq_true]
        intro q
        unfold gOk at q
        simp only [Bool.and_eq_true] at q
        rcases c2 with c2 | c2
        · rw [q.2.2.2.1] at c2; cases c2
        · rw [q.2.2.2.2] at c2; cases c2
    · rw [if_neg c2]
      have f1 : gGo c (mv % 16) = true := by
        cases e : gGo c (mv % 16) with
        | true => rfl
        | false => exact absurd (Or.inl e) c2
      have f2 : gSt c (gHr c s &&& (15 - mv % 16)) = true := by
        cases e : gSt c (gHr c s &&& (15 - mv % 16)) with
        | true => rfl
        | false => exact absurd (Or.inr e) c2
      have hok : gOk c s (nV s mv) (mv % 16) = true := by
        unfold gOk
        rw [f1, f2, d3]
        unfold nV
        by_cases e : mv < 16
        · rw [if_pos e, decide_eq_true (show s % 4 - 1 ≤ cN c by omega), decide_eq_true (show s % 4 - 1 + 1 = s % 4 by omega)]
          simp
        · rw [if_neg e, decide_eq_true (show s % 4 + 1 ≤ cN c by omega)]
          simp
      have hxK := gOk_x hc.1 hx hok
      have hb : ∀ t, t < 4 → (mv % 16).testBit t = true → gd s t = s % 4 := by
        intro t ht hbit
        have := gb_sub (mv % 16) hx (gHr c s) hh d3 t ht hbit
        unfold gHr at this
        rw [gH_bit] at this
        simp only [Bool.and_eq_true, decide_eq_true_eq] at this
        exact this.2.2
      rw [nX_of hsN hok]
      show _ = nI (gG s (nV s mv) (mv % 16) 4)
      have htop := sD_top hc.1 hxK 4 hc.1 (by decide)
      unfold nV
      by_cases e : mv < 16
      · rw [if_pos e, if_pos e]
        have := gG_dnS (s := s) (x := mv % 16) (p := s % 4 - 1) (by omega) (fun t ht h => by rw [hb t ht h]; omega) 4 (by decide)
        rw [show (fun x => sD x (cK c)) (mv % 16) = sD (mv % 16) (cK c) from rfl, ← htop, show gG s (s % 4 - 1) (mv % 16) 4 = s - sD (mv % 16) 4 by omega]
        exact (Int32.ofNat_sub (a := s) (b := sD (mv % 16) 4) (by omega)).symm
      · rw [if_neg e, if_neg e]
        have := gG_upS (s := s) (x := mv % 16) (p := s % 4) rfl (by omega) hb 4 (by decide)
        rw [show (fun x => sD x (cK c)) (mv % 16) = sD (mv % 16) (cK c) from rfl, ← htop, this, z_nIadd]
/-- the search's rows hold a portage's moves -/
def gSr (σ : zS) (c : zG) (b : Bool) : Prop := (σ.1 31 0 = nI (cK c) ∧ σ.1 31 1 = nI (cN c) ∧ σ.1 31 2 = nI (nE c) ∧ σ.1 31 3 = (if cR c = -9 then nI 1000000 else cR c)) ∧ (∀ x, x < 2 ^ cK c → σ.1 32 x = z_b (gGo c x) ∧ σ.1 33 x = z_b (gSt c x) ∧ σ.1 34 x = nI (sD x (cK c))) ∧ (∀ k, k < cN c → ∀ x, x < 2 ^ cK c → σ.1 35 (k * 16 + x) = nI (nB b (gTk c k x false)) ∧ σ.1 35 (48 + (k * 16 + x)) = nI (nB b (gTk c k x true)))
theorem gSr.of {σ τ : zS} {c : zG} {b : Bool} (h : gSr σ c b) (h1 : ∀ j, j < 4 → τ.1 31 j = σ.1 31 j) (h2 : ∀ q, 32 ≤ q → q < 36 → τ.1 q = σ.1 q) : gSr τ c b := by
  unfold gSr
  rw [h1 0 (by decide), h1 1 (by decide), h1 2 (by decide), h1 3 (by decide), h2 32 (by decide) (by decide), h2 33 (by decide) (by decide), h2 34 (by decide) (by decide), h2 35 (by decide) (by decide)]
  exact h
theorem gH_9 {ms s p : Nat} (h : 4 ≤ ms) : ∀ n, n ≤ 4 → gH ms s p n = gH 9 s p n
  | 0, _ => rfl
  | n + 1, hn => by
    rw [gH, gH, gH_9 h n (by omega)]
    by_cases e : gd s n ≠ p
    · rw [if_pos (Or.inr e), if_pos (Or.inr e)]
    · rw [if_neg (by omega), if_neg (by omega)]
theorem s_here (d : Nat) {σ : zS} {c : zG} {b : Bool} (hc : gWf c) (h4 : 4 ≤ cM c) (hr : gSr σ c b) {s : Nat} (hs : s < 1024) : z_Fn mX2_thingsHere d [.ref 31, .int (nI s)] σ (.int (nI (gHr c s))) σ := by
  have := s_thingsHere d σ hs hr.1.1 hc.1
  rw [← gH_9 h4 (cK c) hc.1] at this
  exact this
theorem s_behind (d : Nat) {σ : zS} {c : zG} {b : Bool} (hc : gWf c) (hr : gSr σ c b) {s mv : Nat} (hs : s < 1024) (hsN : s % 4 ≤ cN c) (hm : mv < 32) : z_Fn mX2_stateBehind (d + 1) [.ref 31, .int (nI s), .int (nI (gHr c s)), .int (nI mv)] σ (.int (eX (nX c s mv))) σ := by
  have := s_stateBehind d σ (go := gGo c) (st := gSt c) (sd := fun x => sD x (cK c)) hs hc.1 (gH_lt (cM c) s (s % 4) (cK c)) hm hr.1.2.1 hc.2.1.1 hsN (fun x hx => (hr.2.1 x hx).1) (fun x hx => (hr.2.1 x hx).2.1) (fun x hx => (hr.2.1 x hx).2.2)
  rw [show gH (cM c) s (s % 4) (cK c) = gHr c s from rfl, sB_nX hc hs hsN hm] at this
  exact this
theorem gb_mul16 : ∀ k < 3, nI k * 16 = nI (k * 16) := by decide +kernel
theorem gb_48 : ∀ a < 48, (48 : Int32) + nI a = nI (48 + a) := by decide +kernel
theorem s_minutesOf (d : Nat) {σ : zS} {c : zG} {b : Bool} (hc : gWf c) (hr : gSr σ c b) {s mv m s' : Nat} (hs : s < 1024) (hm : mv < 32) (he : nX c s mv = some s') (hmm : m < 1000000) : z_Fn mX2_minutesOf (d + 1) [.ref 31, .int (nI s), .int (nI mv), .int (nI m)] σ (.int (nI ((nGb c b).2 s mv m))) σ := by
  have hx : mv % 16 < 16 := Nat.mod_lt _ (by decide)
  have hlt := nX_lt hc hs he
  have hxK := gOk_x hc.1 hx (nX_some he).2.1
  have hN := hc.2.1
  have hv := gOk_v (nX_some he).2.1
  have hgo : ∀ (wet : Bool) (wv : Nat), wv = (if wet then 48 else 0) → gWet c m = wet → z_At mX2_minutesOf (d + 1) 31 [.ref 31, .int (nI s), .int (nI mv), .int (nI m), .int (nI (nK s mv)), .null] [.int (nI wv)] σ (fun rv τ => rv = some (.int (nI ((nGb c b).2 s mv m))) ∧ τ = σ) := by
    intro wet wv hw hwet
    refine x_istore5 (pc2 := 33) dX2_minutesOf_31 rfl rfl ?_
    refine x_aload0 (pc2 := 34) dX2_minutesOf_33 rfl ?_
    refine x_getR (pc2 := 37) fX2_22 sh_31 rfl dX2_minutesOf_34 rfl ?_
    refine x_iload5 (pc2 := 39) dX2_minutesOf_37 rfl ?_
    refine x_iload4 (pc2 := 41) dX2_minutesOf_39 rfl ?_
    refine x_bipush (v := 16) (pc2 := 43) dX2_minutesOf_41 rfl (by decide) ?_
    refine x_imul (pc2 := 44) dX2_minutesOf_43 rfl ?_
    rw [gb_mul16 _ (by omega)]
    refine x_iadd (pc2 := 45) dX2_minutesOf_44 rfl ?_
    rw [z_nIadd]
    refine x_iload2 (pc2 := 46) dX2_minutesOf_45 rfl ?_
    refine x_bipush (v := 16) (pc2 := 48) dX2_minutesOf_46 rfl (by decide) ?_
    refine x_irem (pc2 := 49) dX2_minutesOf_48 rfl (by decide) ?_
    rw [gb_rem16 mv hm]
    refine x_iadd (pc2 := 50) dX2_minutesOf_49 rfl ?_
    rw [z_nIadd]
    have hwv : wv ≤ 48 := by rw [hw]; split <;> omega
    refine x_iald (pc2 := 51) sh_35 (by exact z_in (by omega)) dX2_minutesOf_50 rfl ?_
    rw [nI_clamp (by omega)]
    have ht := hr.2.2 (nK s mv) hlt.2.2.2 (mv % 16) hxK
    have e : σ.1 35 (wv + nK s mv * 16 + mv % 16) = nI ((nGb c b).2 s mv m) := by
      show _ = nI (nB b (gTk c (nK s mv) (mv % 16) (gWet c m)))
      rw [hwet]
      cases wet with
      | true => rw [hw, if_pos rfl, Nat.add_assoc]; exact ht.2
      | false => rw [hw, if_neg (by decide), Nat.zero_add]; exact ht.1
    rw [e]
    refine x_iret dX2_minutesOf_51 rfl ?_
    exact ⟨rfl, rfl⟩
  have hst : z_At mX2_minutesOf (d + 1) 15 [.ref 31, .int (nI s), .int (nI mv), .int (nI m), .null, .null] [.int (nI (nK s mv))] σ (fun rv τ => rv = some (.int (nI ((nGb c b).2 s mv m))) ∧ τ = σ) := by
    refine x_istore4 (pc2 := 17) dX2_minutesOf_15 rfl rfl ?_
    refine x_iload3 (pc2 := 18) dX2_minutesOf_17 rfl ?_
    refine x_aload0 (pc2 := 19) dX2_minutesOf_18 rfl ?_
    refine x_getI (pc2 := 22) fX2_79 sh_31 rfl dX2_minutesOf_19 rfl ?_
    rw [hr.1.2.2.2]
    have hwet : gWet c m = !decide (nI m < (if cR c = -9 then nI 1000000 else cR c)) := by
      unfold gWet z_rains
      by_cases e : cR c = -9
      · rw [if_pos e, decide_eq_true e, decide_eq_true ((nI_lt_iff (by omega) (by omega)).mpr hmm)]
        rfl
      · rw [if_neg e, decide_eq_false e]
        rfl
    refine x_icmp_lt (pc2 := 25) (pc3 := 30) dX2_minutesOf_22 rfl rfl (fun h22 => ?_) (fun h22 => ?_)
    · skip
      refine x_iconst (v := 0) (pc2 := 31) dX2_minutesOf_30 rfl (by decide) ?_
      exact hgo false 0 rfl (by rw [hwet, decide_eq_true h22]; rfl)
    · skip
      refine x_bipush (v := 48) (pc2 := 27) dX2_minutesOf_25 rfl (by decide) ?_
      refine x_goto (pc2 := 31) dX2_minutesOf_27 rfl ?_
      exact hgo true 48 rfl (by rw [hwet, decide_eq_false h22]; rfl)
  refine x_enter (by decide) (Nat.le_of_ble_eq_true rfl) ?_
  show z_At _ _ _ [.ref 31, .int (nI s), .int (nI mv), .int (nI m), .null, .null] _ _ _
  refine x_iload1 (pc2 := 1) dX2_minutesOf_0 rfl ?_
  refine x_iconst (v := 3) (pc2 := 2) dX2_minutesOf_1 rfl (by decide) ?_
  refine x_iand (pc2 := 3) dX2_minutesOf_2 rfl ?_
  rw [gb_spot s hs]
  refine x_iload2 (pc2 := 4) dX2_minutesOf_3 rfl ?_
  refine x_bipush (v := 16) (pc2 := 6) dX2_minutesOf_4 rfl (by decide) ?_
  refine x_icmp_ge (pc2 := 9) (pc3 := 13) dX2_minutesOf_6 rfl rfl (fun h6 => ?_) (fun h6 => ?_)
  · have h6 := (nI_le_iff (a := 16) (by omega) (by omega)).mp h6
    refine x_iconst (v := 0) (pc2 := 14) dX2_minutesOf_13 rfl (by decide) ?_
    refine x_isub (pc2 := 15) dX2_minutesOf_14 rfl ?_
    rw [show nI (s % 4) - 0 = nI (nK s mv) by
      rw [Int32.sub_zero]
      unfold nK nV
      rw [if_neg (by omega), Nat.min_eq_left (by omega)]]
    exact hst
  · have h6 : ¬ 16 ≤ mv := fun q => h6 ((nI_le_iff (a := 16) (by omega) (by omega)).mpr q)
    refine x_iconst (v := 1) (pc2 := 10) dX2_minutesOf_9 rfl (by decide) ?_
    refine x_goto (pc2 := 14) dX2_minutesOf_10 rfl ?_
    refine x_isub (pc2 := 15) dX2_minutesOf_14 rfl ?_
    rw [show nI (s % 4) - 1 = nI (nK s mv) by
      unfold nV at hv
      rw [if_pos (by omega)] at hv
      unfold nK nV
      rw [if_pos (by omega), Nat.min_eq_right (by omega)]
      exact (Int32.ofNat_sub (a := s % 4) (b := 1) (by omega)).symm]
    exact hst
