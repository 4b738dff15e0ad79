/-! a portage with a thing missing, and one that never had it -/
def ins (t s : Nat) : Nat := s % 4 ^ (t + 1) + s / 4 ^ (t + 1) * 4 ^ (t + 2)
def inb (t x : Nat) : Nat := x % 2 ^ t + x / 2 ^ t * 2 ^ (t + 1)
def skp (t j : Nat) : Nat := if j < t then j else j + 1
def cD (c : zG) (t : Nat) : zG := (cK c - 1, cN c, 9, fun j => cKd c (skp t j), fun j => cPd c (skp t j), cLn c, cMd c, cBd c, cB c, cR c)
theorem ins_lt {t s : Nat} (ht : t < 4) (hs : s < 256) : ins t s < 1024 := by
  rcases (show t = 0 ∨ t = 1 ∨ t = 2 ∨ t = 3 by omega) with rfl | rfl | rfl | rfl <;> simp only [ins, Nat.reducePow, Nat.reduceAdd] <;> omega
theorem ins_mod {t s : Nat} (ht : t < 4) : ins t s % 4 = s % 4 := by
  rcases (show t = 0 ∨ t = 1 ∨ t = 2 ∨ t = 3 by omega) with rfl | rfl | rfl | rfl <;> simp only [ins, Nat.reducePow, Nat.reduceAdd] <;> omega
theorem ins_inj {t s s' : Nat} (ht : t < 4) (h : ins t s = ins t s') : s = s' := by
  rcases (show t = 0 ∨ t = 1 ∨ t = 2 ∨ t = 3 by omega) with rfl | rfl | rfl | rfl <;> simp only [ins, Nat.reducePow, Nat.reduceAdd] at h <;> omega
theorem ins_gd' : ∀ t < 4, ∀ j < 4, ∀ s < 256, gd (ins t s) j = if j < t then gd s j else if j = t then 0 else gd s (j - 1) := by decide +kernel
theorem ins_gd {t s j : Nat} (ht : t < 4) (hj : j < 4) (hs : s < 256) : gd (ins t s) j = if j < t then gd s j else if j = t then 0 else gd s (j - 1) := ins_gd' t ht j hj s hs
theorem inb_lt : ∀ t < 4, ∀ x < 8, inb t x < 16 := by decide +kernel
theorem inb_bit : ∀ t < 4, ∀ x < 8, ∀ j < 4, (inb t x).testBit j = if j < t then x.testBit j else if j = t then false else x.testBit (j - 1) := by decide +kernel
theorem inb_sub : ∀ t < 4, ∀ x < 8, ∀ h < 8, (inb t x &&& (15 - inb t h) = 0 ↔ x &&& (15 - h) = 0) := by decide +kernel
theorem inb_cut : ∀ t < 4, ∀ x < 8, ∀ h < 8, inb t h &&& (15 - inb t x) = inb t (h &&& (15 - x)) := by decide +kernel
theorem inb_ex : ∀ t < 4, ∀ y < 16, y.testBit t = false → ∃ x, x < 8 ∧ y = inb t x := by
  have h : ∀ t < 4, ∀ y < 16, y.testBit t = false → y % 2 ^ t + y / 2 ^ (t + 1) * 2 ^ t < 8 ∧ y = inb t (y % 2 ^ t + y / 2 ^ (t + 1) * 2 ^ t) := by decide +kernel
  exact fun t ht y hy hb => ⟨_, h t ht y hy hb⟩
theorem inb_0 : ∀ t < 4, ∀ x < 8, (inb t x = 0 ↔ x = 0) := by decide +kernel
theorem gb_cut8 : ∀ x < 8, ∀ h < 8, h &&& (15 - x) < 8 := by decide +kernel
theorem gH_8 {ms s p K : Nat} (hK : K ≤ 3) : gH ms s p K < 8 := by
  have h1 := gH_lt ms s p K
  have h2 : 2 ^ K ≤ 2 ^ 3 := Nat.pow_le_pow_right (by decide) hK
  omega
theorem gH_ins {t s p K : Nat} (hK : K ≤ 4) (ht : t < K) (hs : s < 256) : gH t (ins t s) p K = inb t (gH 9 s p (K - 1)) := by
  have h8 : gH 9 s p (K - 1) < 8 := gH_8 (by omega)
  refine gb_ext _ (gH_16 _ _ _ hK) _ (inb_lt t (by omega) _ h8) (fun j hj => ?_)
  rw [gH_bit, inb_bit t (by omega) _ h8 j hj, gH_bit, gH_bit, ins_gd (by omega) hj hs]
  by_cases c1 : j < t
  · rw [if_pos c1, if_pos c1, decide_eq_true (show j < K by omega), decide_eq_true (show j < K - 1 by omega), decide_eq_false (show ¬ j = t by omega), decide_eq_false (show ¬ j = 9 by omega)]
  · rw [if_neg c1, if_neg c1]
    by_cases c2 : j = t
    · rw [if_pos c2, if_pos c2, decide_eq_true c2]
      simp
    · rw [if_neg c2, if_neg c2, decide_eq_false c2, decide_eq_false (show ¬ j - 1 = 9 by omega)]
      by_cases c3 : j < K
      · rw [decide_eq_true c3, decide_eq_true (show j - 1 < K - 1 by omega)]
      · rw [decide_eq_false c3, decide_eq_false (show ¬ j - 1 < K - 1 by omega), Bool.false_and]
theorem z_ld_s (P : Nat → Int32) (x : Int32) (n : Nat) : z_ld P x (n + 1) = if z_bit x (nI n) then z_ld P x n + P n else z_ld P x n := rfl
theorem z_ld_lo {P : Nat → Int32} {t x : Nat} (ht : t < 4) (hx : x < 8) : ∀ n, n ≤ t → z_ld P (nI (inb t x)) n = z_ld (fun j => P (skp t j)) (nI x) n
  | 0, _ => rfl
  | n + 1, h => by
    rw [z_ld_s, z_ld_s, z_ld_lo ht hx n (by omega), gb_bit _ (inb_lt t ht x hx) n (by omega), gb_bit x (by omega) n (by omega), inb_bit t ht x hx n (by omega), if_pos (show n < t by omega), show skp t n = n by unfold skp; rw [if_pos (by omega)]]
theorem z_ld_hi {P : Nat → Int32} {t x : Nat} (ht : t < 4) (hx : x < 8) : ∀ n, t ≤ n → n < 4 → z_ld P (nI (inb t x)) (n + 1) = z_ld (fun j => P (skp t j)) (nI x) n
  | 0, h, _ => by
    obtain rfl : t = 0 := by omega
    rw [z_ld_s P (nI (inb 0 x)) 0, gb_bit _ (inb_lt 0 (by omega) x hx) 0 (by omega), inb_bit 0 (by omega) x hx 0 (by omega), if_neg (by simp)]
    rfl
  | n + 1, h, h4 => by
    by_cases e : t = n + 1
    · subst e
      rw [z_ld_s P (nI (inb (n + 1) x)) (n + 1), z_ld_lo ht hx (n + 1) (Nat.le_refl _), gb_bit _ (inb_lt _ ht x hx) (n + 1) h4, inb_bit _ ht x hx (n + 1) h4, if_neg (Nat.lt_irrefl _), if_pos rfl, if_neg (by decide)]
    · rw [z_ld_s P (nI (inb t x)) (n + 1), z_ld_s _ (nI x) n, z_ld_hi ht hx n (by omega) (by omega), gb_bit _ (inb_lt _ ht x hx) (n + 1) h4, inb_bit _ ht x hx (n + 1) h4, if_neg (show ¬ n + 1 < t by omega), if_neg (show ¬ n + 1 = t by omega), gb_bit x (by omega) n (by omega), show skp t n = n + 1 by unfold skp; rw [if_neg (by omega)], Nat.add_sub_cancel]
theorem z_ld_ins {P : Nat → Int32} {t x K : Nat} (hK : K ≤ 4) (ht : t < K) (hx : x < 8) : z_ld P (nI (inb t x)) K = z_ld (fun j => P (skp t j)) (nI x) (K - 1) := by
  have := z_ld_hi (P := P) (show t < 4 by omega) hx (K - 1) (by omega) (by omega)
  rw [show K - 1 + 1 = K by omega] at this
  exact this
def gk3 (q j : Nat) : Int32 := nI (q / 3 ^ j % 3)
theorem gk3_w2 : ∀ q < 9, ∀ t < 2, ∀ y < 2, (z_wm (gk3 q) (nI (inb t y)) 2 2 = nI (inb t y) ↔ z_wm (fun j => gk3 q (skp t j)) (nI y) 1 1 = nI y) := by decide +kernel
theorem gk3_w3 : ∀ q < 27, ∀ t < 3, ∀ y < 4, (z_wm (gk3 q) (nI (inb t y)) 3 3 = nI (inb t y) ↔ z_wm (fun j => gk3 q (skp t j)) (nI y) 2 2 = nI y) := by decide +kernel
theorem gk3_w4 : ∀ q < 81, ∀ t < 4, ∀ y < 8, (z_wm (gk3 q) (nI (inb t y)) 4 4 = nI (inb t y) ↔ z_wm (fun j => gk3 q (skp t j)) (nI y) 3 3 = nI y) := by decide +kernel
theorem gk3_at {k : Int32} {a q j : Nat} (h : k = nI a) (e : q / 3 ^ j % 3 = a) : k = gk3 q j := by rw [h, ← e]; rfl
theorem kd3 {k : Int32} (h : k = 0 ∨ k = 1 ∨ k = 2) : ∃ a, a < 3 ∧ k = nI a := by
  rcases h with rfl | rfl | rfl
  · exact ⟨0, by decide, rfl⟩
  · exact ⟨1, by decide, rfl⟩
  · exact ⟨2, by decide, rfl⟩
theorem z_wm_ins {k : Nat → Int32} {t y K : Nat} (hK : K ≤ 4) (hK2 : 2 ≤ K) (ht : t < K) (hy : y < 2 ^ (K - 1)) (hk : ∀ j, j < K → k j = 0 ∨ k j = 1 ∨ k j = 2) : (z_wm k (nI (inb t y)) K K = nI (inb t y) ↔ z_wm (fun j => k (skp t j)) (nI y) (K - 1) (K - 1) = nI y) := by
  have hsk : ∀ j, j < K - 1 → skp t j < K := fun j hj => by unfold skp; split <;> omega
  rcases (show K = 2 ∨ K = 3 ∨ K = 4 by omega) with rfl | rfl | rfl
  · obtain ⟨a, ha, ea⟩ := kd3 (hk 0 (by omega))
    obtain ⟨b, hb, eb⟩ := kd3 (hk 1 (by omega))
    have e : ∀ j, j < 2 → k j = gk3 (a + 3 * b) j := fun j hj => by
      rcases (show j = 0 ∨ j = 1 by omega) with rfl | rfl
      · exact gk3_at ea (by simp only [Nat.reducePow]; omega)
      · exact gk3_at eb (by simp only [Nat.reducePow]; omega)
    rw [z_wm_congr e 2 (Nat.le_refl _), z_wm_congr (k' := fun j => gk3 (a + 3 * b) (skp t j)) (fun j hj => e _ (hsk j hj)) 1 (Nat.le_refl _)]
    exact gk3_w2 _ (by omega) t ht y hy
  · obtain ⟨a, ha, ea⟩ := kd3 (hk 0 (by omega))
    obtain ⟨b, hb, eb⟩ := kd3 (hk 1 (by omega))
    obtain ⟨c, hc, ec⟩ := kd3 (hk 2 (by omega))
    have e : ∀ j, j < 3 → k j = gk3 (a + 3 * b + 9 * c) j := fun j hj => by
      rcases (show j = 0 ∨ j = 1 ∨ j = 2 by omega) with rfl | rfl | rfl
      · exact gk3_at ea (by simp only [Nat.reducePow]; omega)
      · exact gk3_at eb (by simp only [Nat.reducePow]; omega)
      · exact gk3_at ec (by simp only [Nat.reducePow]; omega)
    rw [z_wm_congr e 3 (Nat.le_refl _), z_wm_congr (k' := fun j => gk3 (a + 3 * b + 9 * c) (skp t j)) (fun j hj => e _ (hsk j hj)) 2 (Nat.le_refl _)]
    exact gk3_w3 _ (by omega) t ht y hy
  · obtain ⟨a, ha, ea⟩ := kd3 (hk 0 (by omega))
    obtain ⟨b, hb, eb⟩ := kd3 (hk 1 (by omega))
    obtain ⟨c, hc, ec⟩ := kd3 (hk 2 (by omega))
    obtain ⟨d, hd, ed⟩ := kd3 (hk 3 (by omega))
    have e : ∀ j, j < 4 → k j = gk3 (a + 3 * b + 9 * c + 27 * d) j := fun j hj => by
      rcases (show j = 0 ∨ j = 1 ∨ j = 2 ∨ j = 3 by omega) with rfl | rfl | rfl | rfl
      · exact gk3_at ea (by simp only [Nat.reducePow]; omega)
      · exact gk3_at eb (by simp only [Nat.reducePow]; omega)
      · exact gk3_at ec (by simp only [Nat.reducePow]; omega)
      · exact gk3_at ed (by simp only [Nat.reducePow]; omega)
    rw [z_wm_congr e 4 (Nat.le_refl _), z_wm_congr (k' := fun j => gk3 (a + 3 * b + 9 * c + 27 * d) (skp t j)) (fun j hj => e _ (hsk j hj)) 3 (Nat.le_refl _)]
    exact gk3_w4 _ (by omega) t ht y hy
theorem cD_wf {c : zG} (h : gWf c) {t : Nat} (hK : 2 ≤ cK c) : gWf (cD c t) := by
  obtain ⟨h1, h2, h3, h4, h5, h6, h7, h8, h9⟩ := h
  have e : ∀ j, j < cK c - 1 → skp t j < cK c := fun j hj => by unfold skp; split <;> omega
  exact ⟨by show cK c - 1 ≤ 4; omega, h2, fun j hj => h3 _ (e j hj), fun j hj => h4 _ (e j hj), h5, h6, h7, h8, h9⟩
theorem gb_sub8 : ∀ x < 16, ∀ h < 8, x &&& (15 - h) = 0 → x < 8 := by decide +kernel
theorem gOk_ins {c : zG} (hc : gWf c) (hK : 2 ≤ cK c) {t s v x : Nat} (ht : t < cK c) (hs : s < 256) (hx : x < 8) : gOk (cSM c t) (ins t s) v (inb t x) = gOk (cD c t) s v x := by
  have hK4 := hc.1
  have ht4 : t < 4 := by omega
  have hH : gHr (cSM c t) (ins t s) = inb t (gHr (cD c t) s) := by
    show gH t (ins t s) (ins t s % 4) (cK c) = inb t (gH 9 s (s % 4) (cK c - 1))
    rw [ins_mod ht4, gH_ins hK4 ht hs]
  have h8 : gHr (cD c t) s < 2 ^ (cK c - 1) := gH_lt 9 s (s % 4) (cK c - 1)
  have h88 : gHr (cD c t) s < 8 := gH_8 (K := cK c - 1) (by omega)
  have e1 : decide (inb t x &&& (15 - inb t (gHr (cD c t) s)) = 0) = decide (x &&& (15 - gHr (cD c t) s) = 0) := decide_eq_decide.mpr (inb_sub t ht4 x hx _ h88)
  have e2 : gGo (cSM c t) (inb t x) = gGo (cD c t) x := by
    show decide (z_ld (cPd c) (nI (inb t x)) (cK c) ≤ cB c) = decide (z_ld (fun j => cPd c (skp t j)) (nI x) (cK c - 1) ≤ cB c)
    rw [z_ld_ins hK4 ht hx]
  have hy : gHr (cD c t) s &&& (15 - x) < 2 ^ (cK c - 1) := gb_sub2 (cK c - 1) (by omega) _ h8 x (by omega)
  have e3 : gSt (cSM c t) (inb t (gHr (cD c t) s &&& (15 - x))) = gSt (cD c t) (gHr (cD c t) s &&& (15 - x)) :=
    decide_eq_decide.mpr (z_wm_ins hK4 hK ht hy hc.2.2.1)
  unfold gOk
  rw [hH, inb_cut t ht4 x hx _ h88, e1, e2, e3, ins_mod ht4]
  rfl
theorem gG_ins {t s v x : Nat} (ht : t < 4) (hs : s < 256) (hx : x < 8) (hv : v < 4) : gG s v x 4 < 256 ∧ gG (ins t s) v (inb t x) 4 = ins t (gG s v x 4) := by
  have h1 : gG s v x 4 < 1024 := gG_lt (by omega) hv 4 (by omega)
  have h3 : gd (gG s v x 4) 3 = 0 := by
    rw [gG_gd hv 4 (by omega) 3 (by omega), if_neg]
    · simp only [gd, Nat.reducePow, Nat.reduceAdd]; omega
    · intro q
      have := gb_top 3 (by omega) x (by omega) 3 (by omega) (by omega)
      rw [this] at q
      exact absurd q.2 (by decide)
  have h2 : gG s v x 4 < 256 := by
    simp only [gd, Nat.reducePow, Nat.reduceAdd] at h3
    omega
  refine ⟨h2, gd_ext (gG_lt (ins_lt ht hs) hv 4 (by omega)) (ins_lt ht h2) ?_ (fun j hj => ?_)⟩
  · rw [gG_mod hv 4 (by omega), ins_mod ht, gG_mod hv 4 (by omega)]
  · rw [gG_gd hv 4 (by omega) j hj, ins_gd ht hj h2, inb_bit t ht x hx j hj, ins_gd ht hj hs]
    by_cases c1 : j < t
    · rw [if_pos c1, if_pos c1, if_pos c1, gG_gd hv 4 (by omega) j hj]
    · rw [if_neg c1, if_neg c1, if_neg c1]
      by_cases c2 : j = t
      · rw [if_pos c2, if_pos c2, if_pos c2, if_neg (by simp)]
      · rw [if_neg c2, if_neg c2, if_neg c2, gG_gd hv 4 (by omega) (j - 1) (by omega)]
        simp only [hj, show j - 1 < 4 by omega, true_and]
def inm (t mv : Nat) : Nat := if mv < 16 then inb t mv else 16 + inb t (mv - 16)
theorem inm_f : ∀ t < 4, ∀ mv < 32, mv % 16 < 8 → inm t mv < 32 ∧ inm t mv % 16 = inb t (mv % 16) ∧ (inm t mv < 16 ↔ mv < 16) := by decide +kernel
theorem nX_ins {c : zG} (hc : gWf c) (hK : 2 ≤ cK c) {t s mv : Nat} (ht : t < cK c) (hs : s < 256) (hm : mv < 32) (hx : mv % 16 < 8) : nX (cSM c t) (ins t s) (inm t mv) = (nX (cD c t) s mv).map (ins t) ∧ (∀ s1, nX (cD c t) s mv = some s1 → s1 < 256) ∧ ∀ m, nT (cSM c t) (ins t s) (inm t mv) m = nT (cD c t) s mv m := by
  have hK4 := hc.1
  have ht4 : t < 4 := by omega
  obtain ⟨f1, f2, f3⟩ := inm_f t ht4 mv hm hx
  have eV : nV (ins t s) (inm t mv) = nV s mv := by
    unfold nV
    rw [ins_mod ht4]
    by_cases e : mv < 16
    · rw [if_pos e, if_pos (f3.mpr e)]
    · rw [if_neg e, if_neg (fun q => e (f3.mp q))]
  have eK : nK (ins t s) (inm t mv) = nK s mv := by unfold nK; rw [eV, ins_mod ht4]
  have eo := gOk_ins hc hK (v := nV s mv) ht hs hx
  refine ⟨?_, fun s1 h1 => ?_, fun m => ?_⟩
  · unfold nX
    rw [eV, f2, eo, ins_mod ht4, show cN (cSM c t) = cN (cD c t) from rfl]
    by_cases q : s % 4 ≤ cN (cD c t) ∧ gOk (cD c t) s (nV s mv) (mv % 16) = true
    · rw [if_pos q, if_pos q]
      have hv := gOk_v q.2
      have hN : cN (cD c t) ≤ 3 := hc.2.1.1
      rw [(gG_ins ht4 hs hx (show nV s mv < 4 by omega)).2]
      rfl
    · rw [if_neg q, if_neg q]
      rfl
  · obtain ⟨-, h2, rfl⟩ := nX_some h1
    have hv := gOk_v h2
    have hN : cN (cD c t) ≤ 3 := hc.2.1.1
    exact (gG_ins ht4 hs hx (show nV s mv < 4 by omega)).1
  · unfold nT gTk
    rw [eK, f2]
    rw [show z_ld (cPd (cSM c t)) (nI (inb t (mv % 16))) (cK (cSM c t)) = z_ld (cPd (cD c t)) (nI (mv % 16)) (cK (cD c t)) from z_ld_ins hK4 ht hx]
    by_cases e : mv % 16 = 0
    · rw [if_pos e, if_pos ((inb_0 t ht4 _ hx).mpr e)]; rfl
    · rw [if_neg e, if_neg (fun q => e ((inb_0 t ht4 _ hx).mp q))]; rfl
theorem nX_x8 {c : zG} (hc : gWf c) {t s mv s1 : Nat} (h : nX (cD c t) s mv = some s1) : mv % 16 < 8 := by
  have h1 := gOk_x (c := cD c t) (by show cK c - 1 ≤ 4; have := hc.1; omega) (Nat.mod_lt _ (by decide)) (nX_some h).2.1
  have h2 : 2 ^ (cK c - 1) ≤ 2 ^ 3 := Nat.pow_le_pow_right (by decide) (by have := hc.1; omega)
  have h3 : mv % 16 < 2 ^ (cK c - 1) := h1
  omega
theorem inm_ex : ∀ t < 4, ∀ mv < 32, (mv % 16).testBit t = false → ∃ mv', mv' < 32 ∧ mv' % 16 < 8 ∧ inm t mv' = mv := by
  intro t ht mv hm hb
  obtain ⟨x, hx, e⟩ := inb_ex t ht (mv % 16) (Nat.mod_lt _ (by decide)) hb
  by_cases c : mv < 16
  · refine ⟨x, by omega, by omega, ?_⟩
    unfold inm
    rw [if_pos (by omega)]
    omega
  · refine ⟨16 + x, by omega, by omega, ?_⟩
    unfold inm
    rw [if_neg (by omega), Nat.add_sub_cancel_left]
    omega
theorem nX_bit {c : zG} (hc : gWf c) {t s mv s1 : Nat} (ht : t < cK c) (h : nX (cSM c t) s mv = some s1) : (mv % 16).testBit t = false := by
  have hK4 := hc.1
  cases e : (mv % 16).testBit t with
  | false => rfl
  | true =>
    have := gOk_sub (c := cSM c t) hc.1 (Nat.mod_lt _ (by decide)) (nX_some h).2.1 (show t < 4 by omega) e
    exact absurd rfl this.2.1
theorem pR_bwd {c : zG} (hc : gWf c) (hK : 2 ≤ cK c) {t : Nat} (ht : t < cK c) : ∀ k s' m, pR (nG (cSM c t)) k s' m → ∃ s, s < 256 ∧ s' = ins t s ∧ pR (nG (cD c t)) k s m
  | 0, s', m, h => by
    obtain ⟨rfl, rfl⟩ := h
    exact ⟨0, by decide, by unfold ins; simp, rfl, rfl⟩
  | k + 1, s', m, h => by
    obtain ⟨s0', m0, mv, h1, h2, h3, h4, h5⟩ := h
    obtain ⟨s0, hs0, rfl, hr⟩ := pR_bwd hc hK ht k s0' m0 h1
    have hb := nX_bit hc ht h4
    obtain ⟨mv', hm', hx', e⟩ := inm_ex t (by have := hc.1; omega) mv h3 hb
    subst e
    obtain ⟨x1, x2, x3⟩ := nX_ins hc hK ht hs0 hm' hx'
    have h4 : nX (cSM c t) (ins t s0) (inm t mv') = some s' := h4
    rw [x1] at h4
    cases e1 : nX (cD c t) s0 mv' with
    | none => rw [e1] at h4; cases h4
    | some s1 =>
      rw [e1] at h4
      refine ⟨s1, x2 s1 e1, (Option.some.inj h4).symm, s0, m0, mv', hr, h2, hm', e1, ?_⟩
      rw [h5]
      show _ = m0 + nT (cD c t) s0 mv' m0
      rw [← x3 m0]
      rfl
theorem nE_ins : ∀ K < 5, ∀ t < K, ∀ N < 4, ins t (gE N 9 (K - 1)) = gE N t K := by decide +kernel
theorem pD_drop {c : zG} (hc : gWf c) (hK : 2 ≤ cK c) {t : Nat} (ht : t < cK c) {T : Nat → Nat} (h : pD (nG (cSM c t)) 1000000 T) : ∃ T', pD (nG (cD c t)) 1000000 T' ∧ T' (nE (cD c t)) = T (nE (cSM c t)) := by
  have hK4 := hc.1
  have ht4 : t < 4 := by omega
  have hN := hc.2.1
  obtain ⟨a1, a2, a3, a4⟩ := h
  refine ⟨fun s => if s < 256 then T (ins t s) else 1000000, ⟨?_, fun s hs hf => ?_, fun s hs _ hf mv hm s1 he => ?_, fun s hs => ?_⟩, ?_⟩
  · dsimp only
    rw [if_pos (by decide), show ins t 0 = 0 by unfold ins; simp]
    exact a1
  · dsimp only at hf ⊢
    by_cases e : s < 256
    · rw [if_pos e] at hf ⊢
      obtain ⟨k, hk⟩ := a2 _ (ins_lt ht4 e) hf
      obtain ⟨s0, hs0, e0, hr⟩ := pR_bwd hc hK ht k _ _ hk
      rw [← ins_inj ht4 e0] at hr
      exact ⟨k, hr⟩
    · rw [if_neg e] at hf; omega
  · dsimp only at hf
    by_cases e : s < 256
    · have he : nX (cD c t) s mv = some s1 := he
      have hx := nX_x8 hc he
      obtain ⟨x1, x2, x3⟩ := nX_ins hc hK ht e hm hx
      have hs1 := x2 s1 he
      rw [he] at x1
      rw [if_pos e] at hf
      have := a3 (ins t s) (ins_lt ht4 e) (by omega) hf (inm t mv) (inm_f t ht4 mv hm hx).1 (ins t s1) x1
      show (if s1 < 256 then T (ins t s1) else 1000000) ≤ (if s < 256 then T (ins t s) else 1000000) + nT (cD c t) s mv (if s < 256 then T (ins t s) else 1000000)
      rw [if_pos hs1, if_pos e, ← x3]
      exact this
    · rw [if_neg e] at hf; omega
  · dsimp only
    by_cases e : s < 256
    · rw [if_pos e]; exact a4 _ (ins_lt ht4 e)
    · rw [if_neg e]; exact Or.inl rfl
  · have e1 : nE (cD c t) < 256 := by
      have h1 := gE_lt (N := cN c) (ms := 9) hN.1 (cK c - 1)
      have h2 : 4 ^ (cK c - 1 + 1) ≤ 4 ^ 4 := Nat.pow_le_pow_right (by decide) (by omega)
      have h3 : nE (cD c t) < 4 ^ (cK c - 1 + 1) := h1
      omega
    dsimp only
    rw [if_pos e1]
    congr 1
    exact nE_ins (cK c) (by omega) t ht (cN c) (by omega)
