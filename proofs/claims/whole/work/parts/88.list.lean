/-! rows linked both ways -/
theorem nI_div {m k : Nat} (hm : m < 2 ^ 31) (hk0 : 1 ≤ k) (hk : k < 2 ^ 31) : nI m / nI k = nI (m / k) := by
  apply Int32.toInt_inj.mp
  have hlt : m / k < 2 ^ 31 := Nat.lt_of_le_of_lt (Nat.div_le_self _ _) hm
  rw [Int32.toInt_div_of_ne_right _ _ (fun q => by
    have h1 := nI_pos (n := k) hk
    rw [q] at h1
    exact h1 (by decide)), nI_toInt hm, nI_toInt hk, nI_toInt hlt]
  exact (Int.ofNat_tdiv m k).symm
theorem nI_rem {m k : Nat} (hm : m < 2 ^ 31) (hk0 : 1 ≤ k) (hk : k < 2 ^ 31) : nI m - nI m / nI k * nI k = nI (m % k) := by
  rw [nI_div hm hk0 hk]
  have e1 : nI (m / k) * nI k = nI (m / k * k) := (Int32.ofNat_mul (m / k) k).symm
  have h1 : m / k * k ≤ m := Nat.div_mul_le_self m k
  rw [e1]
  refine (Int32.ofNat_sub (a := m) (b := m / k * k) h1).symm.trans ?_
  congr 1
  have := Nat.div_add_mod m k
  rw [Nat.mul_comm] at this
  omega
theorem nI_rem32 {m : Nat} (hm : m < 2 ^ 31) : nI m - nI m / 32 * 32 = nI (m % 32) := nI_rem (k := 32) hm (by decide) (by decide)
theorem nI_m1ne {a : Nat} (h : a < 2 ^ 31) : ¬ nI a = -1 := fun q => by
  have h1 := nI_pos (n := a) h
  rw [q] at h1
  exact h1 (by decide)
def lk (X P : Nat → Int32) : Int32 → Int32 → List Nat → Prop
  | _, h, [] => h = -1
  | p, h, s :: l => s < 1024 ∧ h = nI s ∧ P s = p ∧ lk X P (nI s) (X s) l
theorem lk_congr {X P X' P' : Nat → Int32} : ∀ (l : List Nat) (p h : Int32), (∀ s, s ∈ l → X' s = X s ∧ P' s = P s) → lk X P p h l → lk X' P' p h l
  | [], _, _, _, hh => hh
  | s :: l, p, h, he, hh => by
    obtain ⟨h1, h2, h3, h4⟩ := hh
    have e := he s (by simp)
    exact ⟨h1, h2, by rw [e.2]; exact h3, by rw [e.1]; exact lk_congr l _ _ (fun q hq => he q (by simp [hq])) h4⟩
theorem lk_lt {X P : Nat → Int32} : ∀ (l : List Nat) (p h : Int32), lk X P p h l → ∀ s, s ∈ l → s < 1024
  | [], _, _, _, s, hs => by simp at hs
  | a :: l, p, h, hh, s, hs => by
    rcases List.mem_cons.mp hs with e | e
    · rw [e]; exact hh.1
    · exact lk_lt l _ _ hh.2.2.2 s e
def eH : Option Nat → Int32
  | none => -1
  | some t => nI t
theorem lk_hd {X P : Nat → Int32} {p h : Int32} : ∀ {l : List Nat}, lk X P p h l → h = eH l.head?
  | [], hh => hh
  | _ :: _, hh => hh.2.1
theorem lk_nx {X P : Nat → Int32} : ∀ (l1 : List Nat) {l2 : List Nat} {s : Nat} {p h : Int32}, lk X P p h (l1 ++ s :: l2) → X s = eH l2.head?
  | [], _, _, _, _, hh => lk_hd hh.2.2.2
  | _ :: l1, _, _, _, _, hh => lk_nx l1 hh.2.2.2
theorem lk_fm {X P : Nat → Int32} : ∀ (l1 : List Nat) {l2 : List Nat} {s : Nat} {p h : Int32}, lk X P p h (l1 ++ s :: l2) → P s = (match l1.getLast? with
  | none => p
  | some u => nI u)
  | [], _, _, _, _, hh => hh.2.2.1
  | [a], _, _, _, _, hh => hh.2.2.2.2.2.1
  | a :: b :: l1, _, _, _, _, hh => by
    have := lk_fm (b :: l1) hh.2.2.2
    rw [List.getLast?_cons_cons]
    cases e : (b :: l1).getLast? with
    | none => simp at e
    | some u => rw [e] at this; exact this
theorem lk_cut {X P X' P' : Nat → Int32} {l2 : List Nat} {s : Nat} : ∀ (l1 : List Nat) (p h : Int32), lk X P p h (l1 ++ s :: l2) → (l1 ++ s :: l2).Nodup → (∀ q, q ∈ l1 ++ l2 → X' q = if l1.getLast? = some q then X s else X q) → (∀ q, q ∈ l1 ++ l2 → P' q = if l2.head? = some q then P s else P q) → lk X' P' p (if l1 = [] then X s else h) (l1 ++ l2)
  | [], p, h, hh, hn, hX, hP => by
    rw [if_pos rfl]
    obtain ⟨h1, h2, h3, h4⟩ := hh
    cases l2 with
    | nil => exact h4
    | cons t l2 =>
      obtain ⟨k1, k2, k3, k4⟩ := h4
      have hn2 := (List.nodup_cons.mp (List.nodup_cons.mp hn).2).1
      refine ⟨k1, k2, ?_, ?_⟩
      · rw [hP t (by simp), if_pos (by simp), h3]
      · rw [hX t (by simp), if_neg (by simp)]
        refine lk_congr l2 _ _ (fun q hq => ?_) k4
        have hqt : ¬ t = q := fun e => hn2 (e ▸ hq)
        refine ⟨?_, ?_⟩
        · rw [hX q (by simp [hq]), if_neg (by simp)]
        · rw [hP q (by simp [hq]), if_neg (by simpa using hqt)]
  | a :: l1, p, h, hh, hn, hX, hP => by
    obtain ⟨h1, h2, h3, h4⟩ := hh
    rw [if_neg (by simp)]
    have hna := (List.nodup_cons.mp hn).1
    have hna1 : a ∉ l1 := fun q => hna (by simp [q])
    have hna2 : a ∉ l2 := fun q => hna (by simp [q])
    have ih := lk_cut (X' := X') (P' := P') l1 (nI a) (X a) h4 (List.nodup_cons.mp hn).2 (fun q hq => ?_) (fun q hq => hP q (by simp at hq ⊢; exact Or.inr hq))
    · refine ⟨h1, h2, ?_, ?_⟩
      · rw [hP a (by simp), if_neg (fun q => hna2 (List.mem_of_head? q)), h3]
      · have e : X' a = if l1 = [] then X s else X a := by
          rw [hX a (by simp)]
          cases l1 with
          | nil => simp
          | cons b l1 =>
            rw [List.getLast?_cons_cons, if_neg (fun q => hna1 (List.mem_of_getLast? q)), if_neg (by simp)]
        show lk X' P' (nI a) (X' a) (l1 ++ l2)
        rw [e]
        exact ih
    · rw [hX q (by simp at hq ⊢; exact Or.inr hq)]
      cases l1 with
      | nil =>
        have : ¬ a = q := fun e => hna2 (by simpa [e] using hq)
        simp [this]
      | cons b l1 => rw [List.getLast?_cons_cons]
theorem lk_push {X P X' P' : Nat → Int32} {l : List Nat} {s : Nat} {h : Int32} (hs : s < 1024) (hh : lk X P (-1) h l) (hn : s ∉ l) (hnd : l.Nodup) (hX1 : X' s = h) (hP1 : P' s = -1) (hX : ∀ q, q ∈ l → X' q = X q) (hP : ∀ q, q ∈ l → P' q = if l.head? = some q then nI s else P q) : lk X' P' (-1) (nI s) (s :: l) := by
  refine ⟨hs, rfl, hP1, ?_⟩
  rw [hX1]
  cases l with
  | nil => exact hh
  | cons t l =>
    obtain ⟨k1, k2, k3, k4⟩ := hh
    have hn2 := (List.nodup_cons.mp hnd).1
    refine ⟨k1, k2, ?_, ?_⟩
    · rw [hP t (by simp), if_pos (by simp)]
    · rw [hX t (by simp)]
      refine lk_congr l _ _ (fun q hq => ?_) k4
      have hqt : ¬ t = q := fun e => hn2 (e ▸ hq)
      exact ⟨hX q (by simp [hq]), by rw [hP q (by simp [hq]), if_neg (by simpa using hqt)]⟩
/-! the buckets: row 38 heads, 39 nexts, 40 formers; those that wait have times from lo on -/
def bI (τ : zS) (T : Nat → Nat) (lo e : Nat) (B : Nat → List Nat) : Prop := (∀ s, s < 1024 → τ.1 36 s = nI (T s)) ∧ (∀ b, b < 32 → lk (τ.1 39) (τ.1 40) (-1) (τ.1 38 b) (B b) ∧ (B b).Nodup) ∧ (∀ s b, s < 1024 → b < 32 → (s ∈ B b ↔ lo ≤ T s ∧ T s < 1000000 ∧ T s % 32 = b)) ∧ τ.1 31 11 = nI (pS (fun b => (B b).length) 32 + e) ∧ ∀ s, s < 1024 → T s ≤ 1000000
def bF (τ τ' : zS) (T : Nat → Nat) (lo : Nat) : Prop := (∀ q, q ≠ 31 → q ≠ 36 → q ≠ 38 → q ≠ 39 → q ≠ 40 → τ'.1 q = τ.1 q) ∧ (∀ j, j ≠ 11 → τ'.1 31 j = τ.1 31 j) ∧ τ'.2 = τ.2 ∧ ∀ q, q < 1024 → T q < lo → τ'.1 39 q = τ.1 39 q
theorem pS_congr {f g : Nat → Nat} : ∀ n, (∀ i, i < n → f i = g i) → pS f n = pS g n
  | 0, _ => rfl
  | n + 1, h => by rw [pS, pS, pS_congr n (fun i hi => h i (by omega)), h n (by omega)]
def bU (B : Nat → List Nat) (j : Nat) (l : List Nat) : Nat → List Nat := fun b => if b = j then l else B b
theorem bU_at (B : Nat → List Nat) (j : Nat) (l : List Nat) : bU B j l j = l := by simp [bU]
theorem bU_ne (B : Nat → List Nat) {j b : Nat} (l : List Nat) (h : b ≠ j) : bU B j l b = B b := by simp [bU, h]
theorem bU_len (B : Nat → List Nat) {j : Nat} (l : List Nat) (hj : j < 32) : pS (fun b => (bU B j l b).length) 32 + (B j).length = pS (fun b => (B b).length) 32 + l.length := by
  have := pS_in (fun b => (B b).length) j l.length 32 hj
  rw [← this]
  congr 1
  refine pS_congr 32 (fun i _ => ?_)
  unfold bU pU
  split <;> rfl
theorem s_takeOut (d : Nat) {τ : zS} {T : Nat → Nat} {lo e : Nat} {B : Nat → List Nat} (h : bI τ T lo e B) {s : Nat} (hs : s < 1024) (h1 : lo ≤ T s) (h2 : T s < 1000000) : z_Ex mX2_takeOut d [.ref 31, .int (nI s)] τ (fun rv τ' => rv = none ∧ (∀ q, q ≠ 38 → q ≠ 39 → q ≠ 40 → τ'.1 q = τ.1 q) ∧ τ'.2 = τ.2 ∧ (∀ q, q < 1024 → T q < lo → τ'.1 39 q = τ.1 39 q) ∧ ∃ l1 l2, B (T s % 32) = l1 ++ s :: l2 ∧ ∀ b, b < 32 → lk (τ'.1 39) (τ'.1 40) (-1) (τ'.1 38 b) (bU B (T s % 32) (l1 ++ l2) b)) := by
  obtain ⟨a1, a2, a3, a4, a5⟩ := h
  have hb : T s % 32 < 32 := Nat.mod_lt _ (by decide)
  obtain ⟨l1, l2, hB⟩ := List.append_of_mem ((a3 s _ hs hb).mpr ⟨h1, h2, rfl⟩)
  obtain ⟨k1, k2⟩ := a2 _ hb
  rw [hB] at k1 k2
  have hnx := lk_nx l1 k1
  have hfm := lk_fm l1 k1
  have hin : ∀ q, q ∈ l1 ++ s :: l2 → q < 1024 ∧ lo ≤ T q ∧ T q % 32 = T s % 32 := fun q hq => by
    have hq1 := lk_lt _ _ _ k1 q hq
    rw [← hB] at hq
    have := (a3 q _ hq1 hb).mp hq
    exact ⟨hq1, this.1, this.2.2⟩
  have hns1 : s ∉ l1 := fun q => by
    have := (List.nodup_append.mp k2).2.2 s q s (by simp)
    exact this rfl
  have hns2 : s ∉ l2 := (List.nodup_cons.mp (List.nodup_append.mp k2).2.1).1
  -- what is left to show of the rows behind it
  have hfin : ∀ τ' : zS, (∀ q, q ≠ 38 → q ≠ 39 → q ≠ 40 → τ'.1 q = τ.1 q) → τ'.2 = τ.2 → (∀ q, τ'.1 39 q = if l1.getLast? = some q then τ.1 39 s else τ.1 39 q) → (∀ q, τ'.1 40 q = if l2.head? = some q then τ.1 40 s else τ.1 40 q) → (∀ b, τ'.1 38 b = if b = T s % 32 ∧ l1 = [] then τ.1 39 s else τ.1 38 b) → (∀ q, q ≠ 38 → q ≠ 39 → q ≠ 40 → τ'.1 q = τ.1 q) ∧ τ'.2 = τ.2 ∧ (∀ q, q < 1024 → T q < lo → τ'.1 39 q = τ.1 39 q) ∧ ∃ l1 l2, B (T s % 32) = l1 ++ s :: l2 ∧ ∀ b, b < 32 → lk (τ'.1 39) (τ'.1 40) (-1) (τ'.1 38 b) (bU B (T s % 32) (l1 ++ l2) b) := by
    intro τ' g1 g2 g3 g4 g5
    refine ⟨g1, g2, fun q hq hT => ?_, l1, l2, hB, fun b hb2 => ?_⟩
    · rw [g3 q, if_neg (fun e => ?_)]
      have := (hin q (by simp [List.mem_of_getLast? e])).2.1
      omega
    · by_cases e : b = T s % 32
      · subst e
        rw [bU_at, g5]
        have := lk_cut (X' := τ'.1 39) (P' := τ'.1 40) l1 _ _ k1 k2 (fun q _ => g3 q) (fun q _ => g4 q)
        by_cases c : l1 = []
        · rw [if_pos ⟨rfl, c⟩]; rw [if_pos c] at this; exact this
        · rw [if_neg (fun q => c q.2)]; rw [if_neg c] at this; exact this
      · rw [bU_ne _ _ e, g5, if_neg (fun q => e q.1)]
        refine lk_congr _ _ _ (fun q hq => ?_) (a2 b hb2).1
        have hq1 := lk_lt _ _ _ (a2 b hb2).1 q hq
        have hqb := ((a3 q b hq1 hb2).mp hq).2.2
        refine ⟨?_, ?_⟩
        · rw [g3 q, if_neg (fun c => ?_)]
          have := (hin q (by simp [List.mem_of_getLast? c])).2.2
          omega
        · rw [g4 q, if_neg (fun c => ?_)]
          have := (hin q (by simp [List.mem_of_head? c])).2.2
          omega
  refine x_enter (by decide) (Nat.le_of_ble_eq_true rfl) ?_
  show z_At _ _ _ [.ref 31, .int (nI s), .null, .null] _ _ _
  refine x_aload0 (pc2 := 1) dX2_takeOut_0 rfl ?_
  refine x_getR (pc2 := 4) fX2_34 sh_31 rfl dX2_takeOut_1 rfl ?_
  refine x_iload1 (pc2 := 5) dX2_takeOut_4 rfl ?_
  refine x_iald (pc2 := 6) sh_39 (by exact z_in hs) dX2_takeOut_5 rfl ?_
  refine x_istore2 (pc2 := 7) dX2_takeOut_6 rfl rfl ?_
  refine x_aload0 (pc2 := 8) dX2_takeOut_7 rfl ?_
  refine x_getR (pc2 := 11) fX2_37 sh_31 rfl dX2_takeOut_8 rfl ?_
  refine x_iload1 (pc2 := 12) dX2_takeOut_11 rfl ?_
  refine x_iald (pc2 := 13) sh_40 (by exact z_in hs) dX2_takeOut_12 rfl ?_
  refine x_istore3 (pc2 := 14) dX2_takeOut_13 rfl rfl ?_
  rw [nI_clamp (by omega)]
  -- the former's place, from 26 on
  have h26 : ∀ τ1 : zS, (∀ q, q ≠ 40 → τ1.1 q = τ.1 q) → τ1.2 = τ.2 → (∀ q, τ1.1 40 q = if l2.head? = some q then τ.1 40 s else τ.1 40 q) → z_At mX2_takeOut d 26 [.ref 31, .int (nI s), .int (τ.1 39 s), .int (τ.1 40 s)] [] τ1 (fun rv τ' => rv = none ∧ (∀ q, q ≠ 38 → q ≠ 39 → q ≠ 40 → τ'.1 q = τ.1 q) ∧ τ'.2 = τ.2 ∧ (∀ q, q < 1024 → T q < lo → τ'.1 39 q = τ.1 39 q) ∧ ∃ l1 l2, B (T s % 32) = l1 ++ s :: l2 ∧ ∀ b, b < 32 → lk (τ'.1 39) (τ'.1 40) (-1) (τ'.1 38 b) (bU B (T s % 32) (l1 ++ l2) b)) := by
    intro τ1 g1 g2 g4
    cases e1 : l1.getLast? with
    | none =>
      rw [e1] at hfm
      have e0 : l1 = [] := by simpa using e1
      rw [hfm]
      refine x_iload3 (pc2 := 27) dX2_takeOut_26 rfl ?_
      refine x_iconst (v := -1) (pc2 := 28) dX2_takeOut_27 rfl (by decide) ?_
      refine x_icmp_eq (pc2 := 31) (pc3 := 41) dX2_takeOut_28 rfl rfl (fun h28 => ?_) (fun h28 => ?_)
      rotate_left
      · exact absurd rfl h28
      refine x_aload0 (pc2 := 42) dX2_takeOut_41 rfl ?_
      refine x_getR (pc2 := 45) fX2_31 sh_31 rfl dX2_takeOut_42 rfl ?_
      refine x_aload0 (pc2 := 46) dX2_takeOut_45 rfl ?_
      refine x_getR (pc2 := 49) fX2_25 sh_31 rfl dX2_takeOut_46 rfl ?_
      refine x_iload1 (pc2 := 50) dX2_takeOut_49 rfl ?_
      refine x_iald (pc2 := 51) sh_36 (by exact z_in hs) dX2_takeOut_50 rfl ?_
      rw [nI_clamp (by omega), g1 36 (by decide), a1 s hs]
      refine x_bipush (v := 32) (pc2 := 53) dX2_takeOut_51 rfl (by decide) ?_
      refine x_irem (pc2 := 54) dX2_takeOut_53 rfl (by decide) ?_
      rw [nI_rem32 (by omega)]
      refine x_iload2 (pc2 := 55) dX2_takeOut_54 rfl ?_
      refine x_iast (pc2 := 56) sh_38 (by exact z_in hb) dX2_takeOut_55 rfl ?_
      rw [nI_clamp (by omega)]
      refine x_vret dX2_takeOut_56 rfl ?_
      refine ⟨rfl, hfin _ (fun q b1 b2 b3 => ?_) g2 (fun q => ?_) (fun q => ?_) (fun b => ?_)⟩
      · rw [z_st_row _ _ _ b1, g1 q b3]
      · rw [z_st_row _ _ _ (by decide), g1 39 (by decide), e1, if_neg (by simp)]
      · rw [z_st_row _ _ _ (by decide), g4 q, hfm]
      · by_cases c : b = T s % 32
        · subst c; rw [z_st_at, if_pos ⟨rfl, e0⟩]
        · rw [z_st_fld _ _ _ c, g1 38 (by decide), if_neg (fun q => c q.1)]
    | some u =>
      rw [e1] at hfm
      have hfm : τ.1 40 s = nI u := hfm
      have hu := (hin u (by simp [List.mem_of_getLast? e1])).1
      rw [hfm]
      refine x_iload3 (pc2 := 27) dX2_takeOut_26 rfl ?_
      refine x_iconst (v := -1) (pc2 := 28) dX2_takeOut_27 rfl (by decide) ?_
      refine x_icmp_eq (pc2 := 31) (pc3 := 41) dX2_takeOut_28 rfl rfl (fun h28 => ?_) (fun h28 => ?_)
      · exact absurd h28 (nI_m1ne (by omega))
      refine x_aload0 (pc2 := 32) dX2_takeOut_31 rfl ?_
      refine x_getR (pc2 := 35) fX2_34 sh_31 rfl dX2_takeOut_32 rfl ?_
      refine x_iload3 (pc2 := 36) dX2_takeOut_35 rfl ?_
      refine x_iload2 (pc2 := 37) dX2_takeOut_36 rfl ?_
      refine x_iast (pc2 := 38) sh_39 (by exact z_in hu) dX2_takeOut_37 rfl ?_
      rw [nI_clamp (by omega)]
      refine x_goto (pc2 := 56) dX2_takeOut_38 rfl ?_
      refine x_vret dX2_takeOut_56 rfl ?_
      refine ⟨rfl, hfin _ (fun q b1 b2 b3 => ?_) g2 (fun q => ?_) (fun q => ?_) (fun b => ?_)⟩
      · rw [z_st_row _ _ _ b2, g1 q b3]
      · by_cases c : q = u
        · subst c; rw [z_st_at, e1, if_pos rfl]
        · rw [z_st_fld _ _ _ c, g1 39 (by decide), e1, if_neg (fun x => c (Option.some.inj x).symm)]
      · rw [z_st_row _ _ _ (by decide), g4 q, hfm]
      · rw [z_st_row _ _ _ (by decide), g1 38 (by decide), if_neg (fun x => by rw [x.2] at e1; simp at e1)]
  cases e2 : l2.head? with
  | none =>
    rw [e2] at hnx
    have hnx : τ.1 39 s = -1 := hnx
    rw [hnx] at h26 ⊢
    refine x_iload2 (pc2 := 15) dX2_takeOut_14 rfl ?_
    refine x_iconst (v := -1) (pc2 := 16) dX2_takeOut_15 rfl (by decide) ?_
    refine x_icmp_eq (pc2 := 19) (pc3 := 26) dX2_takeOut_16 rfl rfl (fun h16 => ?_) (fun h16 => ?_)
    rotate_left
    · exact absurd rfl h16
    exact h26 τ (fun _ _ => rfl) rfl (fun q => by rw [e2, if_neg (by simp)])
  | some t =>
    rw [e2] at hnx
    have hnx : τ.1 39 s = nI t := hnx
    have ht := (hin t (by simp [List.mem_of_head? e2])).1
    rw [hnx] at h26 ⊢
    refine x_iload2 (pc2 := 15) dX2_takeOut_14 rfl ?_
    refine x_iconst (v := -1) (pc2 := 16) dX2_takeOut_15 rfl (by decide) ?_
    refine x_icmp_eq (pc2 := 19) (pc3 := 26) dX2_takeOut_16 rfl rfl (fun h16 => ?_) (fun h16 => ?_)
    · exact absurd h16 (nI_m1ne (by omega))
    refine x_aload0 (pc2 := 20) dX2_takeOut_19 rfl ?_
    refine x_getR (pc2 := 23) fX2_37 sh_31 rfl dX2_takeOut_20 rfl ?_
    refine x_iload2 (pc2 := 24) dX2_takeOut_23 rfl ?_
    refine x_iload3 (pc2 := 25) dX2_takeOut_24 rfl ?_
    refine x_iast (pc2 := 26) sh_40 (by exact z_in ht) dX2_takeOut_25 rfl ?_
    rw [nI_clamp (by omega)]
    refine h26 _ (fun q hq => z_st_row _ _ _ hq) rfl (fun q => ?_)
    by_cases c : q = t
    · subst c; rw [z_st_at, e2, if_pos rfl]
    · rw [z_st_fld _ _ _ c, e2, if_neg (fun x => c (Option.some.inj x).symm)]
