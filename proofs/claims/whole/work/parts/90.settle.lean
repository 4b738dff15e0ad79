/-! the class's search: spread, settleAll -/
def sV (T T' : Nat → Nat) (now : Nat) : Prop := ∀ q, q < 1024 → T' q ≤ T q ∧ (T' q = T q ∨ now < T' q)
theorem sV.rf {T : Nat → Nat} {now : Nat} : sV T T now := fun q _ => ⟨Nat.le_refl _, Or.inl rfl⟩
theorem sV.tr {T T' T'' : Nat → Nat} {now : Nat} (h : sV T T' now) (h' : sV T' T'' now) : sV T T'' now := fun q hq => by
  have a := h q hq
  have b := h' q hq
  omega
theorem bF.tr {τ τ' τ'' : zS} {T T' : Nat → Nat} {lo : Nat} (h : bF τ τ' T lo) (h' : bF τ' τ'' T' lo) (hT : ∀ q, q < 1024 → T' q ≤ T q) : bF τ τ'' T lo := by
  obtain ⟨a1, a2, a3, a4⟩ := h
  obtain ⟨b1, b2, b3, b4⟩ := h'
  refine ⟨fun q c1 c2 c3 c4 c5 => by rw [b1 q c1 c2 c3 c4 c5, a1 q c1 c2 c3 c4 c5], fun j hj => by rw [b2 j hj, a2 j hj], by rw [b3, a3], fun q hq hl => ?_⟩
  have := hT q hq
  rw [b4 q hq (by omega), a4 q hq hl]
theorem bF.rf {τ : zS} {T : Nat → Nat} {lo : Nat} : bF τ τ T lo := ⟨fun _ _ _ _ _ _ => rfl, fun _ _ => rfl, rfl, fun _ _ _ => rfl⟩
theorem gSr.b {σ τ : zS} {c : zG} {b : Bool} {T : Nat → Nat} {lo : Nat} (h : gSr σ c b) (hb : bF σ τ T lo) : gSr τ c b :=
  h.of (fun j hj => hb.2.1 j (by omega)) (fun q h1 h2 => hb.1 q (by omega) (by omega) (by omega) (by omega) (by omega))
theorem pCl.mono {g : zX} {T T' : Nat → Nat} {s mv : Nat} (hg : pGr g) (hs : s < 1024) (h : pCl g T s mv) (h1 : T' s = T s) (h2 : ∀ q, q < 1024 → T' q ≤ T q) : pCl g T' s mv := fun s' he => by
  have a := h s' he
  have b := h2 s' (hg.1 s mv s' hs he)
  rw [h1]
  omega
theorem s_spreadC (d : Nat) {τ : zS} {c : zG} {b : Bool} (hc : gWf c) (h4 : 4 ≤ cM c) (hr : gSr τ c b) {T : Nat → Nat} {e now : Nat} {B : Nat → List Nat} (hB : bI τ T (now + 1) e B) (hI : pI (nGb c b) T) (hbd : ∀ q, q < 1024 → T q < 1000000 → T q ≤ now + 29) (hnow : now ≤ 29667) {s : Nat} (hs : s < 1024) (hTs : T s = now) : z_Ex mX2_spread (d + 3) [.ref 31, .int (nI s), .int (nI now)] τ (fun rv τ' => rv = none ∧ bF τ τ' T (now + 1) ∧ ∃ T' B', bI τ' T' (now + 1) e B' ∧ pI (nGb c b) T' ∧ sV T T' now ∧ (∀ q, q < 1024 → T' q < 1000000 → T' q ≤ now + 29) ∧ ∀ mv, mv < 32 → pCl (nGb c b) T' s mv) := by
  have hg := nGb_gr hc b
  have hsp : s % 4 ≤ cN c := pI_spot hc hI.2.1 hs (by omega)
  refine x_enter (by decide) (Nat.le_of_ble_eq_true rfl) ?_
  show z_At _ _ _ [.ref 31, .int (nI s), .int (nI now), .null, .null, .null] _ _ _
  refine x_aload0 (pc2 := 1) dX2_spread_0 rfl ?_
  refine x_iload1 (pc2 := 2) dX2_spread_1 rfl ?_
  refine x_fV1 (pc2 := 5) eX2_thingsHere kX2_116 sh_31 rfl (Nat.le_of_ble_eq_true rfl) dX2_spread_2 rfl (s_here _ hc h4 hr hs) ?_
  refine x_istore3 (pc2 := 6) dX2_spread_5 rfl rfl ?_
  refine x_iconst (v := 0) (pc2 := 7) dX2_spread_6 rfl (by decide) ?_
  refine x_istore4 (pc2 := 9) dX2_spread_7 rfl rfl ?_
  suffices hl : ∀ m mv, mv + m = 32 → ∀ (τ1 : zS) (T1 : Nat → Nat) (B1 : Nat → List Nat) (o5 : Value), bF τ τ1 T (now + 1) → bI τ1 T1 (now + 1) e B1 → pI (nGb c b) T1 → sV T T1 now → (∀ q, q < 1024 → T1 q < 1000000 → T1 q ≤ now + 29) → (∀ mv', mv' < mv → pCl (nGb c b) T1 s mv') → z_At mX2_spread (d + 3) 9 [.ref 31, .int (nI s), .int (nI now), .int (nI (gHr c s)), .int (nI mv), o5] [] τ1 (fun rv τ' => rv = none ∧ bF τ τ' T (now + 1) ∧ ∃ T' B', bI τ' T' (now + 1) e B' ∧ pI (nGb c b) T' ∧ sV T T' now ∧ (∀ q, q < 1024 → T' q < 1000000 → T' q ≤ now + 29) ∧ ∀ mv, mv < 32 → pCl (nGb c b) T' s mv) from
    hl 32 0 rfl τ T B _ bF.rf hB hI sV.rf hbd (fun mv' h => by omega)
  intro m
  induction m with
  | zero =>
    intro mv hmv τ1 T1 B1 o5 hF hB1 hI1 hV hb1 hcl
    obtain rfl : mv = 32 := by omega
    refine x_iload4 (pc2 := 11) dX2_spread_9 rfl ?_
    refine x_bipush (v := 32) (pc2 := 13) dX2_spread_11 rfl (by decide) ?_
    refine x_icmp_ge (pc2 := 16) (pc3 := 54) dX2_spread_13 rfl rfl (fun h13 => ?_) (fun h13 => ?_)
    rotate_left
    · exact absurd (by decide) h13
    refine x_vret dX2_spread_54 rfl ?_
    exact ⟨rfl, hF, T1, B1, hB1, hI1, hV, hb1, hcl⟩
  | succ m ih =>
    intro mv hmv τ1 T1 B1 o5 hF hB1 hI1 hV hb1 hcl
    have hr1 := hr.b hF
    have hT1s : T1 s = now := by have := hV s hs; omega
    refine x_iload4 (pc2 := 11) dX2_spread_9 rfl ?_
    refine x_bipush (v := 32) (pc2 := 13) dX2_spread_11 rfl (by decide) ?_
    refine x_icmp_ge (pc2 := 16) (pc3 := 54) dX2_spread_13 rfl rfl (fun h13 => ?_) (fun h13 => ?_)
    · exact absurd ((nI_le_iff (a := 32) (by omega) (by omega)).mp h13) (by omega)
    refine x_aload0 (pc2 := 17) dX2_spread_16 rfl ?_
    refine x_iload1 (pc2 := 18) dX2_spread_17 rfl ?_
    refine x_iload3 (pc2 := 19) dX2_spread_18 rfl ?_
    refine x_iload4 (pc2 := 21) dX2_spread_19 rfl ?_
    refine x_fV3 (pc2 := 24) eX2_stateBehind kX2_119 sh_31 rfl (Nat.le_of_ble_eq_true rfl) dX2_spread_21 rfl (s_behind _ hc hr1 hs hsp (by omega)) ?_
    cases he : nX c s mv with
    | none =>
      show z_At _ _ _ _ [.int (-1)] _ _
      refine x_istore5 (pc2 := 26) dX2_spread_24 rfl rfl ?_
      refine x_iload5 (pc2 := 28) dX2_spread_26 rfl ?_
      refine x_iconst (v := -1) (pc2 := 29) dX2_spread_28 rfl (by decide) ?_
      refine x_icmp_eq (pc2 := 32) (pc3 := 48) dX2_spread_29 rfl rfl (fun h29 => ?_) (fun h29 => ?_)
      rotate_left
      · exact absurd rfl h29
      refine x_iinc4 (pc2 := 51) dX2_spread_48 rfl (z_inc1 _) rfl ?_
      refine x_goto (pc2 := 9) dX2_spread_51 rfl ?_
      rw [← nI_succ]
      refine ih (mv + 1) (by omega) τ1 T1 B1 _ hF hB1 hI1 hV hb1 (fun mv' hm' => ?_)
      by_cases q : mv' = mv
      · subst q
        intro s' hs'
        rw [show (nGb c b).1 s mv' = nX c s mv' from rfl, he] at hs'
        cases hs'
      · exact hcl mv' (by omega)
    | some s' =>
      have hlt := nX_lt hc hs he
      have htk := hg.2.1 s mv s' now hs he
      show z_At _ _ _ _ [.int (nI s')] _ _
      refine x_istore5 (pc2 := 26) dX2_spread_24 rfl rfl ?_
      refine x_iload5 (pc2 := 28) dX2_spread_26 rfl ?_
      refine x_iconst (v := -1) (pc2 := 29) dX2_spread_28 rfl (by decide) ?_
      refine x_icmp_eq (pc2 := 32) (pc3 := 48) dX2_spread_29 rfl rfl (fun h29 => ?_) (fun h29 => ?_)
      · exact absurd h29 (nI_m1ne (by omega))
      refine x_aload0 (pc2 := 33) dX2_spread_32 rfl ?_
      refine x_iload5 (pc2 := 35) dX2_spread_33 rfl ?_
      refine x_iload2 (pc2 := 36) dX2_spread_35 rfl ?_
      refine x_aload0 (pc2 := 37) dX2_spread_36 rfl ?_
      refine x_iload1 (pc2 := 38) dX2_spread_37 rfl ?_
      refine x_iload4 (pc2 := 40) dX2_spread_38 rfl ?_
      refine x_iload2 (pc2 := 41) dX2_spread_40 rfl ?_
      refine x_fV3 (pc2 := 44) eX2_minutesOf kX2_123 sh_31 rfl (Nat.le_of_ble_eq_true rfl) dX2_spread_41 rfl (s_minutesOf _ hc hr1 hs (by omega) he (by omega)) ?_
      refine x_iadd (pc2 := 45) dX2_spread_44 rfl ?_
      rw [z_nIadd]
      generalize htm : now + (nGb c b).2 s mv now = m' at htk
      have hm' : now + 1 ≤ m' ∧ m' ≤ now + 29 := by omega
      refine x_cV2 eX2_offer kX2_47 sh_31 rfl (Nat.le_of_ble_eq_true rfl) dX2_spread_45 ?_
      refine (s_offer (d + 1) hB1 hlt.1 hm'.1 (by omega)).mono ?_
      rintro rv τ2 ⟨rfl, hF2, B2, hB2⟩
      show z_At _ _ 48 _ [] _ _
      have hv1 : sV T1 (if m' < T1 s' then pU T1 s' m' else T1) now := by
        intro q hq
        split
        next c1 =>
          by_cases c2 : q = s'
          · subst c2; rw [pU_at]; omega
          · rw [pU_ne T1 _ c2]; exact ⟨Nat.le_refl _, Or.inl rfl⟩
        next => exact ⟨Nat.le_refl _, Or.inl rfl⟩
      have hI2 : pI (nGb c b) (if m' < T1 s' then pU T1 s' m' else T1) := by
        split
        next c1 =>
          have := (pI_up hg hI1 hs (by omega) (show mv < 32 by omega) (show (nGb c b).1 s mv = some s' from he) (by rw [hT1s, htm]; exact c1)).1
          rw [hT1s, htm] at this
          exact this
        next => exact hI1
      have hle : ∀ q, q < 1024 → (if m' < T1 s' then pU T1 s' m' else T1) q ≤ T1 q := fun q hq => (hv1 q hq).1
      have hc2 : pCl (nGb c b) (if m' < T1 s' then pU T1 s' m' else T1) s mv := by
        intro s2 hs2
        have : s2 = s' := Option.some.inj (hs2.symm.trans he)
        subst this
        have e1 : (if m' < T1 s2 then pU T1 s2 m' else T1) s = now := by
          have := hv1 s hs
          omega
        rw [e1, htm]
        split
        · rw [pU_at]; exact Nat.le_refl _
        · omega
      have hb2 : ∀ q, q < 1024 → (if m' < T1 s' then pU T1 s' m' else T1) q < 1000000 → (if m' < T1 s' then pU T1 s' m' else T1) q ≤ now + 29 := by
        intro q hq hqf
        by_cases c1 : m' < T1 s'
        · rw [if_pos c1] at hqf ⊢
          by_cases c2 : q = s'
          · subst c2; rw [pU_at]; omega
          · rw [pU_ne T1 _ c2] at hqf ⊢; exact hb1 q hq hqf
        · rw [if_neg c1] at hqf ⊢; exact hb1 q hq hqf
      generalize (if m' < T1 s' then pU T1 s' m' else T1) = T2 at hB2 hv1 hI2 hle hc2 hb2
      refine x_iinc4 (pc2 := 51) dX2_spread_48 rfl (z_inc1 _) rfl ?_
      refine x_goto (pc2 := 9) dX2_spread_51 rfl ?_
      rw [← nI_succ]
      refine ih (mv + 1) (by omega) τ2 T2 B2 _ (hF.tr hF2 (fun q hq => (hV q hq).1)) hB2 hI2 (hV.tr hv1) hb2 (fun mv' hm2 => ?_)
      by_cases q : mv' = mv
      · subst q; exact hc2
      · refine (hcl mv' (by omega)).mono hg hs ?_ hle
        have := hv1 s hs
        omega
/-! one minute's states, one behind the other -/
def Xc (X : Nat → Int32) : Int32 → List Nat → Prop
  | h, [] => h = -1
  | h, s :: l => s < 1024 ∧ h = nI s ∧ Xc X (X s) l
theorem Xc_lk {X P : Nat → Int32} : ∀ (l : List Nat) (p h : Int32), lk X P p h l → Xc X h l
  | [], _, _, hh => hh
  | _ :: l, _, _, hh => ⟨hh.1, hh.2.1, Xc_lk l _ _ hh.2.2.2⟩
theorem Xc_congr {X X' : Nat → Int32} : ∀ (l : List Nat) (h : Int32), (∀ s, s ∈ l → X' s = X s) → Xc X h l → Xc X' h l
  | [], _, _, hh => hh
  | s :: l, h, he, hh => ⟨hh.1, hh.2.1, by rw [he s (by simp)]; exact Xc_congr l _ (fun q hq => he q (by simp [hq])) hh.2.2⟩
theorem nd_len {l : List Nat} (h : l.Nodup) (hl : ∀ q, q ∈ l → q < 1024) : l.length ≤ 1024 := by
  have := List.Nodup.length_le_of_subset (l₂ := List.range 1024) h (fun q hq => List.mem_range.mpr (hl q hq))
  rw [List.length_range] at this
  exact this
/-- how far the search is: O settled (in their order), cur still to be settled of minute now -/
def sL (c : zG) (b : Bool) (τ : zS) (T : Nat → Nat) (now : Nat) (O cur : List Nat) : Prop := gSr τ c b ∧ pI (nGb c b) T ∧ (τ.1 31 10 = nI O.length ∧ ∀ k q, O[k]? = some q → τ.1 37 k = nI q) ∧ (O ++ cur).Nodup ∧ (∀ q, q < 1024 → (q ∈ O ++ cur ↔ T q ≤ now)) ∧ (∀ q, q ∈ O ++ cur → q < 1024) ∧ (∀ q, q ∈ cur → T q = now) ∧ (∀ q, q ∈ O → ∀ mv, mv < 32 → pCl (nGb c b) T q mv) ∧ O.Pairwise (fun x y => T x ≤ T y) ∧ (∀ q, q < 1024 → T q < 1000000 → T q ≤ now + 29)
/-- what a search may write -/
def sF (σ τ : zS) : Prop := (∀ q, q < 31 ∨ 40 < q → τ.1 q = σ.1 q) ∧ τ.2 = σ.2
theorem sF.tr {σ τ υ : zS} (h : sF σ τ) (h' : sF τ υ) : sF σ υ := ⟨fun q hq => by rw [h'.1 q hq, h.1 q hq], by rw [h'.2, h.2]⟩
theorem bF.s {σ τ : zS} {T : Nat → Nat} {lo : Nat} (h : bF σ τ T lo) : sF σ τ := ⟨fun q hq => h.1 q (by omega) (by omega) (by omega) (by omega) (by omega), h.2.2.1⟩
theorem sF.st {σ τ : zS} (h : sF σ τ) (r j : Nat) (v : Int32) (hr : 31 ≤ r ∧ r ≤ 40) : sF σ (z_st τ r j v) := ⟨fun q hq => by rw [z_st_row _ _ _ (by omega), h.1 q hq], h.2⟩
theorem sF.rf {σ : zS} : sF σ σ := ⟨fun _ _ => rfl, rfl⟩
theorem s_settleAll (d : Nat) {τ : zS} {c : zG} {b : Bool} (hc : gWf c) (h4 : 4 ≤ cM c) {T : Nat → Nat} {now : Nat} {O : List Nat} {B : Nat → List Nat} (hnow : now ≤ 29667) (hr : gSr τ c b) (hI : pI (nGb c b) T) (hO : τ.1 31 10 = nI O.length ∧ ∀ k q, O[k]? = some q → τ.1 37 k = nI q) (hnd : O.Nodup) (hm : ∀ q, q < 1024 → (q ∈ O ↔ T q < now)) (hOl : ∀ q, q ∈ O → q < 1024) (hcl : ∀ q, q ∈ O → ∀ mv, mv < 32 → pCl (nGb c b) T q mv) (hso : O.Pairwise (fun x y => T x ≤ T y)) (hbd : ∀ q, q < 1024 → T q < 1000000 → T q < now + 29) (hB : bI τ T now 0 B) : z_Ex mX2_settleAll (d + 4) [.ref 31, .int (nI now)] τ (fun rv τ' => rv = none ∧ sF τ τ' ∧ ∃ T' O' B', sV T T' now ∧ sL c b τ' T' now O' [] ∧ bI τ' T' (now + 1) 0 B') := by
  have hg := nGb_gr hc b
  have hb : now % 32 < 32 := Nat.mod_lt _ (by decide)
  obtain ⟨a1, a2, a3, a4, a5⟩ := hB
  obtain ⟨k1, k2⟩ := a2 _ hb
  have hcur : ∀ q, q < 1024 → (q ∈ B (now % 32) ↔ T q = now) := fun q hq => by
    rw [a3 q _ hq hb]
    have := hbd q hq
    constructor
    · rintro ⟨x1, x2, x3⟩
      have := this x2
      omega
    · intro x; exact ⟨by omega, by omega, by rw [x]⟩
  have hcl1 := lk_lt _ _ _ k1
  refine x_enter (by decide) (Nat.le_of_ble_eq_true rfl) ?_
  show z_At _ _ _ [.ref 31, .int (nI now), .null, .null] _ _ _
  refine x_aload0 (pc2 := 1) dX2_settleAll_0 rfl ?_
  refine x_getR (pc2 := 4) fX2_31 sh_31 rfl dX2_settleAll_1 rfl ?_
  refine x_iload1 (pc2 := 5) dX2_settleAll_4 rfl ?_
  refine x_bipush (v := 32) (pc2 := 7) dX2_settleAll_5 rfl (by decide) ?_
  refine x_irem (pc2 := 8) dX2_settleAll_7 rfl (by decide) ?_
  rw [nI_rem32 (by omega)]
  refine x_iald (pc2 := 9) sh_38 (by exact z_in hb) dX2_settleAll_8 rfl ?_
  refine x_istore2 (pc2 := 10) dX2_settleAll_9 rfl rfl ?_
  refine x_aload0 (pc2 := 11) dX2_settleAll_10 rfl ?_
  refine x_getR (pc2 := 14) fX2_31 sh_31 rfl dX2_settleAll_11 rfl ?_
  refine x_iload1 (pc2 := 15) dX2_settleAll_14 rfl ?_
  refine x_bipush (v := 32) (pc2 := 17) dX2_settleAll_15 rfl (by decide) ?_
  refine x_irem (pc2 := 18) dX2_settleAll_17 rfl (by decide) ?_
  rw [nI_rem32 (by omega), nI_clamp (by omega)]
  refine x_iconst (v := -1) (pc2 := 19) dX2_settleAll_18 rfl (by decide) ?_
  refine x_iast (pc2 := 20) sh_38 (by exact z_in hb) dX2_settleAll_19 rfl ?_
  refine x_iconst (v := 0) (pc2 := 21) dX2_settleAll_20 rfl (by decide) ?_
  refine x_istore3 (pc2 := 22) dX2_settleAll_21 rfl rfl ?_
  rw [nI_clamp (by omega)]
  have hB0 : bI (z_st τ 38 (now % 32) (-1)) T (now + 1) (B (now % 32)).length (bU B (now % 32) []) := by
    refine ⟨fun s hs => by rw [z_st_row _ _ _ (by decide)]; exact a1 s hs, fun x hx => ?_, fun s x hs hx => ?_, ?_, a5⟩
    · rw [z_st_row _ _ _ (by decide), z_st_row _ _ _ (by decide)]
      by_cases e : x = now % 32
      · subst e; rw [bU_at, z_st_at]; exact ⟨rfl, List.nodup_nil⟩
      · rw [bU_ne _ _ e, z_st_fld _ _ _ e]; exact a2 x hx
    · by_cases e : x = now % 32
      · subst e
        rw [bU_at]
        have := hbd s hs
        constructor
        · intro q; simp at q
        · rintro ⟨q1, q2, q3⟩
          have := this q2
          omega
      · rw [bU_ne _ _ e, a3 s x hs hx]
        constructor
        · rintro ⟨q1, q2, q3⟩
          refine ⟨?_, q2, q3⟩
          have : T s ≠ now := fun q => by rw [q] at q3; exact e q3.symm
          omega
        · rintro ⟨q1, q2, q3⟩; exact ⟨by omega, q2, q3⟩
    · rw [z_st_row _ _ _ (by decide), a4]
      have := bU_len B (j := now % 32) [] hb
      rw [List.length_nil] at this
      congr 1
      omega
  have hL0 : sL c b (z_st τ 38 (now % 32) (-1)) T now O (B (now % 32)) := by
    refine ⟨hr.of (fun j _ => by rw [z_st_row _ _ _ (by decide)]) (fun q h1 h2 => z_st_row _ _ _ (by omega)), hI, ?_, ?_, ?_, ?_, ?_, hcl, hso, fun q hq hf => by have := hbd q hq hf; omega⟩
    · rw [z_st_row _ _ _ (by decide), z_st_row _ _ _ (by decide)]; exact hO
    · refine List.nodup_append.mpr ⟨hnd, k2, fun x hx y hy e => ?_⟩
      subst e
      have h1 := hcl1 x hy
      have h2 := (hm x h1).mp hx
      have h3 := (hcur x h1).mp hy
      omega
    · intro q hq
      rw [List.mem_append, hm q hq, hcur q hq]
      omega
    · intro q hq
      rcases List.mem_append.mp hq with x | x
      · exact hOl q x
      · exact hcl1 q x
    · intro q hq
      exact (hcur q (hcl1 q hq)).mp hq
  have hX0 : Xc ((z_st τ 38 (now % 32) (-1)).1 39) (τ.1 38 (now % 32)) (B (now % 32)) := by
    rw [z_st_row _ _ _ (by decide)]
    exact Xc_lk _ _ _ k1
  have hF0 : sF τ (z_st τ 38 (now % 32) (-1)) := sF.rf.st _ _ _ (by omega)
  generalize z_st τ 38 (now % 32) (-1) = τ0 at hB0 hL0 hX0 hF0
  generalize bU B (now % 32) [] = B0 at hB0
  generalize τ.1 38 (now % 32) = hd at hX0
  generalize B (now % 32) = cur0 at hB0 hL0 hX0
  suffices hl : ∀ (cur : List Nat) (τ1 : zS) (T1 : Nat → Nat) (O1 : List Nat) (B1 : Nat → List Nat) (hd : Int32) (g : Nat), g ≤ O1.length → sF τ τ1 → sV T T1 now → sL c b τ1 T1 now O1 cur → bI τ1 T1 (now + 1) cur.length B1 → Xc (τ1.1 39) hd cur → z_At mX2_settleAll (d + 4) 22 [.ref 31, .int (nI now), .int hd, .int (nI g)] [] τ1 (fun rv τ' => rv = none ∧ sF τ τ' ∧ ∃ T' O' B', sV T T' now ∧ sL c b τ' T' now O' [] ∧ bI τ' T' (now + 1) 0 B') from
    hl cur0 τ0 T O B0 hd 0 (Nat.zero_le _) hF0 sV.rf hL0 hB0 hX0
  clear hB0 hL0 hX0 hF0 hcur hcl1 k1 k2 a1 a2 a3 a4 a5
  intro cur
  induction cur with
  | nil =>
    intro τ1 T1 O1 B1 hd g hgl hF hV hL hB1 hX
    have hX : hd = -1 := hX
    subst hX
    refine x_iload3 (pc2 := 23) dX2_settleAll_22 rfl ?_
    refine x_sipush (v := 1024) (pc2 := 26) dX2_settleAll_23 rfl (by decide) ?_
    refine x_icmp_ge (pc2 := 29) (pc3 := 93) dX2_settleAll_26 rfl rfl (fun h26 => ?_) (fun h26 => ?_)
    · skip
      refine x_vret dX2_settleAll_93 rfl ?_
      exact ⟨rfl, hF, T1, O1, B1, hV, hL, hB1⟩
    refine x_iload2 (pc2 := 30) dX2_settleAll_29 rfl ?_
    refine x_iconst (v := -1) (pc2 := 31) dX2_settleAll_30 rfl (by decide) ?_
    refine x_icmp_eq (pc2 := 34) (pc3 := 93) dX2_settleAll_31 rfl rfl (fun h31 => ?_) (fun h31 => ?_)
    rotate_left
    · exact absurd rfl h31
    refine x_vret dX2_settleAll_93 rfl ?_
    exact ⟨rfl, hF, T1, O1, B1, hV, hL, hB1⟩
  | cons s cur ih =>
    intro τ1 T1 O1 B1 hd g hgl hF hV hL hB1 hX
    obtain ⟨hs, rfl, hX⟩ := hX
    obtain ⟨l1, l2, l3, l4, l5, l6, l7, l8, l9, l10⟩ := hL
    have hTs : T1 s = now := l7 s (by simp)
    have hlen : O1.length < 1024 := by
      have := nd_len l4 l6
      simp only [List.length_append, List.length_cons] at this
      omega
    refine x_iload3 (pc2 := 23) dX2_settleAll_22 rfl ?_
    refine x_sipush (v := 1024) (pc2 := 26) dX2_settleAll_23 rfl (by decide) ?_
    refine x_icmp_ge (pc2 := 29) (pc3 := 93) dX2_settleAll_26 rfl rfl (fun h26 => ?_) (fun h26 => ?_)
    · exact absurd ((nI_le_iff (a := 1024) (by omega) (by omega)).mp h26) (by omega)
    refine x_iload2 (pc2 := 30) dX2_settleAll_29 rfl ?_
    refine x_iconst (v := -1) (pc2 := 31) dX2_settleAll_30 rfl (by decide) ?_
    refine x_icmp_eq (pc2 := 34) (pc3 := 93) dX2_settleAll_31 rfl rfl (fun h31 => ?_) (fun h31 => ?_)
    · exact absurd h31 (nI_m1ne (by omega))
    refine x_aload0 (pc2 := 35) dX2_settleAll_34 rfl ?_
    refine x_getI (pc2 := 38) fX2_86 sh_31 rfl dX2_settleAll_35 rfl ?_
    refine x_sipush (v := 1024) (pc2 := 41) dX2_settleAll_38 rfl (by decide) ?_
    rw [l3.1]
    refine x_icmp_ge (pc2 := 44) (pc3 := 93) dX2_settleAll_41 rfl rfl (fun h41 => ?_) (fun h41 => ?_)
    · exact absurd ((nI_le_iff (a := 1024) (by omega) (by omega)).mp h41) (by omega)
    refine x_aload0 (pc2 := 45) dX2_settleAll_44 rfl ?_
    refine x_getR (pc2 := 48) fX2_28 sh_31 rfl dX2_settleAll_45 rfl ?_
    refine x_aload0 (pc2 := 49) dX2_settleAll_48 rfl ?_
    refine x_getI (pc2 := 52) fX2_86 sh_31 rfl dX2_settleAll_49 rfl ?_
    rw [l3.1]
    refine x_iload2 (pc2 := 53) dX2_settleAll_52 rfl ?_
    refine x_iast (pc2 := 54) sh_37 (by exact z_in hlen) dX2_settleAll_53 rfl ?_
    rw [nI_clamp (by omega)]
    refine x_aload0 (pc2 := 55) dX2_settleAll_54 rfl ?_
    refine x_dup (pc2 := 56) dX2_settleAll_55 rfl rfl ?_
    refine x_getI (pc2 := 59) fX2_86 sh_31 rfl dX2_settleAll_56 rfl ?_
    refine x_iconst (v := 1) (pc2 := 60) dX2_settleAll_59 rfl (by decide) ?_
    rw [z_st_row _ _ _ (by decide), l3.1]
    refine x_iadd (pc2 := 61) dX2_settleAll_60 rfl ?_
    rw [← nI_succ]
    refine x_putI (pc2 := 64) pX2_86 sh_31 rfl dX2_settleAll_61 rfl ?_
    refine x_aload0 (pc2 := 65) dX2_settleAll_64 rfl ?_
    refine x_dup (pc2 := 66) dX2_settleAll_65 rfl rfl ?_
    refine x_getI (pc2 := 69) fX2_52 sh_31 rfl dX2_settleAll_66 rfl ?_
    refine x_iconst (v := 1) (pc2 := 70) dX2_settleAll_69 rfl (by decide) ?_
    rw [z_st_fld _ _ _ (by decide), z_st_row _ _ _ (by decide), hB1.2.2.2.1, List.length_cons, ← Nat.add_assoc]
    refine x_isub (pc2 := 71) dX2_settleAll_70 rfl ?_
    rw [nI_pred]
    refine x_putI (pc2 := 74) pX2_52 sh_31 rfl dX2_settleAll_71 rfl ?_
    refine x_aload0 (pc2 := 75) dX2_settleAll_74 rfl ?_
    refine x_iload2 (pc2 := 76) dX2_settleAll_75 rfl ?_
    refine x_iload1 (pc2 := 77) dX2_settleAll_76 rfl ?_
    generalize hτ2 : z_st (z_st (z_st τ1 37 O1.length (nI s)) 31 10 (nI (O1.length + 1))) 31 11 (nI (pS (fun b => (B1 b).length) 32 + cur.length)) = τ2
    have e1 : ∀ q, q ≠ 31 → q ≠ 37 → τ2.1 q = τ1.1 q := fun q x y => by rw [← hτ2, z_st_row _ _ _ x, z_st_row _ _ _ x, z_st_row _ _ _ y]
    have e2 : ∀ j, j ≠ 10 → j ≠ 11 → τ2.1 31 j = τ1.1 31 j := fun j x y => by rw [← hτ2, z_st_fld _ _ _ y, z_st_fld _ _ _ x, z_st_row _ _ _ (by decide)]
    have e3 : τ2.1 31 10 = nI (O1.length + 1) := by rw [← hτ2, z_st_fld _ _ _ (by decide), z_st_at]
    have e4 : τ2.1 31 11 = nI (pS (fun b => (B1 b).length) 32 + cur.length) := by rw [← hτ2, z_st_at]
    have e5 : τ2.1 37 = upd (τ1.1 37) O1.length (nI s) := by rw [← hτ2, z_st_row _ _ _ (by decide), z_st_row _ _ _ (by decide), z_st_rowS]
    have e6 : sF τ τ2 := by rw [← hτ2]; exact ((hF.st _ _ _ (by omega)).st _ _ _ (by omega)).st _ _ _ (by omega)
    clear hτ2
    have hr2 : gSr τ2 c b := l1.of (fun j hj => e2 j (by omega) (by omega)) (fun q h1 h2 => e1 q (by omega) (by omega))
    have hB2 : bI τ2 T1 (now + 1) cur.length B1 := by
      obtain ⟨x1, x2, x3, x4, x5⟩ := hB1
      refine ⟨fun q hq => by rw [e1 36 (by decide) (by decide)]; exact x1 q hq, fun q hq => ?_, x3, e4, x5⟩
      rw [e1 38 (by decide) (by decide), e1 39 (by decide) (by decide), e1 40 (by decide) (by decide)]
      exact x2 q hq
    refine x_cV2 eX2_spread kX2_113 sh_31 rfl (Nat.le_of_ble_eq_true rfl) dX2_settleAll_77 ?_
    refine (s_spreadC d hc h4 hr2 hB2 l2 l10 hnow hs hTs).mono ?_
    rintro rv τ3 ⟨rfl, hF3, T3, B3, hB3, hI3, hV3, hb3, hc3⟩
    show z_At _ _ 80 _ [] _ _
    have hT3 : ∀ q, q < 1024 → T1 q ≤ now → T3 q = T1 q := fun q hq hle => by have := hV3 q hq; omega
    have hOc : ∀ q, q ∈ O1 ++ s :: cur → q < 1024 ∧ T1 q ≤ now := fun q hq => ⟨l6 q hq, (l5 q (l6 q hq)).mp hq⟩
    have hX3 : ∀ q, q < 1024 → T1 q ≤ now → τ3.1 39 q = τ1.1 39 q := fun q hq hle => by rw [hF3.2.2.2 q hq (by omega), e1 39 (by decide) (by decide)]
    have eap : O1 ++ [s] ++ cur = O1 ++ s :: cur := by simp
    refine x_aload0 (pc2 := 81) dX2_settleAll_80 rfl ?_
    refine x_getR (pc2 := 84) fX2_34 sh_31 rfl dX2_settleAll_81 rfl ?_
    refine x_iload2 (pc2 := 85) dX2_settleAll_84 rfl ?_
    refine x_iald (pc2 := 86) sh_39 (by exact z_in hs) dX2_settleAll_85 rfl ?_
    rw [nI_clamp (by omega), hX3 s hs (by omega)]
    refine x_istore2 (pc2 := 87) dX2_settleAll_86 rfl rfl ?_
    refine x_iinc3 (pc2 := 90) dX2_settleAll_87 rfl (z_inc1 _) rfl ?_
    refine x_goto (pc2 := 22) dX2_settleAll_90 rfl ?_
    rw [← nI_succ]
    refine ih τ3 T3 (O1 ++ [s]) B3 _ (g + 1) (by simp; omega) (e6.tr hF3.s) (hV.tr hV3) ⟨hr2.b hF3, hI3, ⟨?_, fun k q hk => ?_⟩, ?_, fun q hq => ?_, ?_, fun q hq => ?_, fun q hq mv hmv => ?_, ?_, hb3⟩ hB3 (Xc_congr cur _ (fun q hq => ?_) hX)
    · rw [hF3.2.1 10 (by decide), e3]; simp
    · rw [hF3.1 37 (by decide) (by decide) (by decide) (by decide) (by decide), e5]
      unfold upd
      by_cases x : k < O1.length
      · rw [List.getElem?_append_left x] at hk
        rw [if_neg (by omega)]
        exact l3.2 k q hk
      · rw [List.getElem?_append_right (by omega)] at hk
        have hk0 : k - O1.length = 0 := by
          rcases Nat.eq_zero_or_pos (k - O1.length) with y | y
          · exact y
          · rw [List.getElem?_eq_none (by simp; omega)] at hk; cases hk
        rw [hk0] at hk
        rw [if_pos (by omega)]
        simp at hk
        rw [hk]
    · rw [eap]; exact l4
    · rw [eap, l5 q hq]
      have := hV3 q hq
      omega
    · rw [eap]; exact l6
    · rw [hT3 q (hOc q (by simp [hq])).1 (hOc q (by simp [hq])).2]
      exact l7 q (by simp [hq])
    · rcases List.mem_append.mp hq with x | x
      · have y := hOc q (by simp [x])
        exact (l8 q x mv hmv).mono hg y.1 (hT3 q y.1 y.2) (fun q hq => (hV3 q hq).1)
      · have : q = s := by simpa using x
        subst this
        exact hc3 mv hmv
    · refine List.pairwise_append.mpr ⟨?_, List.pairwise_singleton _ _, fun x hx y hy => ?_⟩
      · refine List.Pairwise.imp_of_mem (fun {x y} hx hy h => ?_) l9
        have a := hOc x (by simp [hx])
        have b := hOc y (by simp [hy])
        rw [hT3 x a.1 a.2, hT3 y b.1 b.2]
        exact h
      · have : y = s := by simpa using hy
        subst this
        have a := hOc x (by simp [hx])
        rw [hT3 x a.1 a.2, hT3 y hs (by omega), hTs]
        exact a.2
    · have := hOc q (by simp [hq])
      exact hX3 q this.1 this.2
