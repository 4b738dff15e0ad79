/-! the class's search: least -/
theorem pS_le {f : Nat → Nat} {m : Nat} : ∀ n, (∀ i, i < n → f i ≤ m) → pS f n ≤ m * n
  | 0, _ => by simp [pS]
  | n + 1, h => by
    have a := pS_le n (fun i hi => h i (by omega))
    have b := h n (by omega)
    rw [pS, Nat.mul_add]
    omega
theorem pS_zero {f : Nat → Nat} : ∀ n, pS f n = 0 → ∀ i, i < n → f i = 0
  | 0, _, i, hi => by omega
  | n + 1, h, i, hi => by
    rw [pS] at h
    by_cases e : i = n
    · subst e; omega
    · exact pS_zero n (by omega) i (by omega)
/-- what a search answers and leaves behind -/
def sR (c : zG) (b : Bool) (rv : Option Value) (τ : zS) : Prop := ∃ T, (rv = some (.int (-9)) ∧ pD (nGb c b) 1000000 T ∧ T (nE c) = 1000000) ∨ ∃ now O, rv = some (.int (nI now)) ∧ now ≤ 29667 ∧ T (nE c) = now ∧ pD (nGb c b) now T ∧ sL c b τ T now O [] ∧ (∀ s, s < 1024 → τ.1 36 s = nI (T s))
theorem s_least (d : Nat) {σ : zS} {r : Nat} (hr : z_isP r) {c : zG} {b : Bool} (hc : gWf c) (hC : gC r σ c) : z_Ex mX2_least (d + 5) [.ref 31, .ref r, .int (z_b b)] σ (fun rv τ => sF σ τ ∧ sR c b rv τ) := by
  have hg := nGb_gr hc b
  have h4 := hC.1.2.2
  have hE := nE_lt hc
  refine x_enter (by decide) (Nat.le_of_ble_eq_true rfl) ?_
  show z_At _ _ _ [.ref 31, .ref r, .int (z_b b), .null] _ _ _
  refine x_aload0 (pc2 := 1) dX2_least_0 rfl ?_
  refine x_aload1 (pc2 := 2) dX2_least_1 rfl ?_
  refine x_iload2 (pc2 := 3) dX2_least_2 rfl ?_
  refine x_cV2 eX2_prepare kX2_43 sh_31 rfl (Nat.le_of_ble_eq_true rfl) dX2_least_3 ?_
  refine (s_prepare d hr hc hC).mono ?_
  rintro rv τ ⟨rfl, hSr, hF, hF2, ⟨h10, h11⟩, h36, h38⟩
  show z_At _ _ 6 _ [] _ _
  have hB0 : bI τ (fun _ => 1000000) 0 0 (fun _ => []) := by
    refine ⟨h36, fun x hx => ⟨h38 x hx, List.nodup_nil⟩, fun s x hs hx => ?_, h11, fun _ _ => Nat.le_refl _⟩
    constructor
    · intro q; simp at q
    · intro q; exact absurd q.2.1 (Nat.lt_irrefl _)
  refine x_aload0 (pc2 := 7) dX2_least_6 rfl ?_
  refine x_iconst (v := 0) (pc2 := 8) dX2_least_7 rfl (by decide) ?_
  refine x_iconst (v := 0) (pc2 := 9) dX2_least_8 rfl (by decide) ?_
  refine x_cV2 eX2_offer kX2_47 sh_31 rfl (Nat.le_of_ble_eq_true rfl) dX2_least_9 ?_
  refine (s_offer (d + 3) hB0 (s := 0) (m := 0) (by decide) (Nat.le_refl _) (by decide)).mono ?_
  rintro rv τ1 ⟨rfl, hF1, B1, hB1⟩
  show z_At _ _ 12 _ [] _ _
  rw [if_pos (by decide), show pU (fun _ => 1000000) 0 0 = pT0 from rfl] at hB1
  have hSr1 := hSr.b hF1
  have hs1 : sF σ τ1 := (show sF σ τ from ⟨fun q hq => hF q (by omega), hF2⟩).tr hF1.s
  have h10' : τ1.1 31 10 = nI ([] : List Nat).length := by rw [hF1.2.1 10 (by decide), h10]; rfl
  suffices hl : ∀ m now, now + m = 32768 → ∀ (τ2 : zS) (T : Nat → Nat) (O : List Nat) (B : Nat → List Nat), sF σ τ2 → gSr τ2 c b → pI (nGb c b) T → (τ2.1 31 10 = nI O.length ∧ ∀ k q, O[k]? = some q → τ2.1 37 k = nI q) → O.Nodup → (∀ q, q < 1024 → (q ∈ O ↔ T q < now)) → (∀ q, q ∈ O → q < 1024) → (∀ q, q ∈ O → ∀ mv, mv < 32 → pCl (nGb c b) T q mv) → O.Pairwise (fun x y => T x ≤ T y) → (∀ q, q < 1024 → T q < 1000000 → T q < now + 29) → bI τ2 T now 0 B → now ≤ T (nE c) → z_At mX2_least (d + 5) 14 [.ref 31, .ref r, .int (z_b b), .int (nI now)] [] τ2 (fun rv τ => sF σ τ ∧ sR c b rv τ) by
    refine x_iconst (v := 0) (pc2 := 13) dX2_least_12 rfl (by decide) ?_
    refine x_istore3 (pc2 := 14) dX2_least_13 rfl rfl ?_
    refine hl 32768 0 rfl τ1 pT0 [] B1 hs1 hSr1 (pI_T0 _) ⟨h10', fun k q hk => by simp at hk⟩ List.nodup_nil (fun q hq => by simp) (fun q hq => by simp at hq) (fun q hq => by simp at hq) List.Pairwise.nil (fun q hq hf => ?_) hB1 (Nat.zero_le _)
    unfold pT0 at hf ⊢
    split
    · omega
    next e => rw [if_neg e] at hf; omega
  clear hB1 hSr1 hs1 h10' hB0 hSr hF hF2 h10 h11 h36 h38
  have hnone : ∀ (τ2 : zS) (T : Nat → Nat) (now : Nat) (O : List Nat), sF σ τ2 → pI (nGb c b) T → (∀ q, q < 1024 → (q ∈ O ↔ T q < now)) → (∀ q, q ∈ O → ∀ mv, mv < 32 → pCl (nGb c b) T q mv) → now ≤ T (nE c) → (∀ q, q < 1024 → T q < 1000000 → T q < now) → sF σ τ2 ∧ sR c b (some (.int (-9))) τ2 := by
    intro τ2 T now O hF hI hm hcl hgo hall
    refine ⟨hF, T, Or.inl ⟨rfl, pD_of hI (fun s hs _ hf mv hmv => hcl s ((hm s hs).mpr (hall s hs hf)) mv hmv), ?_⟩⟩
    have := hI.lt hE
    have := hall _ hE
    omega
  intro m
  induction m with
  | zero =>
    intro now hn τ2 T O B hF hSr hI hO hnd hm hOl hcl hso hbd hB hgo
    obtain rfl : now = 32768 := by omega
    refine x_iload3 (pc2 := 15) dX2_least_14 rfl ?_
    refine x_ldc (pc2 := 17) (by decide +kernel : Cond.constant RX2 51 32768 ∈ lw_tbl) dX2_least_15 rfl ?_
    refine x_icmp_ge (pc2 := 20) (pc3 := 53) dX2_least_17 rfl rfl (fun h17 => ?_) (fun h17 => ?_)
    rotate_left
    · exact absurd (by decide) h17
    refine x_bipush (v := -9) (pc2 := 55) dX2_least_53 rfl (by decide) ?_
    refine x_iret dX2_least_55 rfl ?_
    refine hnone τ2 T 32768 O hF hI hm hcl hgo (fun q hq hf => ?_)
    have := hI.lt hq
    omega
  | succ m ih =>
    intro now hn τ2 T O B hF hSr hI hO hnd hm hOl hcl hso hbd hB hgo
    refine x_iload3 (pc2 := 15) dX2_least_14 rfl ?_
    refine x_ldc (pc2 := 17) (by decide +kernel : Cond.constant RX2 51 32768 ∈ lw_tbl) dX2_least_15 rfl ?_
    refine x_icmp_ge (pc2 := 20) (pc3 := 53) dX2_least_17 rfl rfl (fun h17 => ?_) (fun h17 => ?_)
    · exact absurd ((nI_le_iff (a := 32768) (by omega) (by omega)).mp h17) (by omega)
    refine x_aload0 (pc2 := 21) dX2_least_20 rfl ?_
    refine x_getI (pc2 := 24) fX2_52 sh_31 rfl dX2_least_21 rfl ?_
    rw [hB.2.2.2.1, Nat.add_zero]
    have hW : pS (fun x => (B x).length) 32 ≤ 1024 * 32 := pS_le 32 (fun i hi => nd_len (hB.2.1 i hi).2 (lk_lt _ _ _ (hB.2.1 i hi).1))
    refine x_if_le (pc2 := 27) (pc3 := 53) dX2_least_24 rfl rfl (fun h24 => ?_) (fun h24 => ?_)
    · have h0 : pS (fun x => (B x).length) 32 = 0 := by
        rcases Nat.eq_zero_or_pos (pS (fun x => (B x).length) 32) with e | e
        · exact e
        · exact absurd h24 (nI_nle e (by omega))
      refine x_bipush (v := -9) (pc2 := 55) dX2_least_53 rfl (by decide) ?_
      refine x_iret dX2_least_55 rfl ?_
      refine hnone τ2 T now O hF hI hm hcl hgo (fun q hq hf => ?_)
      rcases Nat.lt_or_ge (T q) now with e | e
      · exact e
      · have e1 := (hB.2.2.1 q _ hq (Nat.mod_lt _ (by decide))).mpr ⟨e, hf, rfl⟩
        have e2 := pS_zero 32 h0 (T q % 32) (Nat.mod_lt _ (by decide))
        rw [List.length_eq_zero_iff.mp e2] at e1
        simp at e1
    · have hnow : now ≤ 29667 := by
        rcases Nat.lt_or_ge 29667 now with e | e
        · exfalso
          apply h24
          have : ∀ i, i < 32 → (B i).length ≤ 0 := by
            intro i hi
            cases hBi : B i with
            | nil => simp
            | cons s l =>
              have hs : s ∈ B i := by rw [hBi]; simp
              have hs1 := lk_lt _ _ _ (hB.2.1 i hi).1 s hs
              have := (hB.2.2.1 s i hs1 hi).mp hs
              have := hI.lt hs1
              omega
          have := pS_le 32 this
          rw [show pS (fun x => (B x).length) 32 = 0 by omega]
          decide
        · exact e
      refine x_aload0 (pc2 := 28) dX2_least_27 rfl ?_
      refine x_iload3 (pc2 := 29) dX2_least_28 rfl ?_
      refine x_cV1 eX2_settleAll kX2_56 sh_31 rfl (Nat.le_of_ble_eq_true rfl) dX2_least_29 ?_
      refine (s_settleAll d hc h4 hnow hSr hI hO hnd hm hOl hcl hso hbd hB).mono ?_
      rintro rv τ3 ⟨rfl, hF3, T3, O3, B3, hV3, hL3, hB3⟩
      show z_At _ _ 32 _ [] _ _
      have hL3' := hL3
      obtain ⟨l1, l2, l3, l4, l5, l6, l7, l8, l9, l10⟩ := hL3'
      rw [List.append_nil] at l4 l5 l6
      have hT3E := hB3.2.2.2.2 _ hE
      refine x_aload0 (pc2 := 33) dX2_least_32 rfl ?_
      refine x_getR (pc2 := 36) fX2_25 sh_31 rfl dX2_least_33 rfl ?_
      refine x_aload0 (pc2 := 37) dX2_least_36 rfl ?_
      refine x_getI (pc2 := 40) fX2_60 sh_31 rfl dX2_least_37 rfl ?_
      rw [l1.1.2.2.1]
      refine x_iald (pc2 := 41) sh_36 (by exact z_in hE) dX2_least_40 rfl ?_
      rw [nI_clamp (by omega), hB3.1 _ hE]
      refine x_iload3 (pc2 := 42) dX2_least_41 rfl ?_
      refine x_icmp_ne (pc2 := 45) (pc3 := 47) dX2_least_42 rfl rfl (fun h42 => ?_) (fun h42 => ?_)
      · have hne : T3 (nE c) ≠ now := fun q => h42 (by rw [q])
        refine x_iinc3 (pc2 := 50) dX2_least_47 rfl (z_inc1 _) rfl ?_
        refine x_goto (pc2 := 14) dX2_least_50 rfl ?_
        rw [← nI_succ]
        have := hV3 _ hE
        refine ih (now + 1) (by omega) τ3 T3 O3 B3 (hF.tr hF3) l1 l2 l3 l4 (fun q hq => by rw [l5 q hq]; omega) l6 l8 l9 (fun q hq hf => by have := l10 q hq hf; omega) hB3 (by omega)
      · have heq : T3 (nE c) = now := nI_inj (by omega) (by omega) h42
        refine x_iload3 (pc2 := 46) dX2_least_45 rfl ?_
        refine x_iret dX2_least_46 rfl ?_
        exact ⟨hF.tr hF3, T3, Or.inr ⟨now, O3, rfl, hnow, heq, pD_of l2 (fun s hs hle _ mv hmv => l8 s ((l5 s hs).mpr hle) mv hmv), hL3, hB3.1⟩⟩
