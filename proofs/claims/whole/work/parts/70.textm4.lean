/-! the model's readAll -/
def gAll (σ : zS) (b0 n : Nat) (L : Option Nat × zP) (rv : Option Value) (τ : zS) : Prop := (L.1 = none ∧ rv = some (.int 1) ∧ gQ σ b0 τ L.2 n) ∨ (∃ q, L.1 = some q ∧ q ≤ n ∧ rv = some (.int 0) ∧ gQf σ τ ∧ τ.1 43 15 = nI (b0 + q))
theorem gQ.sign {σ τ : zS} {b0 p : Nat} {s : zP} (h : gQ σ b0 τ s p) (due : Nat) (hd : 3 ≤ due → 3 ≤ s.1) : gQ σ b0 (z_st τ 43 15 (nI (b0 + p + 1))) (due, s.2) (p + 1) := by
  obtain ⟨hF, ⟨q1, q2, q3, q4⟩, q5, q6⟩ := h
  refine ⟨hF.at (by decide) _, ⟨?_, ?_, ?_, fun h => ?_⟩, fun j hj => ?_, fun t ht => ?_⟩
  · rw [z_st_at]; rfl
  · rw [z_st_fld _ _ _ (by decide)]; exact q2
  · rw [z_st_fld _ _ _ (by decide)]; exact q3
  · rw [z_st_fld _ _ _ (by decide)]; exact q4 (hd h)
  · rw [z_st_row _ _ _ (by decide)]; exact q5 j hj
  · rw [z_st_row _ _ _ (by decide)]; exact q6 t ht
theorem s_rA111 (d : Nat) {σ : zS} {b0 n : Nat} (hb : b0 + n ≤ 240) {f : Nat → Int32} (hf : ∀ p, f p = σ.1 46 (b0 + p)) {N : Nat} (hN : 0 < N) : ∀ (k : Nat) {τ : zS} {B : Int32} {K p : Nat} {ln md kd pd : Nat → Int32}, 4 - K = k → 1 ≤ K → K ≤ 4 → p ≤ n → gQ σ b0 τ (3, B, N, K, ln, md, kd, pd) p → z_At mX6_readAll (d + 3) 111 [.ref 43, .int (nI (b0 + n))] [] τ (gAll σ b0 n (pLoop f n (n - p) p (3, B, N, K, ln, md, kd, pd))) := by
  intro k
  induction k with
  | zero => ?_
  | succ k ih => ?_
  all_goals intro τ B K p ln md kd pd hk hK1 hK4 hp hQ
  all_goals have q1 := hQ.2.1.1
  all_goals have q3 : τ.1 43 18 = nI K := hQ.2.1.2.2.1
  all_goals have e46 : τ.1 46 = σ.1 46 := hQ.1.1 46 (by decide) (by decide) (by decide)
  all_goals
    have hend : (K < 4 → p < n → ¬ f p = 44) → z_At mX6_readAll (d + 3) 139 [.ref 43, .int (nI (b0 + n))] [] τ (gAll σ b0 n (pLoop f n (n - p) p (3, B, N, K, ln, md, kd, pd))) := by
      intro hno
      refine x_aload0 (pc2 := 140) dX6_readAll_139 rfl ?_
      refine x_getI (pc2 := 143) fX6_90 sh_43 rfl dX6_readAll_140 rfl ?_
      rw [q1]
      refine x_iload1 (pc2 := 144) dX6_readAll_143 rfl ?_
      refine x_icmp_ne (pc2 := 147) (pc3 := 151) dX6_readAll_144 rfl rfl (fun h144 => ?_) (fun h144 => ?_)
      · have h144 : ¬ p = n := fun q => h144 (by rw [q])
        refine x_iconst (v := 0) (pc2 := 152) dX6_readAll_151 rfl (by decide) ?_
        refine x_zret dX6_readAll_152 rfl (by first | assumption | exact z_b01 _ | exact Or.inl rfl | exact Or.inr rfl) ?_
        refine Or.inr ⟨p, pl_stop hp (Or.inr ?_) (fun q => h144 q.1), hp, rfl, hQ.1, q1⟩
        have x1 : ¬ (f p = 59 ∧ K = 0 ∧ N < 3) := fun q => by omega
        have x2 : ¬ (f p = 44 ∧ 0 < N ∧ K < 4) := fun q => hno q.2.2 (by omega) q.1
        unfold pStep
        simp only [Nat.reduceEqDiff, if_false, if_true, if_neg x1, if_neg x2]
      · have h144 : p = n := by
          have := (nI_eq_iff (by omega) (by omega)).mp h144
          omega
        refine x_iconst (v := 1) (pc2 := 148) dX6_readAll_147 rfl (by decide) ?_
        refine x_goto (pc2 := 152) dX6_readAll_148 rfl ?_
        refine x_zret dX6_readAll_152 rfl (by first | assumption | exact z_b01 _ | exact Or.inl rfl | exact Or.inr rfl) ?_
        subst h144
        rw [pl_end ⟨rfl, by show 0 < K; omega⟩]
        exact Or.inl ⟨rfl, rfl, hQ⟩
  · skip
    refine x_aload0 (pc2 := 112) dX6_readAll_111 rfl ?_
    refine x_getI (pc2 := 115) fX6_120 sh_43 rfl dX6_readAll_112 rfl ?_
    rw [q3]
    refine x_iconst (v := 4) (pc2 := 116) dX6_readAll_115 rfl (by decide) ?_
    refine x_icmp_ge (pc2 := 119) (pc3 := 139) dX6_readAll_116 rfl rfl (fun h116 => ?_) (fun h116 => ?_)
    · exact hend (fun q => absurd q (by omega))
    · exact absurd ((nI_le_iff (a := 4) (by omega) (by omega)).mpr (by omega)) h116
  · skip
    refine x_aload0 (pc2 := 112) dX6_readAll_111 rfl ?_
    refine x_getI (pc2 := 115) fX6_120 sh_43 rfl dX6_readAll_112 rfl ?_
    rw [q3]
    refine x_iconst (v := 4) (pc2 := 116) dX6_readAll_115 rfl (by decide) ?_
    refine x_icmp_ge (pc2 := 119) (pc3 := 139) dX6_readAll_116 rfl rfl (fun h116 => ?_) (fun h116 => ?_)
    · exact absurd ((nI_le_iff (a := 4) (by omega) (by omega)).mp h116) (by omega)
    refine x_aload0 (pc2 := 120) dX6_readAll_119 rfl ?_
    refine x_iload1 (pc2 := 121) dX6_readAll_120 rfl ?_
    refine x_bipush (v := 44) (pc2 := 123) dX6_readAll_121 rfl (by decide) ?_
    refine x_fV2 (pc2 := 126) eX6_isSign kX6_126 sh_43 rfl (Nat.le_of_ble_eq_true rfl) dX6_readAll_123 rfl (s_isSign _ q1 (by omega) (by omega) 44) ?_
    rw [e46, ← hf p]
    by_cases c : b0 + p < b0 + n ∧ f p = 44
    · rw [if_pos c, decide_eq_true c]
      refine x_if_eq (pc2 := 129) (pc3 := 139) dX6_readAll_126 rfl rfl (fun h126 => ?_) (fun h126 => ?_)
      · exact absurd h126 (by decide)
      have x1 : ¬ (f p = 59 ∧ K = 0 ∧ N < 3) := fun q => by omega
      have es : pStep (3, B, N, K, ln, md, kd, pd) (f p) = (6, B, N, K, ln, md, kd, pd) := by
        unfold pStep
        simp only [Nat.reduceEqDiff, if_false, if_true, if_neg x1, if_pos (show f p = 44 ∧ 0 < N ∧ K < 4 from ⟨c.2, hN, by omega⟩)]
      have hgo := pl_go (f := f) (n := n) (s := (3, B, N, K, ln, md, kd, pd)) (p := p) (by omega) (by rw [es]; simp)
      rw [es] at hgo
      refine x_aload0 (pc2 := 130) dX6_readAll_129 rfl ?_
      refine x_iload1 (pc2 := 131) dX6_readAll_130 rfl ?_
      refine x_cV1 eX6_readOneThing kX6_137 sh_43 rfl (Nat.le_of_ble_eq_true rfl) dX6_readAll_131 ?_
      refine (s_readOneThing d hb hf (B := B) (N := N) (ln := ln) (md := md) (kd := kd) (pd := pd) (p := p + 1) (by omega) (by omega) (hQ.sign 6 (fun _ => Nat.le_refl 3))).mono ?_
      rintro rv υ (⟨⟨due, B2, N2, K2, ln2, md2, kd2, pd2⟩, p2, hp2, hL, ⟨e1, e2, e3⟩, rfl, hQ2⟩ | ⟨rfl, q, hq, hqn, hF, hat⟩)
      · show z_At _ _ 134 _ [.int _] _ _
        simp only at e1 e2 e3
        subst e1 e2 e3
        rw [hgo, hL]
        refine x_if_ne (pc2 := 137) (pc3 := 111) dX6_readAll_134 rfl rfl (fun h134 => ?_) (fun h134 => ?_)
        · exact ih (by omega) (by omega) (by omega) hp2 hQ2
        · exact absurd h134 (by decide)
      · show z_At _ _ 134 _ [.int _] _ _
        refine x_if_ne (pc2 := 137) (pc3 := 111) dX6_readAll_134 rfl rfl (fun h134 => ?_) (fun h134 => ?_)
        · exact absurd rfl h134
        refine x_iconst (v := 0) (pc2 := 138) dX6_readAll_137 rfl (by decide) ?_
        refine x_zret dX6_readAll_138 rfl (by first | assumption | exact z_b01 _ | exact Or.inl rfl | exact Or.inr rfl) ?_
        rw [hgo]
        exact Or.inr ⟨q, hq, hqn, rfl, hF, hat⟩
    · rw [if_neg c, decide_eq_false c]
      refine x_if_eq (pc2 := 129) (pc3 := 139) dX6_readAll_126 rfl rfl (fun h126 => ?_) (fun h126 => ?_)
      · exact hend (fun _ h2 h3 => c ⟨by omega, h3⟩)
      · exact absurd rfl h126
