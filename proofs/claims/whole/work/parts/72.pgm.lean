/-! the model's portage -/
theorem pLoop_due (f : Nat → Int32) (n : Nat) : ∀ m p s, (pLoop f n m p s).1 = none → (pLoop f n m p s).2.1 = 3
  | 0, p, s, h => by
    rw [pLoop] at h ⊢
    by_cases e : s.1 = 3 ∧ 0 < s.2.2.2.1
    · exact e.1
    · simp only [if_neg e] at h; cases h
  | m + 1, p, s, h => by
    rw [pLoop] at h ⊢
    by_cases e : (pStep s (f p)).1 = 0
    · rw [if_pos e] at h; cases h
    · rw [if_neg e] at h ⊢
      exact pLoop_due f n m (p + 1) _ h
theorem z_ag_hc {s la i n size : Int32} (h : z_ag s la i n size = 0) : s = la ∧ s ≠ -9 ∧ z_hc i n size = true := by
  unfold z_ag at h
  by_cases g1 : s ≠ -9 ∧ s ≠ la
  · rw [if_pos g1] at h; exact absurd h (by decide)
  rw [if_neg g1] at h
  by_cases hs9 : s = -9
  · rw [if_pos hs9] at h; exact absurd h (by decide)
  rw [if_neg hs9] at h
  by_cases g2 : ¬ 0 ≤ n
  · rw [if_pos g2] at h; exact absurd h (by decide)
  rw [if_neg g2] at h
  by_cases g3 : i < 0 ∨ size < i ∨ ¬ n ≤ size - i
  · rw [if_pos g3] at h; exact absurd h (by decide)
  have g2' : ¬ n < 0 := fun q => g2 (Int32.not_le.mpr q)
  have g4 : ¬ size - i < n := fun q => g3 (Or.inr (Or.inr (Int32.not_le.mpr q)))
  refine ⟨Classical.not_not.mp fun q => g1 ⟨hs9, q⟩, hs9, ?_⟩
  unfold z_hc
  simp only [decide_eq_false g2', decide_eq_false (fun q => g3 (Or.inl q) : ¬ i < 0), decide_eq_false (fun q => g3 (Or.inr (Or.inl q)) : ¬ size < i), decide_eq_false g4]
  rfl
def z_pmC (sh la i n sort size : Int32) : Int32 := if z_wi sh 0 3 = false then -1 else if z_wi la 0 2 = false then -2 else if ¬ z_ag sort la i n size = 0 then -10 - z_ag sort la i n size else 0
def z_pmF (sh la i n sort size f : Int32) : Int32 := if z_wi sh 0 3 = false then f else if z_wi la 0 2 = false then f else if ¬ z_ag sort la i n size = 0 then z_ag sort la i n size else f
/-- a new portage in the model -/
def gNm (σ τ : zS) (s : zP) : Prop := (∀ q, q ≠ 43 → ¬ (47 ≤ q ∧ q ≤ 53) → τ.1 q = σ.1 q) ∧ (∀ j, ¬ (5 ≤ j ∧ j ≤ 8) → ¬ (15 ≤ j ∧ j ≤ 18) → j ≠ 34 → τ.1 43 j = σ.1 43 j) ∧ τ.2 = σ.2 ∧ (τ.1 43 5 = s.2.1 ∧ τ.1 43 6 = nI s.2.2.1 ∧ τ.1 43 7 = nI s.2.2.2.1 ∧ τ.1 43 8 = -9 ∧ τ.1 43 34 = 0) ∧ (∀ j, j < s.2.2.1 → τ.1 47 j = s.2.2.2.2.1 j ∧ τ.1 48 j = s.2.2.2.2.2.1 j ∧ τ.1 49 j = 0) ∧ ∀ t, t < s.2.2.2.1 → τ.1 50 t = s.2.2.2.2.2.2.1 t ∧ τ.1 51 t = s.2.2.2.2.2.2.2 t
def gPmPost (σ0 : zS) (C : Int32) (F : Int32) (L : Option Nat × zP) (rv : Option Value) (τ : zS) : Prop :=
  (C ≠ 0 → rv = some (.int C) ∧ τ = z_st σ0 43 0 F) ∧ (C = 0 → (∀ p, L.1 = some p → rv = some (.int (-100 - nI p)) ∧ gQf σ0 τ) ∧ (L.1 = none → rv = some (.int (nI L.2.2.2.2.1)) ∧ gNm σ0 τ L.2))
/-- the last loop -/
theorem s_pm177 (d : Nat) {υ : zS} {K : Nat} (hK : υ.1 43 7 = nI K) (hK4 : K ≤ 4) {Q : Option Value → zS → Prop} (l1 l2 l3 l4 l5 : Value) (l6 : Int32) (hQ : ∀ τ : zS, (∀ q, q ≠ 43 → q ≠ 50 → q ≠ 51 → τ.1 q = υ.1 q) → (∀ j, j ≠ 34 → τ.1 43 j = υ.1 43 j) → τ.1 43 34 = 0 → τ.2 = υ.2 → (∀ t, t < K → τ.1 50 t = υ.1 53 (2 * t) ∧ τ.1 51 t = υ.1 53 (2 * t + 1)) → Q (some (.int (nI K))) τ) : ∀ m k, k + m = K → ∀ τ : zS, (∀ q, q ≠ 50 → q ≠ 51 → τ.1 q = υ.1 q) → τ.2 = υ.2 → (∀ t, t < k → τ.1 50 t = υ.1 53 (2 * t) ∧ τ.1 51 t = υ.1 53 (2 * t + 1)) → z_At mX6_portage d 177 [.ref 43, l1, l2, l3, l4, l5, .int l6, .int (nI k)] [] τ Q := by
  intro m
  induction m with
  | zero =>
    intro k hk τ h1 h2 h3
    have e7 : τ.1 43 7 = nI K := by rw [h1 43 (by decide) (by decide)]; exact hK
    refine x_iload7 (pc2 := 179) dX6_portage_177 rfl ?_
    refine x_aload0 (pc2 := 180) dX6_portage_179 rfl ?_
    refine x_getI (pc2 := 183) fX6_87 sh_43 rfl dX6_portage_180 rfl ?_
    rw [e7]
    refine x_icmp_ge (pc2 := 186) (pc3 := 226) dX6_portage_183 rfl rfl (fun h183 => ?_) (fun h183 => ?_)
    rotate_left
    · exact absurd ((nI_le_iff (by omega) (by omega)).mpr (by omega)) h183
    refine x_aload0 (pc2 := 227) dX6_portage_226 rfl ?_
    refine x_iconst (v := 0) (pc2 := 228) dX6_portage_227 rfl (by decide) ?_
    refine x_putI (pc2 := 231) pX6_123 sh_43 rfl dX6_portage_228 rfl ?_
    refine x_aload0 (pc2 := 232) dX6_portage_231 rfl ?_
    refine x_getI (pc2 := 235) fX6_87 sh_43 rfl dX6_portage_232 rfl ?_
    rw [z_st_fld _ _ _ (by decide), e7]
    refine x_iret dX6_portage_235 rfl ?_
    refine hQ _ (fun q a1 a2 a3 => ?_) (fun j hj => ?_) ?_ h2 (fun t ht => ?_)
    · rw [z_st_row _ _ _ a1]; exact h1 q a2 a3
    · rw [z_st_fld _ _ _ hj, h1 43 (by decide) (by decide)]
    · rw [z_st_at]
    · rw [z_st_row _ _ _ (by decide), z_st_row _ _ _ (by decide)]; exact h3 t (by omega)
  | succ m ih =>
    intro k hk τ h1 h2 h3
    have e7 : τ.1 43 7 = nI K := by rw [h1 43 (by decide) (by decide)]; exact hK
    have e2 := gb_two3 k (by omega)
    refine x_iload7 (pc2 := 179) dX6_portage_177 rfl ?_
    refine x_aload0 (pc2 := 180) dX6_portage_179 rfl ?_
    refine x_getI (pc2 := 183) fX6_87 sh_43 rfl dX6_portage_180 rfl ?_
    rw [e7]
    refine x_icmp_ge (pc2 := 186) (pc3 := 226) dX6_portage_183 rfl rfl (fun h183 => ?_) (fun h183 => ?_)
    · exact absurd ((nI_le_iff (by omega) (by omega)).mp h183) (by omega)
    refine x_aload0 (pc2 := 187) dX6_portage_186 rfl ?_
    refine x_getR (pc2 := 190) fX6_33 sh_43 rfl dX6_portage_187 rfl ?_
    refine x_iload7 (pc2 := 192) dX6_portage_190 rfl ?_
    refine x_aload0 (pc2 := 193) dX6_portage_192 rfl ?_
    refine x_getR (pc2 := 196) fX6_45 sh_43 rfl dX6_portage_193 rfl ?_
    refine x_iconst (v := 2) (pc2 := 197) dX6_portage_196 rfl (by decide) ?_
    refine x_iload7 (pc2 := 199) dX6_portage_197 rfl ?_
    refine x_imul (pc2 := 200) dX6_portage_199 rfl ?_
    rw [e2]
    refine x_iald (pc2 := 201) sh_53 (by exact z_in (by omega)) dX6_portage_200 rfl ?_
    refine x_iast (pc2 := 202) sh_50 (by exact z_in (by omega)) dX6_portage_201 rfl ?_
    refine x_aload0 (pc2 := 203) dX6_portage_202 rfl ?_
    refine x_getR (pc2 := 206) fX6_36 sh_43 rfl dX6_portage_203 rfl ?_
    refine x_iload7 (pc2 := 208) dX6_portage_206 rfl ?_
    refine x_aload0 (pc2 := 209) dX6_portage_208 rfl ?_
    refine x_getR (pc2 := 212) fX6_45 sh_43 rfl dX6_portage_209 rfl ?_
    refine x_iconst (v := 2) (pc2 := 213) dX6_portage_212 rfl (by decide) ?_
    refine x_iload7 (pc2 := 215) dX6_portage_213 rfl ?_
    refine x_imul (pc2 := 216) dX6_portage_215 rfl ?_
    rw [e2]
    refine x_iconst (v := 1) (pc2 := 217) dX6_portage_216 rfl (by decide) ?_
    refine x_iadd (pc2 := 218) dX6_portage_217 rfl ?_
    rw [← nI_succ]
    refine x_iald (pc2 := 219) sh_53 (by exact z_in (by omega)) dX6_portage_218 rfl ?_
    refine x_iast (pc2 := 220) sh_51 (by exact z_in (by omega)) dX6_portage_219 rfl ?_
    rw [nI_clamp (by omega), nI_clamp (by omega), nI_clamp (by omega)]
    refine x_iinc7 (pc2 := 223) dX6_portage_220 rfl (z_inc1 _) rfl ?_
    refine x_goto (pc2 := 177) dX6_portage_223 rfl ?_
    rw [← nI_succ]
    refine ih (k + 1) (by omega) _ (fun q a1 a2 => ?_) h2 (fun t ht => ?_)
    · rw [z_st_row _ _ _ a2, z_st_row _ _ _ a1]; exact h1 q a1 a2
    · by_cases e : t = k
      · subst e
        refine ⟨?_, ?_⟩
        · rw [z_st_row _ _ _ (by decide), z_st_at, h1 53 (by decide) (by decide)]
        · rw [z_st_at, z_st_row _ _ _ (by decide), h1 53 (by decide) (by decide)]
      · rw [z_st_row _ _ _ (by decide), z_st_fld _ _ _ e, z_st_fld _ _ _ e, z_st_row _ _ _ (by decide)]
        exact h3 t (by omega)
/-- the first loop -/
theorem s_pm117 (d : Nat) {υ : zS} {N : Nat} (hN : υ.1 43 6 = nI N) (hN3 : N ≤ 3) {Q : Option Value → zS → Prop} (l1 l2 l3 l4 l5 : Value) (l6 : Int32) (hQ : ∀ τ : zS, (∀ q, q ≠ 47 → q ≠ 48 → q ≠ 49 → τ.1 q = υ.1 q) → τ.2 = υ.2 → (∀ t, t < N → τ.1 47 t = υ.1 52 (2 * t) ∧ τ.1 48 t = υ.1 52 (2 * t + 1) ∧ τ.1 49 t = 0) → z_At mX6_portage d 177 [.ref 43, l1, l2, l3, l4, l5, .int l6, .int (nI 0)] [] τ Q) : ∀ m k, k + m = N → ∀ τ : zS, (∀ q, q ≠ 47 → q ≠ 48 → q ≠ 49 → τ.1 q = υ.1 q) → τ.2 = υ.2 → (∀ t, t < k → τ.1 47 t = υ.1 52 (2 * t) ∧ τ.1 48 t = υ.1 52 (2 * t + 1) ∧ τ.1 49 t = 0) → z_At mX6_portage d 117 [.ref 43, l1, l2, l3, l4, l5, .int l6, .int (nI k)] [] τ Q := by
  intro m
  induction m with
  | zero =>
    intro k hk τ h1 h2 h3
    have e7 : τ.1 43 6 = nI N := by rw [h1 43 (by decide) (by decide) (by decide)]; exact hN
    refine x_iload7 (pc2 := 119) dX6_portage_117 rfl ?_
    refine x_aload0 (pc2 := 120) dX6_portage_119 rfl ?_
    refine x_getI (pc2 := 123) fX6_84 sh_43 rfl dX6_portage_120 rfl ?_
    rw [e7]
    refine x_icmp_ge (pc2 := 126) (pc3 := 174) dX6_portage_123 rfl rfl (fun h123 => ?_) (fun h123 => ?_)
    rotate_left
    · exact absurd ((nI_le_iff (by omega) (by omega)).mpr (by omega)) h123
    refine x_iconst (v := 0) (pc2 := 175) dX6_portage_174 rfl (by decide) ?_
    refine x_istore7 (pc2 := 177) dX6_portage_175 rfl rfl ?_
    exact hQ τ h1 h2 (fun t ht => h3 t (by omega))
  | succ m ih =>
    intro k hk τ h1 h2 h3
    have e7 : τ.1 43 6 = nI N := by rw [h1 43 (by decide) (by decide) (by decide)]; exact hN
    have e2 := gb_two3 k (by omega)
    have e52 : τ.1 52 = υ.1 52 := h1 52 (by decide) (by decide) (by decide)
    refine x_iload7 (pc2 := 119) dX6_portage_117 rfl ?_
    refine x_aload0 (pc2 := 120) dX6_portage_119 rfl ?_
    refine x_getI (pc2 := 123) fX6_84 sh_43 rfl dX6_portage_120 rfl ?_
    rw [e7]
    refine x_icmp_ge (pc2 := 126) (pc3 := 174) dX6_portage_123 rfl rfl (fun h123 => ?_) (fun h123 => ?_)
    · exact absurd ((nI_le_iff (by omega) (by omega)).mp h123) (by omega)
    refine x_aload0 (pc2 := 127) dX6_portage_126 rfl ?_
    refine x_getR (pc2 := 130) fX6_23 sh_43 rfl dX6_portage_127 rfl ?_
    refine x_iload7 (pc2 := 132) dX6_portage_130 rfl ?_
    refine x_aload0 (pc2 := 133) dX6_portage_132 rfl ?_
    refine x_getR (pc2 := 136) fX6_42 sh_43 rfl dX6_portage_133 rfl ?_
    refine x_iconst (v := 2) (pc2 := 137) dX6_portage_136 rfl (by decide) ?_
    refine x_iload7 (pc2 := 139) dX6_portage_137 rfl ?_
    refine x_imul (pc2 := 140) dX6_portage_139 rfl ?_
    rw [e2]
    refine x_iald (pc2 := 141) sh_52 (by exact z_in (by omega)) dX6_portage_140 rfl ?_
    refine x_iast (pc2 := 142) sh_47 (by exact z_in (by omega)) dX6_portage_141 rfl ?_
    refine x_aload0 (pc2 := 143) dX6_portage_142 rfl ?_
    refine x_getR (pc2 := 146) fX6_26 sh_43 rfl dX6_portage_143 rfl ?_
    refine x_iload7 (pc2 := 148) dX6_portage_146 rfl ?_
    refine x_aload0 (pc2 := 149) dX6_portage_148 rfl ?_
    refine x_getR (pc2 := 152) fX6_42 sh_43 rfl dX6_portage_149 rfl ?_
    refine x_iconst (v := 2) (pc2 := 153) dX6_portage_152 rfl (by decide) ?_
    refine x_iload7 (pc2 := 155) dX6_portage_153 rfl ?_
    refine x_imul (pc2 := 156) dX6_portage_155 rfl ?_
    rw [e2]
    refine x_iconst (v := 1) (pc2 := 157) dX6_portage_156 rfl (by decide) ?_
    refine x_iadd (pc2 := 158) dX6_portage_157 rfl ?_
    rw [← nI_succ]
    refine x_iald (pc2 := 159) sh_52 (by exact z_in (by omega)) dX6_portage_158 rfl ?_
    refine x_iast (pc2 := 160) sh_48 (by exact z_in (by omega)) dX6_portage_159 rfl ?_
    refine x_aload0 (pc2 := 161) dX6_portage_160 rfl ?_
    refine x_getR (pc2 := 164) fX6_29 sh_43 rfl dX6_portage_161 rfl ?_
    refine x_iload7 (pc2 := 166) dX6_portage_164 rfl ?_
    refine x_iconst (v := 0) (pc2 := 167) dX6_portage_166 rfl (by decide) ?_
    refine x_zast (pc2 := 168) sh_49 (by exact z_in (by omega)) (by first | assumption | exact z_b01 _ | exact Or.inl rfl | exact Or.inr rfl) dX6_portage_167 rfl ?_
    rw [nI_clamp (by omega), nI_clamp (by omega), nI_clamp (by omega)]
    refine x_iinc7 (pc2 := 171) dX6_portage_168 rfl (z_inc1 _) rfl ?_
    refine x_goto (pc2 := 117) dX6_portage_171 rfl ?_
    rw [← nI_succ]
    refine ih (k + 1) (by omega) _ (fun q a1 a2 a3 => ?_) h2 (fun t ht => ?_)
    · rw [z_st_row _ _ _ a3, z_st_row _ _ _ a2, z_st_row _ _ _ a1]; exact h1 q a1 a2 a3
    · by_cases e : t = k
      · subst e
        refine ⟨?_, ?_, ?_⟩
        · rw [z_st_row _ _ _ (by decide), z_st_row _ _ _ (by decide), z_st_at, e52]
        · rw [z_st_row _ _ _ (by decide), z_st_at, z_st_row _ _ _ (by decide), e52]
        · rw [z_st_at]
      · refine ⟨?_, ?_, ?_⟩
        · rw [z_st_row _ _ _ (by decide), z_st_row _ _ _ (by decide), z_st_fld _ _ _ e]; exact (h3 t (by omega)).1
        · rw [z_st_row _ _ _ (by decide), z_st_fld _ _ _ e, z_st_row _ _ _ (by decide)]; exact (h3 t (by omega)).2.1
        · rw [z_st_fld _ _ _ e, z_st_row _ _ _ (by decide), z_st_row _ _ _ (by decide)]; exact (h3 t (by omega)).2.2
