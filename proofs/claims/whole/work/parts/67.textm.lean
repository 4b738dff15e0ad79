/-! the model's text reading: signs and digits -/
theorem s_isSign (d : Nat) {τ : zS} {a e : Nat} (ha : τ.1 43 15 = nI a) (he : e ≤ 240) (hae : a ≤ e) (code : Int32) : z_Fn mX6_isSign d [.ref 43, .int (nI e), .int code] τ (.int (z_b (decide (a < e ∧ τ.1 46 a = code)))) (if a < e ∧ τ.1 46 a = code then z_st τ 43 15 (nI (a + 1)) else τ) := by
  refine x_enter (by decide) (Nat.le_of_ble_eq_true rfl) ?_
  show z_At _ _ _ [.ref 43, .int (nI e), .int code] _ _ _
  refine x_aload0 (pc2 := 1) dX6_isSign_0 rfl ?_
  refine x_getI (pc2 := 4) fX6_90 sh_43 rfl dX6_isSign_1 rfl ?_
  refine x_iload1 (pc2 := 5) dX6_isSign_4 rfl ?_
  rw [ha]
  refine x_icmp_ge (pc2 := 8) (pc3 := 21) dX6_isSign_5 rfl rfl (fun h5 => ?_) (fun h5 => ?_)
  · rw [nI_le_iff (by omega) (by omega)] at h5
    have hn : ¬ (a < e ∧ τ.1 46 a = code) := fun q => by omega
    rw [if_neg hn, decide_eq_false hn]
    refine x_iconst (v := 0) (pc2 := 22) dX6_isSign_21 rfl (by decide) ?_
    refine x_zret dX6_isSign_22 rfl (by first | assumption | exact z_b01 _ | exact Or.inl rfl | exact Or.inr rfl) ?_
    exact ⟨rfl, rfl⟩
  · rw [nI_le_iff (by omega) (by omega)] at h5
    refine x_aload0 (pc2 := 9) dX6_isSign_8 rfl ?_
    refine x_getR (pc2 := 12) fX6_16 sh_43 rfl dX6_isSign_9 rfl ?_
    refine x_aload0 (pc2 := 13) dX6_isSign_12 rfl ?_
    refine x_getI (pc2 := 16) fX6_90 sh_43 rfl dX6_isSign_13 rfl ?_
    rw [ha]
    refine x_iald (pc2 := 17) sh_46 (by exact z_in (by omega)) dX6_isSign_16 rfl ?_
    refine x_iload2 (pc2 := 18) dX6_isSign_17 rfl ?_
    rw [nI_clamp (by omega)]
    refine x_icmp_eq (pc2 := 21) (pc3 := 23) dX6_isSign_18 rfl rfl (fun h18 => ?_) (fun h18 => ?_)
    · have hn : a < e ∧ τ.1 46 a = code := ⟨by omega, h18⟩
      rw [if_pos hn, decide_eq_true hn]
      refine x_aload0 (pc2 := 24) dX6_isSign_23 rfl ?_
      refine x_dup (pc2 := 25) dX6_isSign_24 rfl rfl ?_
      refine x_getI (pc2 := 28) fX6_90 sh_43 rfl dX6_isSign_25 rfl ?_
      refine x_iconst (v := 1) (pc2 := 29) dX6_isSign_28 rfl (by decide) ?_
      rw [ha]
      refine x_iadd (pc2 := 30) dX6_isSign_29 rfl ?_
      refine x_putI (pc2 := 33) pX6_90 sh_43 rfl dX6_isSign_30 rfl ?_
      refine x_iconst (v := 1) (pc2 := 34) dX6_isSign_33 rfl (by decide) ?_
      refine x_zret dX6_isSign_34 rfl (by first | assumption | exact z_b01 _ | exact Or.inl rfl | exact Or.inr rfl) ?_
      rw [← nI_succ]
      exact ⟨rfl, rfl⟩
    · have hn : ¬ (a < e ∧ τ.1 46 a = code) := fun q => h18 q.2
      rw [if_neg hn, decide_eq_false hn]
      refine x_iconst (v := 0) (pc2 := 22) dX6_isSign_21 rfl (by decide) ?_
      refine x_zret dX6_isSign_22 rfl (by first | assumption | exact z_b01 _ | exact Or.inl rfl | exact Or.inr rfl) ?_
      exact ⟨rfl, rfl⟩
theorem s_digit (d : Nat) {τ : zS} {a e : Nat} (ha : τ.1 43 15 = nI a) (he : e ≤ 240) (hae : a ≤ e) (lo hi : Int32) : z_Fn mX6_digit (d + 1) [.ref 43, .int (nI e), .int lo, .int hi] τ (.int (if a < e ∧ z_wi (τ.1 46 a) (48 + lo) (48 + hi) = true then τ.1 46 a - 48 else -9)) (if a < e ∧ z_wi (τ.1 46 a) (48 + lo) (48 + hi) = true then z_st τ 43 15 (nI (a + 1)) else τ) := by
  refine x_enter (by decide) (Nat.le_of_ble_eq_true rfl) ?_
  show z_At _ _ _ [.ref 43, .int (nI e), .int lo, .int hi] _ _ _
  refine x_aload0 (pc2 := 1) dX6_digit_0 rfl ?_
  refine x_getI (pc2 := 4) fX6_90 sh_43 rfl dX6_digit_1 rfl ?_
  refine x_iload1 (pc2 := 5) dX6_digit_4 rfl ?_
  rw [ha]
  refine x_icmp_ge (pc2 := 8) (pc3 := 31) dX6_digit_5 rfl rfl (fun h5 => ?_) (fun h5 => ?_)
  · rw [nI_le_iff (by omega) (by omega)] at h5
    have hn : ¬ (a < e ∧ z_wi (τ.1 46 a) (48 + lo) (48 + hi) = true) := fun q => by omega
    rw [if_neg hn, if_neg hn]
    refine x_bipush (v := -9) (pc2 := 33) dX6_digit_31 rfl (by decide) ?_
    refine x_iret dX6_digit_33 rfl ?_
    exact ⟨rfl, rfl⟩
  · rw [nI_le_iff (by omega) (by omega)] at h5
    refine x_aload0 (pc2 := 9) dX6_digit_8 rfl ?_
    refine x_getR (pc2 := 12) fX6_16 sh_43 rfl dX6_digit_9 rfl ?_
    refine x_aload0 (pc2 := 13) dX6_digit_12 rfl ?_
    refine x_getI (pc2 := 16) fX6_90 sh_43 rfl dX6_digit_13 rfl ?_
    rw [ha]
    refine x_iald (pc2 := 17) sh_46 (by exact z_in (by omega)) dX6_digit_16 rfl ?_
    refine x_bipush (v := 48) (pc2 := 19) dX6_digit_17 rfl (by decide) ?_
    refine x_iload2 (pc2 := 20) dX6_digit_19 rfl ?_
    refine x_iadd (pc2 := 21) dX6_digit_20 rfl ?_
    refine x_bipush (v := 48) (pc2 := 23) dX6_digit_21 rfl (by decide) ?_
    refine x_iload3 (pc2 := 24) dX6_digit_23 rfl ?_
    refine x_iadd (pc2 := 25) dX6_digit_24 rfl ?_
    refine x_fS3 (pc2 := 28) eX6_within kX6_80 (Nat.le_of_ble_eq_true rfl) dX6_digit_25 rfl (s_within _ _ _ _ _) ?_
    rw [nI_clamp (by omega)]
    refine x_if_ne (pc2 := 31) (pc3 := 34) dX6_digit_28 rfl rfl (fun h28 => ?_) (fun h28 => ?_)
    · have hn : a < e ∧ z_wi (τ.1 46 a) (48 + lo) (48 + hi) = true := ⟨by omega, z_bn0.mp h28⟩
      rw [if_pos hn, if_pos hn]
      refine x_aload0 (pc2 := 35) dX6_digit_34 rfl ?_
      refine x_dup (pc2 := 36) dX6_digit_35 rfl rfl ?_
      refine x_getI (pc2 := 39) fX6_90 sh_43 rfl dX6_digit_36 rfl ?_
      refine x_iconst (v := 1) (pc2 := 40) dX6_digit_39 rfl (by decide) ?_
      rw [ha]
      refine x_iadd (pc2 := 41) dX6_digit_40 rfl ?_
      refine x_putI (pc2 := 44) pX6_90 sh_43 rfl dX6_digit_41 rfl ?_
      refine x_aload0 (pc2 := 45) dX6_digit_44 rfl ?_
      refine x_getR (pc2 := 48) fX6_16 sh_43 rfl dX6_digit_45 rfl ?_
      refine x_aload0 (pc2 := 49) dX6_digit_48 rfl ?_
      refine x_getI (pc2 := 52) fX6_90 sh_43 rfl dX6_digit_49 rfl ?_
      rw [← nI_succ, z_st_at]
      refine x_iconst (v := 1) (pc2 := 53) dX6_digit_52 rfl (by decide) ?_
      refine x_isub (pc2 := 54) dX6_digit_53 rfl ?_
      rw [nI_pred]
      refine x_iald (pc2 := 55) sh_46 (by exact z_in (by omega)) dX6_digit_54 rfl ?_
      refine x_bipush (v := 48) (pc2 := 57) dX6_digit_55 rfl (by decide) ?_
      refine x_isub (pc2 := 58) dX6_digit_57 rfl ?_
      refine x_iret dX6_digit_58 rfl ?_
      rw [nI_clamp (by omega)]
      exact ⟨rfl, rfl⟩
    · have hn : ¬ (a < e ∧ z_wi (τ.1 46 a) (48 + lo) (48 + hi) = true) := fun q => by rw [z_b0.mp h28] at q; exact absurd q.2 (by decide)
      rw [if_neg hn, if_neg hn]
      refine x_bipush (v := -9) (pc2 := 33) dX6_digit_31 rfl (by decide) ?_
      refine x_iret dX6_digit_33 rfl ?_
      exact ⟨rfl, rfl⟩
/-- the two ways to test a digit -/
theorem pDigit_iff {code : Int32} {lo hi : Nat} (hlo : lo ≤ hi) (hhi : hi ≤ 9) : z_wi code (48 + nI lo) (48 + nI hi) = true ↔ ¬ (code - 48 < nI lo ∨ ¬ code - 48 ≤ nI hi) := by
  have e1 : (48 + nI lo : Int32) = nI (48 + lo) := by rw [show (48 : Int32) = nI 48 from rfl, z_nIadd]
  have e2 : (48 + nI hi : Int32) = nI (48 + hi) := by rw [show (48 : Int32) = nI 48 from rfl, z_nIadd]
  rw [e1, e2]
  constructor
  · intro h
    unfold z_wi at h
    rw [Bool.and_eq_true] at h
    have h1 : ¬ code < nI (48 + lo) := by simpa using h.1
    have h2 : ¬ nI (48 + hi) < code := by simpa using h.2
    have h0 : ¬ code < 0 := fun q => h1 (by
      rw [Int32.lt_iff_toInt_lt] at q ⊢
      rw [nI_toInt (by omega)]
      have : (0 : Int32).toInt = 0 := rfl
      omega)
    obtain ⟨l, l1, l2, l3⟩ := z_999 h0
    rw [l1, nI_lt_iff l3 (by omega)] at h1
    rw [l1, nI_lt_iff (by omega) l3] at h2
    have e3 : code - 48 = nI (l - 48) := by
      rw [l1, show (48 : Int32) = nI 48 from rfl]
      exact (Int32.ofNat_sub (a := l) (b := 48) (by omega)).symm
    rw [e3, nI_lt_iff (by omega) (by omega), nI_le_iff (by omega) (by omega)]
    omega
  · intro h
    obtain ⟨l, l1, l2⟩ := pDigit (by omega) h hlo
    have e3 : code = nI (l + 48) := by
      have : code = code - 48 + 48 := (Int32.sub_add_cancel code 48).symm
      rw [this, l2, show (48 : Int32) = nI 48 from rfl, z_nIadd]
    unfold z_wi
    rw [e3, decide_eq_false (show ¬ nI (l + 48) < nI (48 + lo) from nI_nlt (by omega) (by omega)), decide_eq_false (show ¬ nI (48 + hi) < nI (l + 48) from nI_nlt (by omega) (by omega))]
    rfl
/-- how the automaton stops, and goes on -/
theorem pl_stop {f : Nat → Int32} {n p : Nat} {s : zP} (hp : p ≤ n) (h1 : p = n ∨ (pStep s (f p)).1 = 0) (h2 : ¬ (p = n ∧ s.1 = 3 ∧ 0 < s.2.2.2.1)) : (pLoop f n (n - p) p s).1 = some p := by
  by_cases e : p = n
  · subst e
    rw [Nat.sub_self, pLoop]
    simp only [if_neg (fun q => h2 ⟨rfl, q⟩)]
  · have h3 : (pStep s (f p)).1 = 0 := h1.resolve_left e
    rw [show n - p = (n - p - 1) + 1 by omega, pLoop, if_pos h3]
theorem pl_go {f : Nat → Int32} {n p : Nat} {s : zP} (hp : p < n) (h : (pStep s (f p)).1 ≠ 0) : pLoop f n (n - p) p s = pLoop f n (n - (p + 1)) (p + 1) (pStep s (f p)) := by
  rw [show n - p = (n - (p + 1)) + 1 by omega, pLoop, if_neg h]
theorem pl_end {f : Nat → Int32} {n : Nat} {s : zP} (h : s.1 = 3 ∧ 0 < s.2.2.2.1) : pLoop f n (n - n) n s = (none, s) := by
  rw [Nat.sub_self, pLoop, if_pos h]
