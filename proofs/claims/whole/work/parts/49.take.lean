/-! trips told by a sheet: the class's takeTrips -/
def z_os (set K : Int32) : Bool := z_wi set 0 (z_all K)
theorem z_ushr_os (x : Int32) {K : Nat} (hK : K ≤ 4) : decide (z_ushr x (nI K) = 0) = z_os x (nI K) := by
  unfold z_os z_wi z_all
  rw [gb_full K (by omega)]
  have hb := x.toBitVec.isLt
  have hpow : 2 ^ K ≤ 16 := by
    have : 2 ^ K ≤ 2 ^ 4 := Nat.pow_le_pow_right (by decide) hK
    omega
  have hpos : 1 ≤ 2 ^ K := Nat.one_le_two_pow
  have e1 : z_ushr x (nI K) = 0 ↔ x.toBitVec.toNat / 2 ^ K = 0 := by
    unfold z_ushr
    rw [← Int32.toBitVec_inj, ← BitVec.toNat_inj]
    have e2 : ((nI K).toUInt32 &&& Int32.toUInt32 31) = UInt32.ofNat K := by
      rcases (show K = 0 ∨ K = 1 ∨ K = 2 ∨ K = 3 ∨ K = 4 by omega) with rfl | rfl | rfl | rfl | rfl <;> rfl
    rw [e2]
    have e3 : (x.toUInt32 >>> UInt32.ofNat K).toInt32.toBitVec.toNat = x.toBitVec.toNat / 2 ^ K := by
      show (x.toUInt32 >>> UInt32.ofNat K).toNat = _
      rw [UInt32.toNat_shiftRight, Nat.shiftRight_eq_div_pow]
      have : (UInt32.ofNat K).toNat % 32 = K := by
        rcases (show K = 0 ∨ K = 1 ∨ K = 2 ∨ K = 3 ∨ K = 4 by omega) with rfl | rfl | rfl | rfl | rfl <;> rfl
      rw [this]
      rfl
    rw [e3]
    rfl
  have e4 : x.toInt = if 2 * x.toBitVec.toNat < 2 ^ 32 then (x.toBitVec.toNat : Int) else (x.toBitVec.toNat : Int) - 2 ^ 32 := BitVec.toInt_eq_toNat_cond _
  have e5 : (nI (2 ^ K - 1)).toInt = ((2 ^ K - 1 : Nat) : Int) := nI_toInt (by omega)
  have e6 : x.toBitVec.toNat / 2 ^ K = 0 ↔ x.toBitVec.toNat < 2 ^ K := by
    rw [Nat.div_eq_zero_iff]
    omega
  by_cases h : x.toBitVec.toNat < 2 ^ K
  · have g1 : ¬ x < 0 := by
      rw [Int32.lt_iff_toInt_lt, e4, if_pos (by omega)]
      show ¬ (x.toBitVec.toNat : Int) < 0
      omega
    have g2 : ¬ nI (2 ^ K - 1) < x := by
      rw [Int32.lt_iff_toInt_lt, e5, e4, if_pos (by omega)]
      omega
    simp [e1, e6, h, g1, g2]
  · have g : x < 0 ∨ nI (2 ^ K - 1) < x := by
      by_cases h2 : 2 * x.toBitVec.toNat < 2 ^ 32
      · right
        rw [Int32.lt_iff_toInt_lt, e5, e4, if_pos h2]
        omega
      · left
        rw [Int32.lt_iff_toInt_lt, e4, if_neg h2]
        show (x.toBitVec.toNat : Int) - 2 ^ 32 < 0
        omega
    have g' : (!decide (x < 0) && !decide (nI (2 ^ K - 1) < x)) = false := by
      rcases g with g | g <;> simp [g]
    rw [g', decide_eq_false_iff_not, e1, e6]
    exact h
theorem z_os_nat {x : Int32} {K : Nat} (hK : K ≤ 4) (h : z_os x (nI K) = true) : ∃ s, s < 2 ^ K ∧ x = nI s ∧ x.toNatClampNeg = s := by
  unfold z_os z_wi z_all at h
  rw [gb_full K (by omega), Bool.and_eq_true] at h
  have h1 : ¬ x < 0 := by simpa using h.1
  have h2 : ¬ nI (2 ^ K - 1) < x := by simpa using h.2
  have hx := z_nat h1
  have hpos : 1 ≤ 2 ^ K := Nat.one_le_two_pow
  have hpow : 2 ^ K ≤ 2 ^ 4 := Nat.pow_le_pow_right (by decide) hK
  have hlt : x.toNatClampNeg < 2 ^ 31 := by
    have := Int32.toInt_lt x
    unfold Int32.toNatClampNeg
    omega
  refine ⟨x.toNatClampNeg, ?_, hx, rfl⟩
  rw [hx, nI_lt_iff (by omega) hlt] at h2
  omega
theorem z_spot_nat {x : Int32} {N : Nat} (hN : N ≤ 3) (h : z_spot x (nI N) = true) : ∃ v, v ≤ N ∧ x = nI v ∧ x.toNatClampNeg = v := by
  unfold z_spot z_wi at h
  rw [Bool.and_eq_true, Bool.and_eq_true] at h
  have h1 : ¬ x < 0 := by simpa using h.2.1
  have h2 : ¬ nI N < x := by simpa using h.2.2
  have hx := z_nat h1
  have hlt : x.toNatClampNeg < 2 ^ 31 := by
    have := Int32.toInt_lt x
    unfold Int32.toNatClampNeg
    omega
  refine ⟨x.toNatClampNeg, ?_, hx, rfl⟩
  rw [hx, nI_lt_iff (by omega) hlt] at h2
  omega
/-- what the pairs are refused for; 0: for nothing -/
def z_ck (cells : Nat → Int32) (b : Nat) (N K : Int32) : Nat → Int32
  | 0 => 0
  | k + 1 => if z_ck cells b N K k = 0 then (if z_spot (cells (b + 2 * k)) N = false then -1 else if z_os (cells (b + 2 * k + 1)) K = false then -2 else 0) else z_ck cells b N K k
theorem z_ck_stay {cells : Nat → Int32} {b : Nat} {N K : Int32} {k : Nat} (h : z_ck cells b N K k ≠ 0) : ∀ j, z_ck cells b N K (k + j) = z_ck cells b N K k
  | 0 => rfl
  | j + 1 => by rw [← Nat.add_assoc, z_ck, if_neg (by rw [z_ck_stay h j]; exact h), z_ck_stay h j]
theorem z_ck_ok {cells : Nat → Int32} {b : Nat} {N K : Int32} : ∀ n, z_ck cells b N K n = 0 → ∀ k, k < n → z_spot (cells (b + 2 * k)) N = true ∧ z_os (cells (b + 2 * k + 1)) K = true
  | 0, _, k, hk => by omega
  | n + 1, h, k, hk => by
    rw [z_ck] at h
    by_cases e : z_ck cells b N K n = 0
    · rw [if_pos e] at h
      by_cases e2 : k = n
      · subst e2
        by_cases e3 : z_spot (cells (b + 2 * k)) N = false
        · rw [if_pos e3] at h; exact absurd h (by decide)
        · rw [if_neg e3] at h
          by_cases e4 : z_os (cells (b + 2 * k + 1)) K = false
          · rw [if_pos e4] at h; exact absurd h (by decide)
          · exact ⟨by simpa using e3, by simpa using e4⟩
      · exact z_ck_ok n e k (by omega)
    · rw [if_neg e] at h
      exact absurd h e
/-- the trips that a row's cells tell -/
def z_to (cells : Nat → Int32) (b : Nat) : Nat → Nat := fun k => (cells (b + 2 * k)).toNatClampNeg
def z_xs (cells : Nat → Int32) (b : Nat) : Nat → Nat := fun k => (cells (b + 2 * k + 1)).toNatClampNeg % 16
theorem s_add4 (d : Nat) {σ : zS} {k : Nat} (hc : σ.1 26 0 = nI k) (hk : k < 18) (a b : Int32) : z_Pr mX4_add d [.ref 26, .int a, .int b] σ (z_st (z_st (z_st σ 27 k a) 28 k b) 26 0 (nI (k + 1))) := by
  refine x_enter (by decide) (Nat.le_of_ble_eq_true rfl) ?_
  show z_At _ _ _ [.ref 26, .int a, .int b] _ _ _
  refine x_aload0 (pc2 := 1) dX4_add_0 rfl ?_
  refine x_getI (pc2 := 4) fX4_35 sh_26 rfl dX4_add_1 rfl ?_
  refine x_bipush (v := 18) (pc2 := 6) dX4_add_4 rfl (by decide) ?_
  rw [hc]
  refine x_icmp_ge (pc2 := 9) (pc3 := 39) dX4_add_6 rfl rfl (fun h6 => ?_) (fun h6 => ?_)
  · exact absurd h6 (nI_ge (a := k) (b := 18) hk (by decide))
  · skip
    refine x_aload0 (pc2 := 10) dX4_add_9 rfl ?_
    refine x_getR (pc2 := 13) fX4_9 sh_26 rfl dX4_add_10 rfl ?_
    refine x_aload0 (pc2 := 14) dX4_add_13 rfl ?_
    refine x_getI (pc2 := 17) fX4_35 sh_26 rfl dX4_add_14 rfl ?_
    rw [hc]
    refine x_iload1 (pc2 := 18) dX4_add_17 rfl ?_
    refine x_iast (pc2 := 19) sh_27 (by exact z_in (by omega)) dX4_add_18 rfl ?_
    refine x_aload0 (pc2 := 20) dX4_add_19 rfl ?_
    refine x_getR (pc2 := 23) fX4_15 sh_26 rfl dX4_add_20 rfl ?_
    refine x_aload0 (pc2 := 24) dX4_add_23 rfl ?_
    refine x_getI (pc2 := 27) fX4_35 sh_26 rfl dX4_add_24 rfl ?_
    rw [show (z_st σ 27 (nI k).toNatClampNeg a).1 26 0 = σ.1 26 0 from rfl, hc]
    refine x_iload2 (pc2 := 28) dX4_add_27 rfl ?_
    refine x_iast (pc2 := 29) sh_28 (by exact z_in (by omega)) dX4_add_28 rfl ?_
    refine x_aload0 (pc2 := 30) dX4_add_29 rfl ?_
    refine x_dup (pc2 := 31) dX4_add_30 rfl rfl ?_
    refine x_getI (pc2 := 34) fX4_35 sh_26 rfl dX4_add_31 rfl ?_
    rw [show (z_st (z_st σ 27 (nI k).toNatClampNeg a) 28 (nI k).toNatClampNeg b).1 26 0 = σ.1 26 0 from rfl, hc]
    refine x_iconst (v := 1) (pc2 := 35) dX4_add_34 rfl (by decide) ?_
    refine x_iadd (pc2 := 36) dX4_add_35 rfl ?_
    refine x_putI (pc2 := 39) pX4_35 sh_26 rfl dX4_add_36 rfl ?_
    refine x_vret dX4_add_39 rfl ?_
    rw [nI_clamp (by omega), ← nI_succ]
    exact ⟨rfl, rfl⟩
