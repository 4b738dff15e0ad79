/-! the class's text reading: an automaton over codes -/
abbrev zP : Type := Nat × Int32 × Nat × Nat × (Nat → Int32) × (Nat → Int32) × (Nat → Int32) × (Nat → Int32)
def pKd (code : Int32) : Int32 := if code = 116 then 0 else if code = 102 then 1 else if code = 99 then 2 else -9
def pStep (s : zP) (code : Int32) : zP := match s with
  | (due, B, N, K, ln, md, kd, pd) =>
    if due = 1 then (if code = 103 then 2 else 0, B, N, K, ln, md, kd, pd)
    else if due = 3 then (if code = 59 ∧ K = 0 ∧ N < 3 then 4 else if code = 44 ∧ 0 < N ∧ K < 4 then 6 else 0, B, N, K, ln, md, kd, pd)
    else if due = 6 then (if pKd code = -9 then (0, B, N, K, ln, md, kd, pd) else (7, B, N, K, ln, md, upd kd K (pKd code), pd))
    else if due = 5 then (if code - 48 < 0 ∨ ¬ code - 48 ≤ 4 then (0, B, N, K, ln, md, kd, pd) else (3, B, N + 1, K, ln, upd md N (code - 48), kd, pd))
    else if code - 48 < 1 ∨ ¬ code - 48 ≤ 9 then (0, B, N, K, ln, md, kd, pd)
    else if due = 2 then (3, code - 48, N, K, ln, md, kd, pd)
    else if due = 4 then (5, B, N, K, upd ln N (code - 48), md, kd, pd)
    else if due = 7 then (3, B, N, K + 1, ln, md, kd, upd pd K (code - 48))
    else (0, B, N, K, ln, md, kd, pd)
/-- the rows of the draft hold a half-read text -/
def gPr (σ τ : zS) (s : zP) : Prop := (τ.1 7 0 = s.2.1 ∧ τ.1 7 2 = nI s.2.2.1 ∧ τ.1 7 6 = nI s.2.2.2.1) ∧ (τ.1 8 = s.2.2.2.2.1 ∧ τ.1 9 = s.2.2.2.2.2.1 ∧ τ.1 11 = s.2.2.2.2.2.2.1 ∧ τ.1 12 = s.2.2.2.2.2.2.2) ∧ (∀ q, q ≠ 7 → q ≠ 8 → q ≠ 9 → q ≠ 11 → q ≠ 12 → τ.1 q = σ.1 q) ∧ τ.1 7 1 = σ.1 7 1 ∧ τ.2 = σ.2
theorem s_kindOfLetter (d : Nat) (σ : zS) (k : Int32) : z_Fn mX0_kindOfLetter d [.int k] σ (.int (pKd k)) σ := by
  refine x_enter (by decide) (Nat.le_of_ble_eq_true rfl) ?_
  show z_At _ _ _ [.int k] _ _ _
  unfold pKd
  refine x_iload0 (pc2 := 1) dX0_kindOfLetter_0 rfl ?_
  refine x_lk3 (k1 := 99) (k2 := 102) (k3 := 116) (p0 := 42) (p1 := 40) (p2 := 38) (p3 := 36) dX0_kindOfLetter_1 (by decide) (by decide) (by decide) (by decide) (by decide) rfl rfl rfl rfl (fun h1 => ?_) (fun h1 => ?_) (fun h1 => ?_) (fun h1_1 h1_2 h1_3 => ?_)
  · skip
    refine x_iconst (v := 2) (pc2 := 41) dX0_kindOfLetter_40 rfl (by decide) ?_
    refine x_iret dX0_kindOfLetter_41 rfl ?_
    exact ⟨by first | (simp [*]; done) | (subst h1; rfl), rfl⟩
  · skip
    refine x_iconst (v := 1) (pc2 := 39) dX0_kindOfLetter_38 rfl (by decide) ?_
    refine x_iret dX0_kindOfLetter_39 rfl ?_
    exact ⟨by first | (simp [*]; done) | (subst h1; rfl), rfl⟩
  · skip
    refine x_iconst (v := 0) (pc2 := 37) dX0_kindOfLetter_36 rfl (by decide) ?_
    refine x_iret dX0_kindOfLetter_37 rfl ?_
    exact ⟨by first | (simp [*]; done) | (subst h1; rfl), rfl⟩
  · skip
    refine x_bipush (v := -9) (pc2 := 44) dX0_kindOfLetter_42 rfl (by decide) ?_
    refine x_iret dX0_kindOfLetter_44 rfl ?_
    exact ⟨by first | (simp [*]; done) | (subst h1; rfl), rfl⟩
theorem s_startPart0 (d : Nat) (σ : zS) (code : Int32) : z_Fn mX0_startPart d [.ref 7, .int code] σ (.int (if code = 59 ∧ σ.1 7 6 = 0 ∧ ¬ 3 ≤ σ.1 7 2 then 4 else if code = 44 ∧ ¬ σ.1 7 2 ≤ 0 ∧ ¬ 4 ≤ σ.1 7 6 then 6 else 0)) σ := by
  refine x_enter (by decide) (Nat.le_of_ble_eq_true rfl) ?_
  show z_At _ _ _ [.ref 7, .int code] _ _ _
  refine x_iload1 (pc2 := 1) dX0_startPart_0 rfl ?_
  refine x_bipush (v := 59) (pc2 := 3) dX0_startPart_1 rfl (by decide) ?_
  refine x_icmp_ne (pc2 := 6) (pc3 := 23) dX0_startPart_3 rfl rfl (fun h3 => ?_) (fun h3 => ?_)
  · skip
    refine x_iload1 (pc2 := 24) dX0_startPart_23 rfl ?_
    refine x_bipush (v := 44) (pc2 := 26) dX0_startPart_24 rfl (by decide) ?_
    refine x_icmp_ne (pc2 := 29) (pc3 := 47) dX0_startPart_26 rfl rfl (fun h26 => ?_) (fun h26 => ?_)
    · skip
      refine x_iconst (v := 0) (pc2 := 48) dX0_startPart_47 rfl (by decide) ?_
      refine x_iret dX0_startPart_48 rfl ?_
      exact ⟨by first | (simp [*]; done) | (subst h3; simp [*]; done) | (subst h26; simp [*]; done), rfl⟩
    · skip
      refine x_aload0 (pc2 := 30) dX0_startPart_29 rfl ?_
      refine x_getI (pc2 := 33) fX0_32 sh_7 rfl dX0_startPart_30 rfl ?_
      refine x_if_le (pc2 := 36) (pc3 := 47) dX0_startPart_33 rfl rfl (fun h33 => ?_) (fun h33 => ?_)
      · skip
        refine x_iconst (v := 0) (pc2 := 48) dX0_startPart_47 rfl (by decide) ?_
        refine x_iret dX0_startPart_48 rfl ?_
        exact ⟨by first | (simp [*]; done) | (subst h3; simp [*]; done) | (subst h26; simp [*]; done), rfl⟩
      · skip
        refine x_aload0 (pc2 := 37) dX0_startPart_36 rfl ?_
        refine x_getI (pc2 := 40) fX0_39 sh_7 rfl dX0_startPart_37 rfl ?_
        refine x_iconst (v := 4) (pc2 := 41) dX0_startPart_40 rfl (by decide) ?_
        refine x_icmp_ge (pc2 := 44) (pc3 := 47) dX0_startPart_41 rfl rfl (fun h41 => ?_) (fun h41 => ?_)
        · skip
          refine x_iconst (v := 0) (pc2 := 48) dX0_startPart_47 rfl (by decide) ?_
          refine x_iret dX0_startPart_48 rfl ?_
          exact ⟨by first | (simp [*]; done) | (subst h3; simp [*]; done) | (subst h26; simp [*]; done), rfl⟩
        · skip
          refine x_bipush (v := 6) (pc2 := 46) dX0_startPart_44 rfl (by decide) ?_
          refine x_iret dX0_startPart_46 rfl ?_
          exact ⟨by first | (simp [*]; done) | (subst h3; simp [*]; done) | (subst h26; simp [*]; done), rfl⟩
  · skip
    refine x_aload0 (pc2 := 7) dX0_startPart_6 rfl ?_
    refine x_getI (pc2 := 10) fX0_39 sh_7 rfl dX0_startPart_7 rfl ?_
    refine x_if_ne (pc2 := 13) (pc3 := 23) dX0_startPart_10 rfl rfl (fun h10 => ?_) (fun h10 => ?_)
    · skip
      refine x_iload1 (pc2 := 24) dX0_startPart_23 rfl ?_
      refine x_bipush (v := 44) (pc2 := 26) dX0_startPart_24 rfl (by decide) ?_
      refine x_icmp_ne (pc2 := 29) (pc3 := 47) dX0_startPart_26 rfl rfl (fun h26 => ?_) (fun h26 => ?_)
      · skip
        refine x_iconst (v := 0) (pc2 := 48) dX0_startPart_47 rfl (by decide) ?_
        refine x_iret dX0_startPart_48 rfl ?_
        exact ⟨by first | (simp [*]; done) | (subst h3; simp [*]; done) | (subst h26; simp [*]; done), rfl⟩
      · skip
        refine x_aload0 (pc2 := 30) dX0_startPart_29 rfl ?_
        refine x_getI (pc2 := 33) fX0_32 sh_7 rfl dX0_startPart_30 rfl ?_
        refine x_if_le (pc2 := 36) (pc3 := 47) dX0_startPart_33 rfl rfl (fun h33 => ?_) (fun h33 => ?_)
        · skip
          refine x_iconst (v := 0) (pc2 := 48) dX0_startPart_47 rfl (by decide) ?_
          refine x_iret dX0_startPart_48 rfl ?_
          exact ⟨by first | (simp [*]; done) | (subst h3; simp [*]; done) | (subst h26; simp [*]; done), rfl⟩
        · skip
          refine x_aload0 (pc2 := 37) dX0_startPart_36 rfl ?_
          refine x_getI (pc2 := 40) fX0_39 sh_7 rfl dX0_startPart_37 rfl ?_
          refine x_iconst (v := 4) (pc2 := 41) dX0_startPart_40 rfl (by decide) ?_
          refine x_icmp_ge (pc2 := 44) (pc3 := 47) dX0_startPart_41 rfl rfl (fun h41 => ?_) (fun h41 => ?_)
          · skip
            refine x_iconst (v := 0) (pc2 := 48) dX0_startPart_47 rfl (by decide) ?_
            refine x_iret dX0_startPart_48 rfl ?_
            exact ⟨by first | (simp [*]; done) | (subst h3; simp [*]; done) | (subst h26; simp [*]; done), rfl⟩
          · skip
            refine x_bipush (v := 6) (pc2 := 46) dX0_startPart_44 rfl (by decide) ?_
            refine x_iret dX0_startPart_46 rfl ?_
            exact ⟨by first | (simp [*]; done) | (subst h3; simp [*]; done) | (subst h26; simp [*]; done), rfl⟩
    · skip
      refine x_aload0 (pc2 := 14) dX0_startPart_13 rfl ?_
      refine x_getI (pc2 := 17) fX0_32 sh_7 rfl dX0_startPart_14 rfl ?_
      refine x_iconst (v := 3) (pc2 := 18) dX0_startPart_17 rfl (by decide) ?_
      refine x_icmp_ge (pc2 := 21) (pc3 := 23) dX0_startPart_18 rfl rfl (fun h18 => ?_) (fun h18 => ?_)
      · skip
        refine x_iload1 (pc2 := 24) dX0_startPart_23 rfl ?_
        refine x_bipush (v := 44) (pc2 := 26) dX0_startPart_24 rfl (by decide) ?_
        refine x_icmp_ne (pc2 := 29) (pc3 := 47) dX0_startPart_26 rfl rfl (fun h26 => ?_) (fun h26 => ?_)
        · skip
          refine x_iconst (v := 0) (pc2 := 48) dX0_startPart_47 rfl (by decide) ?_
          refine x_iret dX0_startPart_48 rfl ?_
          exact ⟨by first | (simp [*]; done) | (subst h3; simp [*]; done) | (subst h26; simp [*]; done), rfl⟩
        · skip
          refine x_aload0 (pc2 := 30) dX0_startPart_29 rfl ?_
          refine x_getI (pc2 := 33) fX0_32 sh_7 rfl dX0_startPart_30 rfl ?_
          refine x_if_le (pc2 := 36) (pc3 := 47) dX0_startPart_33 rfl rfl (fun h33 => ?_) (fun h33 => ?_)
          · skip
            refine x_iconst (v := 0) (pc2 := 48) dX0_startPart_47 rfl (by decide) ?_
            refine x_iret dX0_startPart_48 rfl ?_
            exact ⟨by first | (simp [*]; done) | (subst h3; simp [*]; done) | (subst h26; simp [*]; done), rfl⟩
          · skip
            refine x_aload0 (pc2 := 37) dX0_startPart_36 rfl ?_
            refine x_getI (pc2 := 40) fX0_39 sh_7 rfl dX0_startPart_37 rfl ?_
            refine x_iconst (v := 4) (pc2 := 41) dX0_startPart_40 rfl (by decide) ?_
            refine x_icmp_ge (pc2 := 44) (pc3 := 47) dX0_startPart_41 rfl rfl (fun h41 => ?_) (fun h41 => ?_)
            · skip
              refine x_iconst (v := 0) (pc2 := 48) dX0_startPart_47 rfl (by decide) ?_
              refine x_iret dX0_startPart_48 rfl ?_
              exact ⟨by first | (simp [*]; done) | (subst h3; simp [*]; done) | (subst h26; simp [*]; done), rfl⟩
            · skip
              refine x_bipush (v := 6) (pc2 := 46) dX0_startPart_44 rfl (by decide) ?_
              refine x_iret dX0_startPart_46 rfl ?_
              exact ⟨by first | (simp [*]; done) | (subst h3; simp [*]; done) | (subst h26; simp [*]; done), rfl⟩
      · skip
        refine x_iconst (v := 4) (pc2 := 22) dX0_startPart_21 rfl (by decide) ?_
        refine x_iret dX0_startPart_22 rfl ?_
        exact ⟨by first | (simp [*]; done) | (subst h3; simp [*]; done) | (subst h26; simp [*]; done), rfl⟩
theorem s_startPart (d : Nat) {σ : zS} {N K : Nat} (hN : σ.1 7 2 = nI N) (hK : σ.1 7 6 = nI K) (hN3 : N ≤ 3) (hK4 : K ≤ 4) (code : Int32) : z_Fn mX0_startPart d [.ref 7, .int code] σ (.int (nI (if code = 59 ∧ K = 0 ∧ N < 3 then 4 else if code = 44 ∧ 0 < N ∧ K < 4 then 6 else 0))) σ := by
  have h := s_startPart0 d σ code
  rw [hN, hK] at h
  have e0 : (nI K : Int32) = 0 ↔ K = 0 := nI_eq_iff (b := 0) (by omega) (by decide)
  have g3 : (3 : Int32) ≤ nI N ↔ 3 ≤ N := nI_le_iff (a := 3) (by decide) (by omega)
  have g4 : (4 : Int32) ≤ nI K ↔ 4 ≤ K := nI_le_iff (a := 4) (by decide) (by omega)
  have g0 : nI N ≤ (0 : Int32) ↔ N ≤ 0 := nI_le_iff (b := 0) (by omega) (by decide)
  simp only [e0, g3, g4, g0, Nat.not_le] at h
  have e : (if code = 59 ∧ K = 0 ∧ N < 3 then (4 : Int32) else if code = 44 ∧ 0 < N ∧ K < 4 then 6 else 0) = nI (if code = 59 ∧ K = 0 ∧ N < 3 then 4 else if code = 44 ∧ 0 < N ∧ K < 4 then 6 else 0) := by
    split
    · rfl
    · split <;> rfl
  rw [e] at h
  exact h
theorem s_readKind (d : Nat) {σ : zS} {K : Nat} (hK : σ.1 7 6 = nI K) (hK4 : K < 4) (code : Int32) : z_Fn mX0_readKind (d + 1) [.ref 7, .int code] σ (.int (if pKd code = -9 then 0 else 7)) (if pKd code = -9 then σ else z_st σ 11 K (pKd code)) := by
  refine x_enter (by decide) (Nat.le_of_ble_eq_true rfl) ?_
  show z_At _ _ _ [.ref 7, .int code, .null] _ _ _
  refine x_iload1 (pc2 := 1) dX0_readKind_0 rfl ?_
  refine x_fS1 (pc2 := 4) eX0_kindOfLetter kX0_67 (Nat.le_of_ble_eq_true rfl) dX0_readKind_1 rfl (s_kindOfLetter _ _ _) ?_
  refine x_istore2 (pc2 := 5) dX0_readKind_4 rfl rfl ?_
  refine x_iload2 (pc2 := 6) dX0_readKind_5 rfl ?_
  refine x_bipush (v := -9) (pc2 := 8) dX0_readKind_6 rfl (by decide) ?_
  refine x_icmp_ne (pc2 := 11) (pc3 := 13) dX0_readKind_8 rfl rfl (fun h8 => ?_) (fun h8 => ?_)
  · skip
    refine x_aload0 (pc2 := 14) dX0_readKind_13 rfl ?_
    refine x_getR (pc2 := 17) fX0_26 sh_7 rfl dX0_readKind_14 rfl ?_
    refine x_aload0 (pc2 := 18) dX0_readKind_17 rfl ?_
    refine x_getI (pc2 := 21) fX0_39 sh_7 rfl dX0_readKind_18 rfl ?_
    refine x_iload2 (pc2 := 22) dX0_readKind_21 rfl ?_
    rw [hK]
    refine x_iast (pc2 := 23) sh_11 (by exact z_in hK4) dX0_readKind_22 rfl ?_
    refine x_bipush (v := 7) (pc2 := 25) dX0_readKind_23 rfl (by decide) ?_
    refine x_iret dX0_readKind_25 rfl ?_
    rw [nI_clamp (by omega), if_neg h8, if_neg h8]
    exact ⟨rfl, rfl⟩
  · skip
    refine x_iconst (v := 0) (pc2 := 12) dX0_readKind_11 rfl (by decide) ?_
    refine x_iret dX0_readKind_12 rfl ?_
    rw [if_pos h8, if_pos h8]
    exact ⟨rfl, rfl⟩
def pDg (due : Nat) (dg : Int32) : Bool := if due = 5 then !decide (dg < 0) && decide (dg ≤ 4) else !decide (dg < 1) && decide (dg ≤ 9)
theorem s_readDigit (d : Nat) {σ : zS} {N K : Nat} (hN : σ.1 7 2 = nI N) (hK : σ.1 7 6 = nI K) {due : Nat} (hdue : due = 2 ∨ due = 4 ∨ due = 5 ∨ due = 7) (hN3 : due = 4 ∨ due = 5 → N < 3) (hK4 : due = 7 → K < 4) (dg : Int32) : z_Fn mX0_readDigit d [.ref 7, .int (nI due), .int dg] σ (.int (if pDg due dg = false then 0 else if due = 4 then 5 else 3)) (if pDg due dg = false then σ else if due = 2 then z_st σ 7 0 dg else if due = 4 then z_st σ 8 N dg else if due = 5 then z_st (z_st σ 9 N dg) 7 2 (nI (N + 1)) else z_st (z_st σ 12 K dg) 7 6 (nI (K + 1))) := by
  refine x_enter (by decide) (Nat.le_of_ble_eq_true rfl) ?_
  show z_At _ _ _ [.ref 7, .int (nI due), .int dg, .null] _ _ _
  have hrest : pDg due dg = true → ∀ l3 : Int32, z_At mX0_readDigit d 40 [.ref 7, .int (nI due), .int dg, .int l3] [] σ (fun rv σ' => rv = some (.int (if pDg due dg = false then 0 else if due = 4 then 5 else 3)) ∧ σ' = if pDg due dg = false then σ else if due = 2 then z_st σ 7 0 dg else if due = 4 then z_st σ 8 N dg else if due = 5 then z_st (z_st σ 9 N dg) 7 2 (nI (N + 1)) else z_st (z_st σ 12 K dg) 7 6 (nI (K + 1))) := by
    intro q l3
    have nq : ¬ pDg due dg = false := by rw [q]; decide
    rw [if_neg nq, if_neg nq]
    refine x_iload1 (pc2 := 41) dX0_readDigit_40 rfl ?_
    refine x_tbl (p0 := 143) (fun k => match k with | 0 => 80 | 1 => 143 | 2 => 87 | 3 => 99 | 4 => 143 | _ => 121) dX0_readDigit_41 (by decide) (by decide) rfl (fun k hk h41 => ?_) (fun h41 => ?_)
    · have hk : k < 6 := hk
      rw [nI_toInt (by omega)] at h41
      rcases hdue with rfl | rfl | rfl | rfl
      · obtain rfl : k = 0 := by omega
        show z_At _ _ 80 _ _ _ _
        refine x_aload0 (pc2 := 81) dX0_readDigit_80 rfl ?_
        refine x_iload2 (pc2 := 82) dX0_readDigit_81 rfl ?_
        refine x_putI (pc2 := 85) pX0_42 sh_7 rfl dX0_readDigit_82 rfl ?_
        refine x_iconst (v := 3) (pc2 := 86) dX0_readDigit_85 rfl (by decide) ?_
        refine x_iret dX0_readDigit_86 rfl ?_
        exact ⟨rfl, rfl⟩
      · obtain rfl : k = 2 := by omega
        have := hN3 (Or.inl rfl)
        show z_At _ _ 87 _ _ _ _
        refine x_aload0 (pc2 := 88) dX0_readDigit_87 rfl ?_
        refine x_getR (pc2 := 91) fX0_15 sh_7 rfl dX0_readDigit_88 rfl ?_
        refine x_aload0 (pc2 := 92) dX0_readDigit_91 rfl ?_
        refine x_getI (pc2 := 95) fX0_32 sh_7 rfl dX0_readDigit_92 rfl ?_
        rw [hN]
        refine x_iload2 (pc2 := 96) dX0_readDigit_95 rfl ?_
        refine x_iast (pc2 := 97) sh_8 (by exact z_in (by omega)) dX0_readDigit_96 rfl ?_
        refine x_iconst (v := 5) (pc2 := 98) dX0_readDigit_97 rfl (by decide) ?_
        refine x_iret dX0_readDigit_98 rfl ?_
        rw [nI_clamp (by omega)]
        exact ⟨rfl, rfl⟩
      · obtain rfl : k = 3 := by omega
        have := hN3 (Or.inr rfl)
        show z_At _ _ 99 _ _ _ _
        refine x_aload0 (pc2 := 100) dX0_readDigit_99 rfl ?_
        refine x_getR (pc2 := 103) fX0_19 sh_7 rfl dX0_readDigit_100 rfl ?_
        refine x_aload0 (pc2 := 104) dX0_readDigit_103 rfl ?_
        refine x_getI (pc2 := 107) fX0_32 sh_7 rfl dX0_readDigit_104 rfl ?_
        rw [hN]
        refine x_iload2 (pc2 := 108) dX0_readDigit_107 rfl ?_
        refine x_iast (pc2 := 109) sh_9 (by exact z_in (by omega)) dX0_readDigit_108 rfl ?_
        refine x_aload0 (pc2 := 110) dX0_readDigit_109 rfl ?_
        refine x_dup (pc2 := 111) dX0_readDigit_110 rfl rfl ?_
        refine x_getI (pc2 := 114) fX0_32 sh_7 rfl dX0_readDigit_111 rfl ?_
        rw [nI_clamp (by omega), z_st_row _ _ _ (by decide), hN]
        refine x_iconst (v := 1) (pc2 := 115) dX0_readDigit_114 rfl (by decide) ?_
        refine x_iadd (pc2 := 116) dX0_readDigit_115 rfl ?_
        refine x_putI (pc2 := 119) pX0_32 sh_7 rfl dX0_readDigit_116 rfl ?_
        refine x_iconst (v := 3) (pc2 := 120) dX0_readDigit_119 rfl (by decide) ?_
        refine x_iret dX0_readDigit_120 rfl ?_
        rw [← nI_succ]
        exact ⟨rfl, rfl⟩
      · obtain rfl : k = 5 := by omega
        have := hK4 rfl
        show z_At _ _ 121 _ _ _ _
        refine x_aload0 (pc2 := 122) dX0_readDigit_121 rfl ?_
        refine x_getR (pc2 := 125) fX0_29 sh_7 rfl dX0_readDigit_122 rfl ?_
        refine x_aload0 (pc2 := 126) dX0_readDigit_125 rfl ?_
        refine x_getI (pc2 := 129) fX0_39 sh_7 rfl dX0_readDigit_126 rfl ?_
        rw [hK]
        refine x_iload2 (pc2 := 130) dX0_readDigit_129 rfl ?_
        refine x_iast (pc2 := 131) sh_12 (by exact z_in (by omega)) dX0_readDigit_130 rfl ?_
        refine x_aload0 (pc2 := 132) dX0_readDigit_131 rfl ?_
        refine x_dup (pc2 := 133) dX0_readDigit_132 rfl rfl ?_
        refine x_getI (pc2 := 136) fX0_39 sh_7 rfl dX0_readDigit_133 rfl ?_
        rw [nI_clamp (by omega), z_st_row _ _ _ (by decide), hK]
        refine x_iconst (v := 1) (pc2 := 137) dX0_readDigit_136 rfl (by decide) ?_
        refine x_iadd (pc2 := 138) dX0_readDigit_137 rfl ?_
        refine x_putI (pc2 := 141) pX0_39 sh_7 rfl dX0_readDigit_138 rfl ?_
        refine x_iconst (v := 3) (pc2 := 142) dX0_readDigit_141 rfl (by decide) ?_
        refine x_iret dX0_readDigit_142 rfl ?_
        rw [← nI_succ]
        exact ⟨rfl, rfl⟩
    · exfalso
      rw [nI_toInt (by omega)] at h41
      omega
  have hbad : pDg due dg = false → ∀ l3 : Int32, z_At mX0_readDigit d 38 [.ref 7, .int (nI due), .int dg, .int l3] [] σ (fun rv σ' => rv = some (.int (if pDg due dg = false then 0 else if due = 4 then 5 else 3)) ∧ σ' = if pDg due dg = false then σ else if due = 2 then z_st σ 7 0 dg else if due = 4 then z_st σ 8 N dg else if due = 5 then z_st (z_st σ 9 N dg) 7 2 (nI (N + 1)) else z_st (z_st σ 12 K dg) 7 6 (nI (K + 1))) := by
    intro q l3
    rw [if_pos q, if_pos q]
    refine x_iconst (v := 0) (pc2 := 39) dX0_readDigit_38 rfl (by decide) ?_
    refine x_iret dX0_readDigit_39 rfl ?_
    exact ⟨rfl, rfl⟩
  have h5 : (nI due : Int32) = 5 ↔ due = 5 := nI_eq_iff (b := 5) (by omega) (by decide)
  unfold pDg at hrest hbad ⊢
  refine x_iload1 (pc2 := 1) dX0_readDigit_0 rfl ?_
  refine x_iconst (v := 5) (pc2 := 2) dX0_readDigit_1 rfl (by decide) ?_
  refine x_icmp_ne (pc2 := 5) (pc3 := 9) dX0_readDigit_2 rfl rfl (fun h2 => ?_) (fun h2 => ?_)
  · rw [h5] at h2
    rw [if_neg h2] at hrest hbad ⊢
    refine x_iconst (v := 0) (pc2 := 10) dX0_readDigit_9 rfl (by decide) ?_
    refine x_istore3 (pc2 := 11) dX0_readDigit_10 rfl rfl ?_
    refine x_iload2 (pc2 := 12) dX0_readDigit_11 rfl ?_
    refine x_iload3 (pc2 := 13) dX0_readDigit_12 rfl ?_
    refine x_if_eq (pc2 := 16) (pc3 := 20) dX0_readDigit_13 rfl rfl (fun h13 => ?_) (fun h13 => ?_)
    rotate_left
    · exact absurd rfl h13
    refine x_iconst (v := 1) (pc2 := 21) dX0_readDigit_20 rfl (by decide) ?_
    refine x_icmp_lt (pc2 := 24) (pc3 := 38) dX0_readDigit_21 rfl rfl (fun h21 => ?_) (fun h21 => ?_)
    · exact hbad (by simp [h21]) 0
    refine x_iload2 (pc2 := 25) dX0_readDigit_24 rfl ?_
    refine x_iload3 (pc2 := 26) dX0_readDigit_25 rfl ?_
    refine x_if_eq (pc2 := 29) (pc3 := 33) dX0_readDigit_26 rfl rfl (fun h26 => ?_) (fun h26 => ?_)
    rotate_left
    · exact absurd rfl h26
    refine x_bipush (v := 9) (pc2 := 35) dX0_readDigit_33 rfl (by decide) ?_
    refine x_icmp_le (pc2 := 38) (pc3 := 40) dX0_readDigit_35 rfl rfl (fun h35 => ?_) (fun h35 => ?_)
    · exact hrest (by simp [h21, h35]) 0
    · exact hbad (by simp [h21, h35]) 0
  · rw [h5] at h2
    rw [if_pos h2] at hrest hbad ⊢
    refine x_iconst (v := 1) (pc2 := 6) dX0_readDigit_5 rfl (by decide) ?_
    refine x_goto (pc2 := 10) dX0_readDigit_6 rfl ?_
    refine x_istore3 (pc2 := 11) dX0_readDigit_10 rfl rfl ?_
    refine x_iload2 (pc2 := 12) dX0_readDigit_11 rfl ?_
    refine x_iload3 (pc2 := 13) dX0_readDigit_12 rfl ?_
    refine x_if_eq (pc2 := 16) (pc3 := 20) dX0_readDigit_13 rfl rfl (fun h13 => ?_) (fun h13 => ?_)
    · exact absurd h13 (by decide)
    refine x_iconst (v := 0) (pc2 := 17) dX0_readDigit_16 rfl (by decide) ?_
    refine x_goto (pc2 := 21) dX0_readDigit_17 rfl ?_
    refine x_icmp_lt (pc2 := 24) (pc3 := 38) dX0_readDigit_21 rfl rfl (fun h21 => ?_) (fun h21 => ?_)
    · exact hbad (by simp [h21]) 1
    refine x_iload2 (pc2 := 25) dX0_readDigit_24 rfl ?_
    refine x_iload3 (pc2 := 26) dX0_readDigit_25 rfl ?_
    refine x_if_eq (pc2 := 29) (pc3 := 33) dX0_readDigit_26 rfl rfl (fun h26 => ?_) (fun h26 => ?_)
    · exact absurd h26 (by decide)
    refine x_iconst (v := 4) (pc2 := 30) dX0_readDigit_29 rfl (by decide) ?_
    refine x_goto (pc2 := 35) dX0_readDigit_30 rfl ?_
    refine x_icmp_le (pc2 := 38) (pc3 := 40) dX0_readDigit_35 rfl rfl (fun h35 => ?_) (fun h35 => ?_)
    · exact hrest (by simp [h21, h35]) 1
    · exact hbad (by simp [h21, h35]) 1
