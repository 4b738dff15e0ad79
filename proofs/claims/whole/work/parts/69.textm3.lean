/-! the model's readOneThing -/
theorem s_readOneThing (d : Nat) {σ τ : zS} {b0 n : Nat} (hb : b0 + n ≤ 240) {f : Nat → Int32} (hf : ∀ p, f p = σ.1 46 (b0 + p)) {B : Int32} {N K : Nat} {ln md kd pd : Nat → Int32} (hK : K < 4) {p : Nat} (hp : p ≤ n) (hQ : gQ σ b0 τ (6, B, N, K, ln, md, kd, pd) p) : z_Ex mX6_readOneThing (d + 2) [.ref 43, .int (nI (b0 + n))] τ (gPart σ b0 n f (6, B, N, K, ln, md, kd, pd) p (fun s2 => s2.1 = 3 ∧ s2.2.2.1 = N ∧ s2.2.2.2.1 = K + 1)) := by
  obtain ⟨hF, ⟨q1, q2, q3, q4⟩, q5, q6⟩ := hQ
  simp only at q2 q3 q4 q5 q6
  have hK2 := gb_two3 K (by omega)
  have e46 : ∀ {τ : zS}, gQf σ τ → τ.1 46 = σ.1 46 := fun h => h.1 46 (by decide) (by decide) (by decide)
  have hL : ∀ c : Int32, (p < n → c = f p) → (p = n → c = 0) → z_At mX6_readOneThing (d + 2) 66 [.ref 43, .int (nI (b0 + n)), .int (nI (2 * K)), .int c] [.int (pKd c), .int (nI (2 * K)), .ref 53] τ (gPart σ b0 n f (6, B, N, K, ln, md, kd, pd) p (fun s2 => s2.1 = 3 ∧ s2.2.2.1 = N ∧ s2.2.2.2.1 = K + 1)) := by
    intro c hc1 hc2
    refine x_iast (pc2 := 67) sh_53 (by exact z_in (by omega)) dX6_readOneThing_66 rfl ?_
    refine x_aload0 (pc2 := 68) dX6_readOneThing_67 rfl ?_
    refine x_getR (pc2 := 71) fX6_45 sh_43 rfl dX6_readOneThing_68 rfl ?_
    refine x_iload2 (pc2 := 72) dX6_readOneThing_71 rfl ?_
    refine x_iald (pc2 := 73) sh_53 (by exact z_in (by omega)) dX6_readOneThing_72 rfl ?_
    rw [nI_clamp (by omega), z_st_at]
    refine x_bipush (v := -9) (pc2 := 75) dX6_readOneThing_73 rfl (by decide) ?_
    refine x_icmp_ne (pc2 := 78) (pc3 := 80) dX6_readOneThing_75 rfl rfl (fun h75 => ?_) (fun h75 => ?_)
    rotate_left
    · skip
      refine x_iconst (v := 0) (pc2 := 79) dX6_readOneThing_78 rfl (by decide) ?_
      refine x_zret dX6_readOneThing_79 rfl (by first | assumption | exact z_b01 _ | exact Or.inl rfl | exact Or.inr rfl) ?_
      refine Or.inr ⟨rfl, p, pl_stop hp ?_ (fun q => by simp at q), hp, hF.st (Or.inr rfl) _ _, by rw [z_st_row _ _ _ (by decide)]; exact q1⟩
      by_cases e : p = n
      · exact Or.inl e
      · right
        rw [hc1 (by omega)] at h75
        unfold pStep
        simp only [Nat.reduceEqDiff, if_false, if_true, if_pos h75]
    have hpn : p < n := by
      rcases Nat.lt_or_ge p n with h | h
      · exact h
      · exact absurd (by rw [hc2 (by omega)]; decide) h75
    rw [hc1 hpn] at h75 ⊢
    have es1 : pStep (6, B, N, K, ln, md, kd, pd) (f p) = (7, B, N, K, ln, md, upd kd K (pKd (f p)), pd) := by
      unfold pStep
      simp only [Nat.reduceEqDiff, if_false, if_true, if_neg h75]
    have hgo1 := pl_go (f := f) (n := n) (s := (6, B, N, K, ln, md, kd, pd)) hpn (by rw [es1]; simp)
    rw [es1] at hgo1
    refine x_aload0 (pc2 := 81) dX6_readOneThing_80 rfl ?_
    refine x_dup (pc2 := 82) dX6_readOneThing_81 rfl rfl ?_
    refine x_getI (pc2 := 85) fX6_90 sh_43 rfl dX6_readOneThing_82 rfl ?_
    rw [z_st_row _ _ _ (by decide), q1]
    refine x_iconst (v := 1) (pc2 := 86) dX6_readOneThing_85 rfl (by decide) ?_
    refine x_iadd (pc2 := 87) dX6_readOneThing_86 rfl ?_
    rw [← nI_succ]
    refine x_putI (pc2 := 90) pX6_90 sh_43 rfl dX6_readOneThing_87 rfl ?_
    refine x_aload0 (pc2 := 91) dX6_readOneThing_90 rfl ?_
    refine x_getR (pc2 := 94) fX6_45 sh_43 rfl dX6_readOneThing_91 rfl ?_
    refine x_iload2 (pc2 := 95) dX6_readOneThing_94 rfl ?_
    refine x_iconst (v := 1) (pc2 := 96) dX6_readOneThing_95 rfl (by decide) ?_
    refine x_iadd (pc2 := 97) dX6_readOneThing_96 rfl ?_
    rw [← nI_succ]
    have hF1 : gQf σ (z_st (z_st τ 53 (2 * K) (pKd (f p))) 43 15 (nI (b0 + p + 1))) := (hF.st (Or.inr rfl) _ _).at (by decide) _
    have q1' : (z_st (z_st τ 53 (2 * K) (pKd (f p))) 43 15 (nI (b0 + p + 1))).1 43 15 = nI (b0 + p + 1) := by rw [z_st_at]
    refine x_aload0 (pc2 := 98) dX6_readOneThing_97 rfl ?_
    refine x_iload1 (pc2 := 99) dX6_readOneThing_98 rfl ?_
    refine x_iconst (v := 1) (pc2 := 100) dX6_readOneThing_99 rfl (by decide) ?_
    refine x_bipush (v := 9) (pc2 := 102) dX6_readOneThing_100 rfl (by decide) ?_
    refine x_fV3 (pc2 := 105) eX6_digit kX6_130 sh_43 rfl (Nat.le_of_ble_eq_true rfl) dX6_readOneThing_102 rfl (s_digit _ q1' (by omega) (by omega) 1 9) ?_
    rw [e46 hF1, show b0 + p + 1 = b0 + (p + 1) from rfl, ← hf (p + 1)]
    have hdig2 := pDigit_iff (code := f (p + 1)) (lo := 1) (hi := 9) (by decide) (by decide)
    by_cases c3 : b0 + (p + 1) < b0 + n ∧ z_wi (f (p + 1)) (48 + 1) (48 + 9) = true
    rotate_left
    · rw [if_neg c3, if_neg c3]
      refine x_iast (pc2 := 106) sh_53 (by exact z_in (by omega)) dX6_readOneThing_105 rfl ?_
      refine x_aload0 (pc2 := 107) dX6_readOneThing_106 rfl ?_
      refine x_dup (pc2 := 108) dX6_readOneThing_107 rfl rfl ?_
      refine x_getI (pc2 := 111) fX6_120 sh_43 rfl dX6_readOneThing_108 rfl ?_
      rw [nI_clamp (by omega)]
      have h18 : ∀ v, (z_st (z_st (z_st τ 53 (2 * K) (pKd (f p))) 43 15 (nI (b0 + (p + 1)))) 53 (2 * K + 1) v).1 43 18 = nI K := fun v => by rw [z_st_row _ _ _ (by decide), z_st_fld _ _ _ (by decide), z_st_row _ _ _ (by decide)]; exact q3
      rw [h18]
      refine x_iconst (v := 1) (pc2 := 112) dX6_readOneThing_111 rfl (by decide) ?_
      refine x_iadd (pc2 := 113) dX6_readOneThing_112 rfl ?_
      rw [← nI_succ]
      refine x_putI (pc2 := 116) pX6_120 sh_43 rfl dX6_readOneThing_113 rfl ?_
      refine x_aload0 (pc2 := 117) dX6_readOneThing_116 rfl ?_
      refine x_getR (pc2 := 120) fX6_45 sh_43 rfl dX6_readOneThing_117 rfl ?_
      refine x_iload2 (pc2 := 121) dX6_readOneThing_120 rfl ?_
      refine x_iconst (v := 1) (pc2 := 122) dX6_readOneThing_121 rfl (by decide) ?_
      refine x_iadd (pc2 := 123) dX6_readOneThing_122 rfl ?_
      rw [← nI_succ]
      refine x_iald (pc2 := 124) sh_53 (by exact z_in (by omega)) dX6_readOneThing_123 rfl ?_
      rw [z_st_row _ _ _ (by decide), nI_clamp (by omega), z_st_at]
      refine x_bipush (v := -9) (pc2 := 126) dX6_readOneThing_124 rfl (by decide) ?_
      refine x_icmp_eq (pc2 := 129) (pc3 := 133) dX6_readOneThing_126 rfl rfl (fun h126 => ?_) (fun h126 => ?_)
      · skip
        refine x_iconst (v := 0) (pc2 := 134) dX6_readOneThing_133 rfl (by decide) ?_
        refine x_zret dX6_readOneThing_134 rfl (by first | assumption | exact z_b01 _ | exact Or.inl rfl | exact Or.inr rfl) ?_
        refine Or.inr ⟨rfl, p + 1, ?_, by omega, (hF1.st (Or.inr rfl) _ _).at (by decide) _, ?_⟩
        · rw [hgo1]
          refine pl_stop (by omega) ?_ (fun q => by simp at q)
          by_cases e : p + 1 = n
          · exact Or.inl e
          · right
            have c2 : f (p + 1) - 48 < 1 ∨ ¬ f (p + 1) - 48 ≤ 9 := Classical.not_not.mp fun q => c3 ⟨by omega, hdig2.mpr q⟩
            unfold pStep
            simp only [Nat.reduceEqDiff, if_false, if_true, if_pos c2]
        · rw [z_st_fld _ _ _ (by decide), z_st_row _ _ _ (by decide)]; exact q1'
      · exact absurd rfl h126
    rw [if_pos c3, if_pos c3]
    have hpn2 : p + 1 < n := by omega
    have nd2 := hdig2.mp c3.2
    have nd2' : ¬ (f (p + 1) - 48 < 1 ∨ ¬ f (p + 1) - 48 ≤ 9) := nd2
    obtain ⟨l', l1', l2'⟩ := pDigit (by decide) nd2 (by decide)
    have es2 : pStep (7, B, N, K, ln, md, upd kd K (pKd (f p)), pd) (f (p + 1)) = (3, B, N, K + 1, ln, md, upd kd K (pKd (f p)), upd pd K (f (p + 1) - 48)) := by
      unfold pStep
      simp only [Nat.reduceEqDiff, if_false, if_true, if_neg nd2']
    have hgo2 := pl_go (f := f) (n := n) (s := (7, B, N, K, ln, md, upd kd K (pKd (f p)), pd)) hpn2 (by rw [es2]; simp)
    rw [es2] at hgo2
    refine x_iast (pc2 := 106) sh_53 (by exact z_in (by omega)) dX6_readOneThing_105 rfl ?_
    refine x_aload0 (pc2 := 107) dX6_readOneThing_106 rfl ?_
    refine x_dup (pc2 := 108) dX6_readOneThing_107 rfl rfl ?_
    refine x_getI (pc2 := 111) fX6_120 sh_43 rfl dX6_readOneThing_108 rfl ?_
    rw [nI_clamp (by omega)]
    have h18' : ∀ v w, (z_st (z_st (z_st (z_st τ 53 (2 * K) (pKd (f p))) 43 15 (nI (b0 + (p + 1)))) 43 15 w) 53 (2 * K + 1) v).1 43 18 = nI K := fun v w => by rw [z_st_row _ _ _ (by decide), z_st_fld _ _ _ (by decide), z_st_fld _ _ _ (by decide), z_st_row _ _ _ (by decide)]; exact q3
    rw [h18']
    refine x_iconst (v := 1) (pc2 := 112) dX6_readOneThing_111 rfl (by decide) ?_
    refine x_iadd (pc2 := 113) dX6_readOneThing_112 rfl ?_
    rw [← nI_succ]
    refine x_putI (pc2 := 116) pX6_120 sh_43 rfl dX6_readOneThing_113 rfl ?_
    refine x_aload0 (pc2 := 117) dX6_readOneThing_116 rfl ?_
    refine x_getR (pc2 := 120) fX6_45 sh_43 rfl dX6_readOneThing_117 rfl ?_
    refine x_iload2 (pc2 := 121) dX6_readOneThing_120 rfl ?_
    refine x_iconst (v := 1) (pc2 := 122) dX6_readOneThing_121 rfl (by decide) ?_
    refine x_iadd (pc2 := 123) dX6_readOneThing_122 rfl ?_
    rw [← nI_succ]
    refine x_iald (pc2 := 124) sh_53 (by exact z_in (by omega)) dX6_readOneThing_123 rfl ?_
    rw [nI_clamp (by omega), z_st_row _ _ _ (by decide), z_st_at]
    refine x_bipush (v := -9) (pc2 := 126) dX6_readOneThing_124 rfl (by decide) ?_
    refine x_icmp_eq (pc2 := 129) (pc3 := 133) dX6_readOneThing_126 rfl rfl (fun h126 => ?_) (fun h126 => ?_)
    · rw [l2'] at h126
      exact absurd h126 (nI_n9 (by omega))
    refine x_iconst (v := 1) (pc2 := 130) dX6_readOneThing_129 rfl (by decide) ?_
    refine x_goto (pc2 := 134) dX6_readOneThing_130 rfl ?_
    refine x_zret dX6_readOneThing_134 rfl (by first | assumption | exact z_b01 _ | exact Or.inl rfl | exact Or.inr rfl) ?_
    refine Or.inl ⟨_, p + 2, by omega, hgo1.trans hgo2, ⟨rfl, rfl, rfl⟩, rfl, (((hF1.at (by decide) _).st (Or.inr rfl) _ _).at (by decide) _), ⟨?_, ?_, ?_, fun _ => ?_⟩, fun j hj => ?_, fun t ht => ?_⟩
    · rw [z_st_fld _ _ _ (by decide), z_st_row _ _ _ (by decide), z_st_at]
      rfl
    · rw [z_st_fld _ _ _ (by decide), z_st_row _ _ _ (by decide), z_st_fld _ _ _ (by decide), z_st_fld _ _ _ (by decide), z_st_row _ _ _ (by decide)]
      exact q2
    · rw [z_st_at]
    · rw [z_st_fld _ _ _ (by decide), z_st_row _ _ _ (by decide), z_st_fld _ _ _ (by decide), z_st_fld _ _ _ (by decide), z_st_row _ _ _ (by decide)]
      exact q4 (by omega)
    · rw [z_st_row _ _ _ (by decide), z_st_row _ _ _ (by decide), z_st_row _ _ _ (by decide), z_st_row _ _ _ (by decide), z_st_row _ _ _ (by decide)]
      exact q5 j hj
    · simp only at ht
      rw [z_st_row _ _ _ (by decide)]
      by_cases e : t = K
      · subst e
        refine ⟨?_, ?_⟩
        · rw [z_st_fld _ _ _ (by omega), z_st_row _ _ _ (by decide), z_st_row _ _ _ (by decide), z_st_at]
          simp only [upd, if_true]
        · rw [z_st_at]
          simp only [upd, if_true]
      · simp only [upd, if_neg e]
        rw [z_st_fld _ _ _ (by omega), z_st_fld _ _ _ (by omega), z_st_row _ _ _ (by decide), z_st_row _ _ _ (by decide), z_st_fld _ _ _ (by omega), z_st_fld _ _ _ (by omega)]
        exact q6 t (by omega)
  have hM : ∀ c : Int32, (p < n → c = f p) → (p = n → c = 0) → z_At mX6_readOneThing (d + 2) 28 [.ref 43, .int (nI (b0 + n)), .int (nI (2 * K)), .null] [.int c] τ (gPart σ b0 n f (6, B, N, K, ln, md, kd, pd) p (fun s2 => s2.1 = 3 ∧ s2.2.2.1 = N ∧ s2.2.2.2.1 = K + 1)) := by
    intro c hc1 hc2
    have hL := hL c hc1 hc2
    unfold pKd at hL
    refine x_istore3 (pc2 := 29) dX6_readOneThing_28 rfl rfl ?_
    refine x_aload0 (pc2 := 30) dX6_readOneThing_29 rfl ?_
    refine x_getR (pc2 := 33) fX6_45 sh_43 rfl dX6_readOneThing_30 rfl ?_
    refine x_iload2 (pc2 := 34) dX6_readOneThing_33 rfl ?_
    refine x_iload3 (pc2 := 35) dX6_readOneThing_34 rfl ?_
    refine x_bipush (v := 116) (pc2 := 37) dX6_readOneThing_35 rfl (by decide) ?_
    refine x_icmp_ne (pc2 := 40) (pc3 := 44) dX6_readOneThing_37 rfl rfl (fun h37 => ?_) (fun h37 => ?_)
    rotate_left
    · skip
      refine x_iconst (v := 0) (pc2 := 41) dX6_readOneThing_40 rfl (by decide) ?_
      refine x_goto (pc2 := 66) dX6_readOneThing_41 rfl ?_
      rwa [if_pos h37] at hL
    rw [if_neg h37] at hL
    refine x_iload3 (pc2 := 45) dX6_readOneThing_44 rfl ?_
    refine x_bipush (v := 102) (pc2 := 47) dX6_readOneThing_45 rfl (by decide) ?_
    refine x_icmp_ne (pc2 := 50) (pc3 := 54) dX6_readOneThing_47 rfl rfl (fun h47 => ?_) (fun h47 => ?_)
    rotate_left
    · skip
      refine x_iconst (v := 1) (pc2 := 51) dX6_readOneThing_50 rfl (by decide) ?_
      refine x_goto (pc2 := 66) dX6_readOneThing_51 rfl ?_
      rwa [if_pos h47] at hL
    rw [if_neg h47] at hL
    refine x_iload3 (pc2 := 55) dX6_readOneThing_54 rfl ?_
    refine x_bipush (v := 99) (pc2 := 57) dX6_readOneThing_55 rfl (by decide) ?_
    refine x_icmp_ne (pc2 := 60) (pc3 := 64) dX6_readOneThing_57 rfl rfl (fun h57 => ?_) (fun h57 => ?_)
    rotate_left
    · skip
      refine x_iconst (v := 2) (pc2 := 61) dX6_readOneThing_60 rfl (by decide) ?_
      refine x_goto (pc2 := 66) dX6_readOneThing_61 rfl ?_
      rwa [if_pos h57] at hL
    rw [if_neg h57] at hL
    refine x_bipush (v := -9) (pc2 := 66) dX6_readOneThing_64 rfl (by decide) ?_
    exact hL
  refine x_enter (by decide) (Nat.le_of_ble_eq_true rfl) ?_
  show z_At _ _ _ [.ref 43, .int (nI (b0 + n)), .null, .null] _ _ _
  refine x_iconst (v := 2) (pc2 := 1) dX6_readOneThing_0 rfl (by decide) ?_
  refine x_aload0 (pc2 := 2) dX6_readOneThing_1 rfl ?_
  refine x_getI (pc2 := 5) fX6_120 sh_43 rfl dX6_readOneThing_2 rfl ?_
  rw [q3]
  refine x_imul (pc2 := 6) dX6_readOneThing_5 rfl ?_
  rw [hK2]
  refine x_istore2 (pc2 := 7) dX6_readOneThing_6 rfl rfl ?_
  refine x_aload0 (pc2 := 8) dX6_readOneThing_7 rfl ?_
  refine x_getI (pc2 := 11) fX6_90 sh_43 rfl dX6_readOneThing_8 rfl ?_
  rw [q1]
  refine x_iload1 (pc2 := 12) dX6_readOneThing_11 rfl ?_
  refine x_icmp_ge (pc2 := 15) (pc3 := 27) dX6_readOneThing_12 rfl rfl (fun h12 => ?_) (fun h12 => ?_)
  · skip
    refine x_iconst (v := 0) (pc2 := 28) dX6_readOneThing_27 rfl (by decide) ?_
    have h12 := (nI_le_iff (by omega) (by omega)).mp h12
    exact hM 0 (fun q => absurd q (by omega)) (fun _ => rfl)
  · have h12 : ¬ b0 + n ≤ b0 + p := fun q => h12 ((nI_le_iff (by omega) (by omega)).mpr q)
    refine x_aload0 (pc2 := 16) dX6_readOneThing_15 rfl ?_
    refine x_getR (pc2 := 19) fX6_16 sh_43 rfl dX6_readOneThing_16 rfl ?_
    refine x_aload0 (pc2 := 20) dX6_readOneThing_19 rfl ?_
    refine x_getI (pc2 := 23) fX6_90 sh_43 rfl dX6_readOneThing_20 rfl ?_
    rw [q1]
    refine x_iald (pc2 := 24) sh_46 (by exact z_in (by omega)) dX6_readOneThing_23 rfl ?_
    refine x_goto (pc2 := 28) dX6_readOneThing_24 rfl ?_
    rw [nI_clamp (by omega), e46 hF, ← hf p]
    exact hM _ (fun _ => rfl) (fun q => absurd q (by omega))
