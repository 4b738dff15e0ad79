/-! portage of both -/
theorem pLoop_c {f g : Nat → Int32} {n : Nat} : ∀ m p s, p + m ≤ n → (∀ q, q < n → f q = g q) → pLoop f n m p s = pLoop g n m p s
  | 0, p, s, _, _ => rfl
  | m + 1, p, s, hp, h => by
    rw [pLoop, pLoop, h p (by omega), pLoop_c m (p + 1) _ (by omega) h]
theorem z_pgm {sh la i n lane size size' : Int32} (f : Int32) (hs : lane ≠ -9 → size' = size) : z_pmC sh la i n lane size' = z_pgC sh la i n lane size ∧ z_pmF sh la i n lane size' f = z_pgF sh la i n lane size f := by
  unfold z_pmC z_pgC z_pmF z_pgF
  by_cases c1 : z_wi sh 0 3 = false
  · rw [if_pos c1, if_pos c1, if_pos c1, if_pos c1]; exact ⟨rfl, rfl⟩
  rw [if_neg c1, if_neg c1, if_neg c1, if_neg c1]
  by_cases c2 : z_wi la 0 2 = false
  · rw [if_pos c2, if_pos c2, if_pos c2, if_pos c2]; exact ⟨rfl, rfl⟩
  rw [if_neg c2, if_neg c2, if_neg c2, if_neg c2, z_ag_fa]
  by_cases c3 : z_fa lane la = 0
  · have hne : lane ≠ -9 := fun q => by
      unfold z_fa at c3
      rw [if_pos q] at c3
      exact absurd c3 (by decide)
    have c3' : ¬ ¬ z_fa lane la = 0 := fun q => q c3
    rw [hs hne, if_neg c3', if_neg c3', if_neg c3']
    by_cases c4 : ¬ 0 ≤ n
    · have z4 : ¬ (4 : Int32) = 0 := by decide
      rw [if_pos c4, if_pos c4, if_pos c4, if_pos z4, if_pos z4]; exact ⟨rfl, rfl⟩
    · rw [if_neg c4, if_neg c4, if_neg c4]
      by_cases c5 : z_hc i n size = false
      · have z3 : ¬ (3 : Int32) = 0 := by decide
        rw [if_pos c5, if_pos c5, if_pos c5, if_pos z3, if_pos z3]; exact ⟨rfl, rfl⟩
      · have z0 : ¬ ¬ (0 : Int32) = 0 := fun q => q rfl
        rw [if_neg c5, if_neg c5, if_neg c5, if_neg z0, if_neg z0]; exact ⟨rfl, rfl⟩
  · rw [if_pos c3, if_pos c3, if_pos c3]
    rw [if_pos c3, if_pos c3]
    exact ⟨rfl, rfl⟩
theorem z_pgC_0 {sh la i n lane size : Int32} (h : z_pgC sh la i n lane size = 0) : ¬ z_wi sh 0 3 = false ∧ lane ≠ -9 ∧ z_hc i n size = true := by
  unfold z_pgC at h
  by_cases c1 : z_wi sh 0 3 = false
  · rw [if_pos c1] at h; exact absurd h (by decide)
  rw [if_neg c1] at h
  by_cases c2 : z_wi la 0 2 = false
  · rw [if_pos c2] at h; exact absurd h (by decide)
  rw [if_neg c2] at h
  by_cases c3 : ¬ z_fa lane la = 0
  · rw [if_pos c3] at h
    exfalso
    revert h
    unfold z_fa at c3 ⊢
    split
    · decide
    · split
      next h1 h2 => rw [if_neg h1, if_pos h2] at c3; exact absurd rfl c3
      · decide
  rw [if_neg c3] at h
  have hne : lane ≠ -9 := fun q => by
    apply c3
    unfold z_fa
    rw [if_pos q]
    decide
  by_cases c4 : ¬ 0 ≤ n
  · rw [if_pos c4] at h; exact absurd h (by decide)
  rw [if_neg c4] at h
  cases c5 : z_hc i n size with
  | true => exact ⟨c1, hne, rfl⟩
  | false => rw [if_pos c5] at h; exact absurd h (by decide)
theorem pInv_0 (ln md kd pd : Nat → Int32) : pInv (1, 0, 0, 0, ln, md, kd, pd) := by simp [pInv]
theorem pV_0 (ln md kd pd : Nat → Int32) : pV (1, 0, 0, 0, ln, md, kd, pd) := by simp [pV]
theorem i_portage {σ : zS} (h : iN σ) (sh la i n : Int32) : iOp false mX5_portage mX6_portage 7 7 [.ref 0, .int sh, .int la, .int i, .int n] [.ref 43, .int sh, .int la, .int i, .int n] σ := by
  obtain ⟨a, ho, hC, hM⟩ := h
  have hC0 := hC.f0
  have ho0 : aOk (aSF a 0) := ho
  have hM0 : iM (z_f0 σ) a := hM.lo (by decide) _ _
  have h1 := s_portageC 3 σ (z_f0 σ) rfl sh la i n (hC0.hz ho0 sh) _ rfl
  refine h1.mono ?_
  rintro rv τ ⟨hne, hok⟩
  have h2 : ∀ τ, iM τ a → _ := fun τ hMτ => s_portageM 3 τ (z_g0 τ) rfl sh la i n (hMτ.g0.hz2 sh) 0 ((z_f0 σ).1 8) ((z_f0 σ).1 9) ((z_f0 σ).1 11) ((z_f0 σ).1 12) _ rfl
  have hcm : ∀ τ, iM τ a → z_pmC sh la i n ((z_g0 τ).1 44 sh.toNatClampNeg) ((z_g0 τ).1 45 sh.toNatClampNeg) = z_pgC sh la i n ((z_f0 σ).1 (14 + sh.toNatClampNeg) 0) ((z_f0 σ).1 (14 + sh.toNatClampNeg) 1) ∧ z_pmF sh la i n ((z_g0 τ).1 44 sh.toNatClampNeg) ((z_g0 τ).1 45 sh.toNatClampNeg) ((z_g0 τ).1 43 0) = z_pgF sh la i n ((z_f0 σ).1 (14 + sh.toNatClampNeg) 0) ((z_f0 σ).1 (14 + sh.toNatClampNeg) 1) ((z_f0 σ).1 0 13) := by
    intro τ hMτ
    have f0 : (z_g0 τ).1 43 0 = (z_f0 σ).1 0 13 := by rw [hMτ.g0.1.1, hC0.1.1]
    rw [f0]
    by_cases c1 : z_wi sh 0 3 = false
    · unfold z_pmC z_pgC z_pmF z_pgF
      rw [if_pos c1, if_pos c1, if_pos c1, if_pos c1]; exact ⟨rfl, rfl⟩
    obtain ⟨kn, hkn, -, ek⟩ := z_wi4 c1
    have sC := hC0.2.2.1 kn hkn
    have sM := hMτ.g0.2.2.1 kn hkn
    rw [ek, show (z_g0 τ).1 44 kn = (z_f0 σ).1 (14 + kn) 0 from sM.1.trans sC.1.symm]
    refine z_pgm _ (fun q => ?_)
    rw [(sM.2.2 (fun x => q (sC.1.trans x))).1, sC.2.1]
  by_cases c0 : z_pgC sh la i n ((z_f0 σ).1 (14 + sh.toNatClampNeg) 0) ((z_f0 σ).1 (14 + sh.toNatClampNeg) 1) = 0
  rotate_left
  · obtain ⟨rfl, rfl⟩ := hne c0
    have hMτ := hM0.lo (r := 0) (by decide) 13 (z_pgF sh la i n ((z_f0 σ).1 (14 + sh.toNatClampNeg) 0) ((z_f0 σ).1 (14 + sh.toNatClampNeg) 1) ((z_f0 σ).1 0 13))
    refine ⟨_, rfl, ⟨_, rfl⟩, (iS.rf.st (by decide) _ _).st (by decide) _ _, (h2 _ hMτ).mono ?_⟩
    rintro rv' υ ⟨hne', -⟩
    rw [(hcm _ hMτ).1, (hcm _ hMτ).2] at hne'
    obtain ⟨rfl, rfl⟩ := hne' c0
    exact ⟨rfl, iN_mk (((hC0.flt _).hi (by decide) _ _).hi (by decide) _ _) (hMτ.g0.flt _) ho, (((iS.rf.st (by decide) _ _).st (by decide) _ _).st (by decide) _ _).st (by decide) _ _⟩
  obtain ⟨hsh, hln, hhc⟩ := z_pgC_0 c0
  obtain ⟨kn, hkn, -, ek⟩ := z_wi4 hsh
  have sC := hC0.2.2.1 kn hkn
  have hz60 := (ho.2.2.2 kn hkn).2
  rw [ek, sC.2.1] at hhc
  obtain ⟨bi, m, -, ei, -, en, hb⟩ := z_hc_nat2 hz60 hhc
  have hLL : ∀ τ, iM τ a → pLoop (fun p => z_row (z_g0 τ) sh.toNatClampNeg (i.toNatClampNeg + p)) n.toNatClampNeg n.toNatClampNeg 0 (1, 0, 0, 0, (z_f0 σ).1 8, (z_f0 σ).1 9, (z_f0 σ).1 11, (z_f0 σ).1 12) = pLoop (fun p => (z_f0 σ).1 (14 + sh.toNatClampNeg + 4) (i.toNatClampNeg + p)) n.toNatClampNeg n.toNatClampNeg 0 (1, 0, 0, 0, (z_f0 σ).1 8, (z_f0 σ).1 9, (z_f0 σ).1 11, (z_f0 σ).1 12) := by
    intro τ hMτ
    refine pLoop_c _ _ _ (by omega) (fun q hq => ?_)
    have sM := hMτ.g0.2.2.1 kn hkn
    have hb' : bi + m ≤ aZ a kn := hb
    rw [ek, ei]
    unfold z_row
    rw [en] at hq
    rw [(sM.2.2 (fun x => hln (by rw [ek]; exact sC.1.trans x))).2 _ (by omega), sC.2.2 _ (by omega)]
  obtain ⟨hsome, hnone⟩ := hok c0
  generalize hLd : pLoop (fun p => (z_f0 σ).1 (14 + sh.toNatClampNeg + 4) (i.toNatClampNeg + p)) n.toNatClampNeg n.toNatClampNeg 0 (1, 0, 0, 0, (z_f0 σ).1 8, (z_f0 σ).1 9, (z_f0 σ).1 11, (z_f0 σ).1 12) = LL at hsome hnone hLL
  cases eL : LL.1 with
  | some p =>
    obtain ⟨rfl, g1, g2⟩ := hsome p eL
    have hMτ : iM τ a := hM0.same (fun q hq => g1 q (by omega))
    refine ⟨_, rfl, ⟨_, rfl⟩, ⟨by rw [g1 63 (by omega), z_f0_row _ (by decide)], by rw [g1 64 (by omega), z_f0_row _ (by decide)]⟩, (h2 τ hMτ).mono ?_⟩
    rintro rv' υ ⟨-, hok'⟩
    rw [(hcm _ hMτ).1, hLL τ hMτ] at hok'
    obtain ⟨rfl, q1, q2, q3⟩ := (hok' c0).1 p eL
    refine ⟨rfl, iN_mk (a := aSF a 0) ?_ ?_ ho, ?_, ?_⟩
    · refine (hC0.of (τ := τ) (fun j _ => by rw [g1 0 (by omega)]) (fun q hq => g1 q (by omega)) (by rw [g1 29 (by omega)])).same (fun q hq => ?_)
      rw [q1 q (by omega) (by omega) (by omega), z_g0_row _ (by omega)]
    · exact hMτ.g0.of (fun j hj => q2 j (by omega)) (fun q hq => q1 q (by omega) (by omega) (by omega))
    · rw [q1 63 (by decide) (by decide) (by decide), z_g0_row _ (by decide), g1 63 (by omega), z_f0_row _ (by decide)]
    · rw [q1 64 (by decide) (by decide) (by decide), z_g0_row _ (by decide), g1 64 (by omega), z_f0_row _ (by decide)]
  | none =>
    obtain ⟨rfl, g1, g2, ⟨g3, g4, g5⟩, g6, ⟨w0, w1, w2, w6⟩, g7, g8⟩ := hnone eL
    have hI0 := pInv_0 ((z_f0 σ).1 8) ((z_f0 σ).1 9) ((z_f0 σ).1 11) ((z_f0 σ).1 12)
    have hV0 := pV_0 ((z_f0 σ).1 8) ((z_f0 σ).1 9) ((z_f0 σ).1 11) ((z_f0 σ).1 12)
    have hp := pLoop_ok (fun p => (z_f0 σ).1 (14 + sh.toNatClampNeg + 4) (i.toNatClampNeg + p)) n.toNatClampNeg n.toNatClampNeg 0 _ hI0 hV0 (by rw [hLd]; exact eL)
    have hdue := pLoop_due (fun p => (z_f0 σ).1 (14 + sh.toNatClampNeg + 4) (i.toNatClampNeg + p)) n.toNatClampNeg n.toNatClampNeg 0 (1, 0, 0, 0, (z_f0 σ).1 8, (z_f0 σ).1 9, (z_f0 σ).1 11, (z_f0 σ).1 12) (by rw [hLd]; exact eL)
    rw [hLd] at hp hdue
    obtain ⟨hpI, hpV, hpK⟩ := hp
    obtain ⟨-, ⟨hN3, hK4⟩, -, -⟩ := hpI
    obtain ⟨v1, v2, -, v4, -, v6⟩ := hpV
    have hN1 := v6 (Or.inl hpK)
    obtain ⟨bb, hbb, ebb⟩ := v1 (by omega)
    have hMτ : iM τ a := hM0.same (fun q hq => g1 q (by omega) (by omega) (by omega))
    have hMg := hMτ.g0
    refine ⟨_, rfl, ⟨_, rfl⟩, ⟨by rw [g1 63 (by omega) (by omega) (by omega), z_f0_row _ (by decide)], by rw [g1 64 (by omega) (by omega) (by omega), z_f0_row _ (by decide)]⟩, (h2 τ hMτ).mono ?_⟩
    rintro rv' υ ⟨-, hok'⟩
    rw [(hcm _ hMτ).1, hLL τ hMτ] at hok'
    obtain ⟨rfl, q1, q2, q3, ⟨y5, y6, y7, y8, y34⟩, q5, q6⟩ := (hok' c0).2 eL
    generalize hs : LL.2 = s at *
    obtain ⟨cw, b1, b2⟩ := hMg.2.1
    have hm14 : (z_g0 τ).1 43 14 = -9 := by
      rw [b1.1.2.2, ← b2.2.2.1, show cM (aG (aSF a 0)) = 9 from ho.2.1]
      rfl
    have hwf : gWf (s.2.2.2.1, s.2.2.1, 9, τ.1 5, τ.1 6, τ.1 2, τ.1 3, τ.1 4, s.2.1, -9) := by
      refine ⟨hK4, ⟨hN3, hN1⟩, fun t ht => ?_, fun t ht => ?_, fun k hk => ?_, fun k hk => ?_, fun k hk => ?_, ⟨bb, by omega, ebb⟩, Or.inl rfl⟩
      · have ht : t < s.2.2.2.1 := ht
        show τ.1 5 t = 0 ∨ τ.1 5 t = 1 ∨ τ.1 5 t = 2
        rw [(g8 t (by omega)).1]; exact (v4 t ht).1
      · have ht : t < s.2.2.2.1 := ht
        obtain ⟨p, hp, ep⟩ := (v4 t ht).2
        exact ⟨p, hp, (g8 t (by omega)).2.trans ep⟩
      · have hk : k < s.2.2.1 := hk
        obtain ⟨p, hp, ep⟩ := (v2 k hk).1
        exact ⟨p, hp, (g7 k (by omega)).1.trans ep⟩
      · have hk : k < s.2.2.1 := hk
        obtain ⟨p, hp, ep⟩ := (v2 k hk).2
        exact ⟨p, hp, (g7 k (by omega)).2.1.trans ep⟩
      · have hk : k < s.2.2.1 := hk
        exact Or.inl (g7 k (by omega)).2.2
    refine ⟨rfl, iN_mk (a := aSR (aSG (aSF a 0) (s.2.2.2.1, s.2.2.1, 9, τ.1 5, τ.1 6, τ.1 2, τ.1 3, τ.1 4, s.2.1, -9)) 0 (aRt a) (aRm a) (aRs a)) ?_ ?_ ⟨⟨⟨hN3, hK4⟩, ?_⟩, rfl, fun _ => ⟨hwf, bb, by omega, ebb⟩, ho.2.2.2⟩, ?_, ?_⟩
    · refine iC.same (σ := τ) ?_ (fun q hq => by rw [q1 q (by omega) (by omega), z_g0_row _ (by omega)])
      refine ⟨⟨by rw [g2 13 (by decide) (by decide)]; exact hC0.1.1, by rw [g2 12 (by decide) (by decide)]; exact hC0.1.2⟩, ⟨⟨⟨w6, w2, by show 4 ≤ 9; decide⟩, ⟨rfl, rfl⟩, ⟨rfl, rfl, rfl⟩, w0, w1⟩, fun j hj => Or.inl (g7 j hj).2.2⟩, fun k hk => ?_, ⟨g5, ?_⟩, by rw [g1 29 (by decide) (by omega) (by decide)]; exact hC0.2.2.2.2.1, fun _ => ⟨Or.inl g3, Or.inl g4⟩⟩
      · rw [g1 (14 + k) (by omega) (by omega) (by omega), g1 (14 + k + 4) (by omega) (by omega) (by omega)]
        exact hC0.2.2.1 k hk
      · exact ⟨Nat.zero_le _, fun k hk => absurd hk (Nat.not_lt_zero k)⟩
    · refine ⟨⟨by rw [q2 0 (by omega) (by omega) (by omega)]; exact hMg.1.1, by rw [q2 1 (by omega) (by omega) (by omega)]; exact hMg.1.2⟩, ⟨(s.2.2.2.1, s.2.2.1, 9, υ.1 50, υ.1 51, υ.1 47, υ.1 48, υ.1 49, s.2.1, -9), ⟨⟨y7, y6, ?_⟩, ⟨rfl, rfl⟩, ⟨rfl, rfl, rfl⟩, y5, y8⟩, rfl, rfl, rfl, fun t ht => ?_, fun k hk => ?_, rfl, rfl⟩, fun k hk => ?_, ⟨y34, ⟨Nat.zero_le _, fun k hk => absurd hk (Nat.not_lt_zero k)⟩⟩⟩
      · rw [q2 14 (by omega) (by omega) (by omega), hm14]; rfl
      · have ht : t < s.2.2.2.1 := ht
        show τ.1 5 t = υ.1 50 t ∧ τ.1 6 t = υ.1 51 t
        rw [(g8 t (by omega)).1, (g8 t (by omega)).2, (q6 t ht).1, (q6 t ht).2]
        exact ⟨rfl, rfl⟩
      · have hk : k < s.2.2.1 := hk
        show τ.1 2 k = υ.1 47 k ∧ τ.1 3 k = υ.1 48 k ∧ τ.1 4 k = υ.1 49 k
        rw [(g7 k (by omega)).1, (g7 k (by omega)).2.1, (g7 k (by omega)).2.2, (q5 k hk).1, (q5 k hk).2.1, (q5 k hk).2.2]
        exact ⟨rfl, rfl, rfl⟩
      · rw [q1 44 (by decide) (by omega), q1 45 (by decide) (by omega), q1 46 (by decide) (by omega)]
        exact hMg.2.2.1 k hk
    · show s.2.2.1 = 0 ↔ s.2.2.2.1 = 0
      omega
    · rw [q1 63 (by decide) (by omega), z_g0_row _ (by decide), g1 63 (by omega) (by omega) (by omega), z_f0_row _ (by decide)]
    · rw [q1 64 (by decide) (by omega), z_g0_row _ (by decide), g1 64 (by omega) (by omega) (by omega), z_f0_row _ (by decide)]
