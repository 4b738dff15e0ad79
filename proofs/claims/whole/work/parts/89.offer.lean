/-! the class's search: offer -/
theorem s_offer40 (d : Nat) {τ τ1 : zS} {T : Nat → Nat} {lo e : Nat} {B1 : Nat → List Nat} {s m : Nat} (hs : s < 1024) (hlo : lo ≤ m) (hm : m < 1000000) (hmT : m < T s) (hT1 : ∀ q, q < 1024 → T q ≤ 1000000) (hT : ∀ q, q < 1024 → τ.1 36 q = nI (T q)) (g1 : ∀ q, q ≠ 31 → q ≠ 38 → q ≠ 39 → q ≠ 40 → τ1.1 q = τ.1 q) (g2 : ∀ j, j ≠ 11 → τ1.1 31 j = τ.1 31 j) (g3 : τ1.2 = τ.2) (g4 : ∀ q, q < 1024 → T q < lo → τ1.1 39 q = τ.1 39 q) (g5 : ∀ b, b < 32 → lk (τ1.1 39) (τ1.1 40) (-1) (τ1.1 38 b) (B1 b) ∧ (B1 b).Nodup) (g6 : ∀ q b, q < 1024 → b < 32 → (q ∈ B1 b ↔ q ≠ s ∧ lo ≤ T q ∧ T q < 1000000 ∧ T q % 32 = b)) (g7 : τ1.1 31 11 = nI (pS (fun b => (B1 b).length) 32 + e + 1)) : ∀ o3 o4, z_At mX2_offer d 40 [.ref 31, .int (nI s), .int (nI m), o3, o4] [] τ1 (fun rv τ' => rv = none ∧ bF τ τ' T lo ∧ ∃ B', bI τ' (pU T s m) lo e B') := by
  intro o3 o4
  have hb : m % 32 < 32 := Nat.mod_lt _ (by decide)
  refine x_aload0 (pc2 := 41) dX2_offer_40 rfl ?_
  refine x_getR (pc2 := 44) fX2_25 sh_31 rfl dX2_offer_41 rfl ?_
  refine x_iload1 (pc2 := 45) dX2_offer_44 rfl ?_
  refine x_iload2 (pc2 := 46) dX2_offer_45 rfl ?_
  refine x_iast (pc2 := 47) sh_36 (by exact z_in hs) dX2_offer_46 rfl ?_
  rw [nI_clamp (by omega)]
  refine x_iload2 (pc2 := 48) dX2_offer_47 rfl ?_
  refine x_bipush (v := 32) (pc2 := 50) dX2_offer_48 rfl (by decide) ?_
  refine x_irem (pc2 := 51) dX2_offer_50 rfl (by decide) ?_
  rw [nI_rem32 (by omega)]
  refine x_istore3 (pc2 := 52) dX2_offer_51 rfl rfl ?_
  refine x_aload0 (pc2 := 53) dX2_offer_52 rfl ?_
  refine x_getR (pc2 := 56) fX2_31 sh_31 rfl dX2_offer_53 rfl ?_
  refine x_iload3 (pc2 := 57) dX2_offer_56 rfl ?_
  refine x_iald (pc2 := 58) sh_38 (by exact z_in hb) dX2_offer_57 rfl ?_
  rw [nI_clamp (by omega), z_st_row _ _ _ (by decide)]
  obtain ⟨k1, k2⟩ := g5 _ hb
  have hns : s ∉ B1 (m % 32) := fun q => ((g6 s _ hs hb).mp q).1 rfl
  have hhd := lk_hd k1
  have hin : ∀ q, q ∈ B1 (m % 32) → q < 1024 ∧ T q % 32 = m % 32 := fun q hq => by
    have hq1 := lk_lt _ _ _ k1 q hq
    exact ⟨hq1, ((g6 q _ hq1 hb).mp hq).2.2.2⟩
  refine x_istore4 (pc2 := 60) dX2_offer_58 rfl rfl ?_
  refine x_aload0 (pc2 := 61) dX2_offer_60 rfl ?_
  refine x_getR (pc2 := 64) fX2_34 sh_31 rfl dX2_offer_61 rfl ?_
  refine x_iload1 (pc2 := 65) dX2_offer_64 rfl ?_
  refine x_iload4 (pc2 := 67) dX2_offer_65 rfl ?_
  refine x_iast (pc2 := 68) sh_39 (by exact z_in hs) dX2_offer_67 rfl ?_
  refine x_aload0 (pc2 := 69) dX2_offer_68 rfl ?_
  refine x_getR (pc2 := 72) fX2_37 sh_31 rfl dX2_offer_69 rfl ?_
  refine x_iload1 (pc2 := 73) dX2_offer_72 rfl ?_
  refine x_iconst (v := -1) (pc2 := 74) dX2_offer_73 rfl (by decide) ?_
  refine x_iast (pc2 := 75) sh_40 (by exact z_in hs) dX2_offer_74 rfl ?_
  rw [nI_clamp (by omega)]
  have hfin : ∀ τ2 : zS, (∀ q, q ≠ 36 → q ≠ 39 → q ≠ 40 → τ2.1 q = τ1.1 q) → τ2.2 = τ1.2 → τ2.1 36 = upd (τ1.1 36) s (nI m) → τ2.1 39 = upd (τ1.1 39) s (τ1.1 38 (m % 32)) → (∀ q, τ2.1 40 q = if (B1 (m % 32)).head? = some q then nI s else if q = s then -1 else τ1.1 40 q) → z_At mX2_offer d 89 [.ref 31, .int (nI s), .int (nI m), .int (nI (m % 32)), .int (τ1.1 38 (m % 32))] [] τ2 (fun rv τ' => rv = none ∧ bF τ τ' T lo ∧ ∃ B', bI τ' (pU T s m) lo e B') := by
    intro τ2 f1 f2 f3 f4 f5
    refine x_aload0 (pc2 := 90) dX2_offer_89 rfl ?_
    refine x_getR (pc2 := 93) fX2_31 sh_31 rfl dX2_offer_90 rfl ?_
    refine x_iload3 (pc2 := 94) dX2_offer_93 rfl ?_
    refine x_iload1 (pc2 := 95) dX2_offer_94 rfl ?_
    refine x_iast (pc2 := 96) sh_38 (by exact z_in hb) dX2_offer_95 rfl ?_
    rw [nI_clamp (by omega)]
    refine x_vret dX2_offer_96 rfl ?_
    have r39 : (z_st τ2 38 (m % 32) (nI s)).1 39 = upd (τ1.1 39) s (τ1.1 38 (m % 32)) := by rw [z_st_row _ _ _ (by decide), f4]
    have r40 : ∀ q, (z_st τ2 38 (m % 32) (nI s)).1 40 q = if (B1 (m % 32)).head? = some q then nI s else if q = s then -1 else τ1.1 40 q := fun q => by rw [z_st_row _ _ _ (by decide), f5]
    refine ⟨rfl, ⟨fun q b1 b2 b3 b4 b5 => ?_, fun j hj => ?_, ?_, fun q hq hqT => ?_⟩, bU B1 (m % 32) (s :: B1 (m % 32)), fun q hq => ?_, fun b hb2 => ?_, fun q b hq hb2 => ?_, ?_, fun q hq => ?_⟩
    · rw [z_st_row _ _ _ b3, f1 q b2 b4 b5, g1 q b1 b3 b4 b5]
    · rw [z_st_row _ _ _ (by decide), f1 31 (by decide) (by decide) (by decide), g2 j hj]
    · show τ2.2 = _
      rw [f2, g3]
    · rw [r39]
      unfold upd
      rw [if_neg (fun c => by subst c; omega), g4 q hq hqT]
    · rw [z_st_row _ _ _ (by decide), f3]
      unfold upd pU
      by_cases c : q = s
      · rw [if_pos c, if_pos c]
      · rw [if_neg c, if_neg c, g1 36 (by decide) (by decide) (by decide) (by decide), hT q hq]
    · by_cases c : b = m % 32
      · subst c
        rw [bU_at, z_st_at]
        refine ⟨lk_push hs k1 hns k2 ?_ ?_ (fun q hq => ?_) (fun q hq => ?_), List.nodup_cons.mpr ⟨hns, k2⟩⟩
        · rw [r39]; simp [upd]
        · rw [r40, if_neg (fun x => hns (List.mem_of_head? x)), if_pos rfl]
        · rw [r39]
          unfold upd
          rw [if_neg (show ¬ q = s from fun x => hns (x ▸ hq))]
        · rw [r40, if_neg (show ¬ q = s from fun x => hns (x ▸ hq))]
      · rw [bU_ne _ _ c, z_st_fld _ _ _ c, f1 38 (by decide) (by decide) (by decide)]
        obtain ⟨l1, l2⟩ := g5 b hb2
        refine ⟨lk_congr _ _ _ (fun q hq => ?_) l1, l2⟩
        have hq1 := lk_lt _ _ _ l1 q hq
        have hqb := (g6 q b hq1 hb2).mp hq
        rw [r39, r40, if_neg (fun x => c (hqb.2.2.2.symm.trans (hin q (List.mem_of_head? x)).2)), if_neg hqb.1]
        unfold upd
        rw [if_neg hqb.1]
        exact ⟨rfl, rfl⟩
    · by_cases c : b = m % 32
      · subst c
        rw [bU_at, List.mem_cons, g6 q _ hq hb]
        by_cases c2 : q = s
        · subst c2
          rw [pU_at]
          exact ⟨fun _ => ⟨hlo, hm, rfl⟩, fun _ => Or.inl rfl⟩
        · rw [pU_ne T m c2]
          exact ⟨fun x => (x.resolve_left c2).2, fun x => Or.inr ⟨c2, x⟩⟩
      · rw [bU_ne _ _ c, g6 q b hq hb2]
        by_cases c2 : q = s
        · subst c2
          rw [pU_at]
          exact ⟨fun x => absurd rfl x.1, fun x => absurd x.2.2.symm c⟩
        · rw [pU_ne T m c2]
          exact ⟨fun x => x.2, fun x => ⟨c2, x⟩⟩
    · rw [z_st_row _ _ _ (by decide), f1 31 (by decide) (by decide) (by decide), g7]
      have := bU_len B1 (j := m % 32) (s :: B1 (m % 32)) hb
      rw [List.length_cons] at this
      congr 1
      omega
    · by_cases c : q = s
      · subst c; rw [pU_at]; omega
      · rw [pU_ne T m c]; exact hT1 q hq
  generalize hτ2 : z_st (z_st (z_st τ1 36 s (nI m)) 39 s (τ1.1 38 (m % 32))) 40 s (-1) = τ2
  have e1 : ∀ q, q ≠ 36 → q ≠ 39 → q ≠ 40 → τ2.1 q = τ1.1 q := fun q a b c => by rw [← hτ2, z_st_row _ _ _ c, z_st_row _ _ _ b, z_st_row _ _ _ a]
  have e2 : τ2.2 = τ1.2 := by rw [← hτ2]; rfl
  have e3 : τ2.1 36 = upd (τ1.1 36) s (nI m) := by rw [← hτ2, z_st_row _ _ _ (by decide), z_st_row _ _ _ (by decide), z_st_rowS]
  have e4 : τ2.1 39 = upd (τ1.1 39) s (τ1.1 38 (m % 32)) := by rw [← hτ2, z_st_row _ _ _ (by decide), z_st_rowS, z_st_row _ _ _ (by decide)]
  have e5 : τ2.1 40 = upd (τ1.1 40) s (-1) := by rw [← hτ2, z_st_rowS, z_st_row _ _ _ (by decide), z_st_row _ _ _ (by decide)]
  clear hτ2
  cases eh : (B1 (m % 32)).head? with
  | none =>
    rw [eh] at hhd
    have hhd : τ1.1 38 (m % 32) = -1 := hhd
    refine x_iload4 (pc2 := 77) dX2_offer_75 rfl ?_
    refine x_iconst (v := -1) (pc2 := 78) dX2_offer_77 rfl (by decide) ?_
    refine x_icmp_eq (pc2 := 81) (pc3 := 89) dX2_offer_78 rfl rfl (fun h78 => ?_) (fun h78 => ?_)
    rotate_left
    · exact absurd hhd h78
    refine hfin τ2 e1 e2 e3 e4 (fun q => ?_)
    rw [eh, if_neg (by simp), e5]
    rfl
  | some t =>
    rw [eh] at hhd
    have hhd : τ1.1 38 (m % 32) = nI t := hhd
    have ht := (hin t (List.mem_of_head? eh)).1
    refine x_iload4 (pc2 := 77) dX2_offer_75 rfl ?_
    refine x_iconst (v := -1) (pc2 := 78) dX2_offer_77 rfl (by decide) ?_
    refine x_icmp_eq (pc2 := 81) (pc3 := 89) dX2_offer_78 rfl rfl (fun h78 => ?_) (fun h78 => ?_)
    · rw [hhd] at h78
      exact absurd h78 (nI_m1ne (by omega))
    rw [hhd] at hfin ⊢
    refine x_aload0 (pc2 := 82) dX2_offer_81 rfl ?_
    refine x_getR (pc2 := 85) fX2_37 sh_31 rfl dX2_offer_82 rfl ?_
    refine x_iload4 (pc2 := 87) dX2_offer_85 rfl ?_
    refine x_iload1 (pc2 := 88) dX2_offer_87 rfl ?_
    refine x_iast (pc2 := 89) sh_40 (by exact z_in ht) dX2_offer_88 rfl ?_
    rw [nI_clamp (by omega)]
    refine hfin _ (fun q a b c => by rw [z_st_row _ _ _ c, e1 q a b c]) e2 (by rw [z_st_row _ _ _ (by decide), e3]) (by rw [z_st_row _ _ _ (by decide), e4, hhd]) (fun q => ?_)
    by_cases c : q = t
    · subst c; rw [z_st_at, eh, if_pos rfl]
    · rw [z_st_fld _ _ _ c, eh, if_neg (fun x => c (Option.some.inj x).symm), e5]
      rfl
theorem s_offer (d : Nat) {τ : zS} {T : Nat → Nat} {lo e : Nat} {B : Nat → List Nat} (h : bI τ T lo e B) {s m : Nat} (hs : s < 1024) (hlo : lo ≤ m) (hm : m < 1000000) : z_Ex mX2_offer (d + 1) [.ref 31, .int (nI s), .int (nI m)] τ (fun rv τ' => rv = none ∧ bF τ τ' T lo ∧ ∃ B', bI τ' (if m < T s then pU T s m else T) lo e B') := by
  have hTs := h.2.2.2.2 s hs
  refine x_enter (by decide) (Nat.le_of_ble_eq_true rfl) ?_
  show z_At _ _ _ [.ref 31, .int (nI s), .int (nI m), .null, .null] _ _ _
  refine x_iload2 (pc2 := 1) dX2_offer_0 rfl ?_
  refine x_aload0 (pc2 := 2) dX2_offer_1 rfl ?_
  refine x_getR (pc2 := 5) fX2_25 sh_31 rfl dX2_offer_2 rfl ?_
  refine x_iload1 (pc2 := 6) dX2_offer_5 rfl ?_
  refine x_iald (pc2 := 7) sh_36 (by exact z_in hs) dX2_offer_6 rfl ?_
  rw [nI_clamp (by omega), h.1 s hs]
  refine x_icmp_lt (pc2 := 10) (pc3 := 11) dX2_offer_7 rfl rfl (fun h7 => ?_) (fun h7 => ?_)
  rotate_left
  · rw [nI_lt_iff (by omega) (by omega)] at h7
    refine x_vret dX2_offer_10 rfl ?_
    rw [if_neg h7]
    exact ⟨rfl, ⟨fun _ _ _ _ _ _ => rfl, fun _ _ => rfl, rfl, fun _ _ _ => rfl⟩, B, h⟩
  rw [nI_lt_iff (by omega) (by omega)] at h7
  rw [if_pos h7]
  obtain ⟨a1, a2, a3, a4, a5⟩ := h
  refine x_aload0 (pc2 := 12) dX2_offer_11 rfl ?_
  refine x_getR (pc2 := 15) fX2_25 sh_31 rfl dX2_offer_12 rfl ?_
  refine x_iload1 (pc2 := 16) dX2_offer_15 rfl ?_
  refine x_iald (pc2 := 17) sh_36 (by exact z_in hs) dX2_offer_16 rfl ?_
  refine x_ldc (pc2 := 19) (by decide +kernel : Cond.constant RX2 78 1000000 ∈ lw_tbl) dX2_offer_17 rfl ?_
  rw [nI_clamp (by omega), a1 s hs]
  refine x_icmp_ne (pc2 := 22) (pc3 := 35) dX2_offer_19 rfl rfl (fun h19 => ?_) (fun h19 => ?_)
  · have hf : T s < 1000000 := by
      rcases Nat.lt_or_ge (T s) 1000000 with c | c
      · exact c
      · rw [show T s = 1000000 by omega] at h19
        exact absurd rfl h19
    have hb : T s % 32 < 32 := Nat.mod_lt _ (by decide)
    refine x_aload0 (pc2 := 36) dX2_offer_35 rfl ?_
    refine x_iload1 (pc2 := 37) dX2_offer_36 rfl ?_
    refine x_cV1 eX2_takeOut kX2_130 sh_31 rfl (Nat.le_of_ble_eq_true rfl) dX2_offer_37 ?_
    refine (s_takeOut d ⟨a1, a2, a3, a4, a5⟩ hs (by omega) hf).mono ?_
    rintro rv τ1 ⟨rfl, b1, b2, b3, l1, l2, hB, b4⟩
    show z_At _ _ 40 _ [] _ _
    have hnd := (a2 _ hb).2
    rw [hB] at hnd
    have hsub : (l1 ++ l2).Nodup := hnd.sublist (List.Sublist.append (List.Sublist.refl l1) (List.sublist_cons_self s l2))
    have hns : s ∉ l1 ++ l2 := fun q => by
      rcases List.mem_append.mp q with q | q
      · exact (List.nodup_append.mp hnd).2.2 s q s (by simp) rfl
      · exact (List.nodup_cons.mp (List.nodup_append.mp hnd).2.1).1 q
    refine s_offer40 (B1 := bU B (T s % 32) (l1 ++ l2)) (d + 1) hs hlo hm h7 a5 a1 (fun q _ c1 c2 c3 => b1 q c1 c2 c3) (fun j _ => by rw [b1 31 (by decide) (by decide) (by decide)]) b2 b3 (fun b hb2 => ⟨b4 b hb2, ?_⟩) (fun q b hq hb2 => ?_) ?_ _ _
    · by_cases c : b = T s % 32
      · subst c; rw [bU_at]; exact hsub
      · rw [bU_ne _ _ c]; exact (a2 b hb2).2
    · by_cases c : b = T s % 32
      · subst c
        rw [bU_at]
        have := a3 q _ hq hb
        rw [hB] at this
        by_cases c2 : q = s
        · subst c2
          exact ⟨fun x => absurd x hns, fun x => absurd rfl x.1⟩
        · constructor
          · intro x
            exact ⟨c2, this.mp (by rcases List.mem_append.mp x with x | x <;> simp [x])⟩
          · intro x
            have := this.mpr x.2
            rcases List.mem_append.mp this with y | y
            · exact List.mem_append.mpr (Or.inl y)
            · rcases List.mem_cons.mp y with y | y
              · exact absurd y c2
              · exact List.mem_append.mpr (Or.inr y)
      · rw [bU_ne _ _ c, a3 q b hq hb2]
        exact ⟨fun x => ⟨fun y => by subst y; exact c x.2.2.symm, x⟩, fun x => x.2⟩
    · rw [b1 31 (by decide) (by decide) (by decide), a4]
      have := bU_len B (j := T s % 32) (l1 ++ l2) hb
      rw [hB] at this
      simp only [List.length_append, List.length_cons] at this
      congr 1
      omega
  · have hF : T s = 1000000 := nI_inj (by omega) (by decide) h19
    refine x_aload0 (pc2 := 23) dX2_offer_22 rfl ?_
    refine x_dup (pc2 := 24) dX2_offer_23 rfl rfl ?_
    refine x_getI (pc2 := 27) fX2_52 sh_31 rfl dX2_offer_24 rfl ?_
    refine x_iconst (v := 1) (pc2 := 28) dX2_offer_27 rfl (by decide) ?_
    rw [a4]
    refine x_iadd (pc2 := 29) dX2_offer_28 rfl ?_
    rw [← nI_succ]
    refine x_putI (pc2 := 32) pX2_52 sh_31 rfl dX2_offer_29 rfl ?_
    refine x_goto (pc2 := 40) dX2_offer_32 rfl ?_
    refine s_offer40 (B1 := B) (d + 1) hs hlo hm h7 a5 a1 (fun q c0 c1 c2 c3 => z_st_row _ _ _ c0) (fun j hj => z_st_fld _ _ _ hj) rfl (fun q _ _ => by rw [z_st_row _ _ _ (by decide)]) (fun b hb2 => ?_) (fun q b hq hb2 => ?_) (z_st_at _ _ _ _) _ _
    · rw [z_st_row _ _ _ (by decide), z_st_row _ _ _ (by decide), z_st_row _ _ _ (by decide)]
      exact a2 b hb2
    · rw [a3 q b hq hb2]
      exact ⟨fun x => ⟨fun y => by subst y; omega, x⟩, fun x => x.2⟩
