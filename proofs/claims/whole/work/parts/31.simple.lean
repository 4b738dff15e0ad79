/-! simple public methods of both -/
theorem z_nek {w k : Int32} {lo hi : Int} (h : w.toInt < lo ∨ hi < w.toInt) (h1 : lo ≤ k.toInt) (h2 : k.toInt ≤ hi) : w ≠ k := fun e => by subst e; omega
theorem z_P1 : z_isP 1 := Or.inl rfl
theorem z_P7 : z_isP 7 := Or.inr rfl
theorem z_in_bN {k x : Int32} {n N : Nat} (h : ¬ z_b (z_rng k x) = 0) (h3 : x = nI N) (hN : N ≤ n) (hn : n < 2 ^ 31 := by decide) : vp_in k n := z_in_b h (by rw [h3]; exact nI_le hN hn) hn
def z_ofSt (c : Bool) (w l m b : Int32) : Int32 := if c then (if w = 0 then l else if w = 1 then m else if w = 2 then (if b = 0 then 0 else 1) else -2) else -1
theorem s_ofStageM (d : Nat) (σ : zS) (k w : Int32) {N : Nat} (hN : σ.1 43 6 = nI N) (hN3 : N ≤ 3) : z_Fn mX6_ofStage (d + 1) [.ref 43, .int k, .int w] σ (.int (z_ofSt (z_rng k (σ.1 43 6)) w (σ.1 47 k.toNatClampNeg) (σ.1 48 k.toNatClampNeg) (σ.1 49 k.toNatClampNeg))) σ := by
  refine x_enter (by decide) (Nat.le_of_ble_eq_true rfl) ?_
  show z_At _ _ _ [.ref 43, .int k, .int w] _ _ _
  unfold z_ofSt
  refine x_aload0 (pc2 := 1) dX6_ofStage_0 rfl ?_
  refine x_iload1 (pc2 := 2) dX6_ofStage_1 rfl ?_
  refine x_fV1 (pc2 := 5) eX6_isStage kX6_140 sh_43 rfl (Nat.le_of_ble_eq_true rfl) dX6_ofStage_2 rfl (s_isStage _ _ _) ?_
  refine x_if_ne (pc2 := 8) (pc3 := 10) dX6_ofStage_5 rfl rfl (fun h5 => ?_) (fun h5 => ?_)
  · skip
    refine x_iload2 (pc2 := 11) dX6_ofStage_10 rfl ?_
    refine x_if_ne (pc2 := 14) (pc3 := 23) dX6_ofStage_11 rfl rfl (fun h11 => ?_) (fun h11 => ?_)
    · skip
      refine x_iload2 (pc2 := 24) dX6_ofStage_23 rfl ?_
      refine x_iconst (v := 1) (pc2 := 25) dX6_ofStage_24 rfl (by decide) ?_
      refine x_icmp_ne (pc2 := 28) (pc3 := 37) dX6_ofStage_25 rfl rfl (fun h25 => ?_) (fun h25 => ?_)
      · skip
        refine x_iload2 (pc2 := 38) dX6_ofStage_37 rfl ?_
        refine x_iconst (v := 2) (pc2 := 39) dX6_ofStage_38 rfl (by decide) ?_
        refine x_icmp_ne (pc2 := 42) (pc3 := 59) dX6_ofStage_39 rfl rfl (fun h39 => ?_) (fun h39 => ?_)
        · skip
          refine x_bipush (v := -2) (pc2 := 61) dX6_ofStage_59 rfl (by decide) ?_
          refine x_iret dX6_ofStage_61 rfl ?_
          exact ⟨by first | (simp_all [z_b]; done) | (simp only [z_b0, z_bn0] at *; simp [*]; done) | (simp [z_b, *]; done), rfl⟩
        · skip
          refine x_aload0 (pc2 := 43) dX6_ofStage_42 rfl ?_
          refine x_getR (pc2 := 46) fX6_29 sh_43 rfl dX6_ofStage_43 rfl ?_
          refine x_iload1 (pc2 := 47) dX6_ofStage_46 rfl ?_
          refine x_zald (pc2 := 48) sh_49 (by exact z_in_bN h5 hN hN3) dX6_ofStage_47 rfl ?_
          refine x_if_eq (pc2 := 51) (pc3 := 55) dX6_ofStage_48 rfl rfl (fun h48 => ?_) (fun h48 => ?_)
          · skip
            refine x_iconst (v := 0) (pc2 := 56) dX6_ofStage_55 rfl (by decide) ?_
            refine x_goto (pc2 := 61) dX6_ofStage_56 rfl ?_
            refine x_iret dX6_ofStage_61 rfl ?_
            exact ⟨by first | (simp_all [z_b]; done) | (simp only [z_b0, z_bn0] at *; simp [*]; done) | (simp [z_b, *]; done), rfl⟩
          · skip
            refine x_iconst (v := 1) (pc2 := 52) dX6_ofStage_51 rfl (by decide) ?_
            refine x_goto (pc2 := 61) dX6_ofStage_52 rfl ?_
            refine x_iret dX6_ofStage_61 rfl ?_
            exact ⟨by first | (simp_all [z_b]; done) | (simp only [z_b0, z_bn0] at *; simp [*]; done) | (simp [z_b, *]; done), rfl⟩
      · skip
        refine x_aload0 (pc2 := 29) dX6_ofStage_28 rfl ?_
        refine x_getR (pc2 := 32) fX6_26 sh_43 rfl dX6_ofStage_29 rfl ?_
        refine x_iload1 (pc2 := 33) dX6_ofStage_32 rfl ?_
        refine x_iald (pc2 := 34) sh_48 (by exact z_in_bN h5 hN hN3) dX6_ofStage_33 rfl ?_
        refine x_goto (pc2 := 61) dX6_ofStage_34 rfl ?_
        refine x_iret dX6_ofStage_61 rfl ?_
        exact ⟨by first | (simp_all [z_b]; done) | (simp only [z_b0, z_bn0] at *; simp [*]; done) | (simp [z_b, *]; done), rfl⟩
    · skip
      refine x_aload0 (pc2 := 15) dX6_ofStage_14 rfl ?_
      refine x_getR (pc2 := 18) fX6_23 sh_43 rfl dX6_ofStage_15 rfl ?_
      refine x_iload1 (pc2 := 19) dX6_ofStage_18 rfl ?_
      refine x_iald (pc2 := 20) sh_47 (by exact z_in_bN h5 hN hN3) dX6_ofStage_19 rfl ?_
      refine x_goto (pc2 := 61) dX6_ofStage_20 rfl ?_
      refine x_iret dX6_ofStage_61 rfl ?_
      exact ⟨by first | (simp_all [z_b]; done) | (simp only [z_b0, z_bn0] at *; simp [*]; done) | (simp [z_b, *]; done), rfl⟩
  · skip
    refine x_iconst (v := -1) (pc2 := 9) dX6_ofStage_8 rfl (by decide) ?_
    refine x_iret dX6_ofStage_9 rfl ?_
    exact ⟨by first | (simp_all [z_b]; done) | (simp only [z_b0, z_bn0] at *; simp [*]; done) | (simp [z_b, *]; done), rfl⟩
theorem s_ofStageC (d : Nat) (σ : zS) (k w : Int32) {N : Nat} (hN : σ.1 1 2 = nI N) (hN3 : N ≤ 3) : z_Fn mX5_ofStage (d + 1) [.ref 0, .int k, .int w] σ (.int (z_ofSt (z_rng k (σ.1 1 2)) w (σ.1 2 k.toNatClampNeg) (σ.1 3 k.toNatClampNeg) (σ.1 4 k.toNatClampNeg))) σ := by
  refine x_enter (by decide) (Nat.le_of_ble_eq_true rfl) ?_
  show z_At _ _ _ [.ref 0, .int k, .int w] _ _ _
  unfold z_ofSt
  refine x_aload0 (pc2 := 1) dX5_ofStage_0 rfl ?_
  refine x_getR (pc2 := 4) fX5_12 sh_0 rfl dX5_ofStage_1 rfl ?_
  refine x_iload1 (pc2 := 5) dX5_ofStage_4 rfl ?_
  refine x_fV1 (pc2 := 8) eX0_hasStage kX5_92 sh_1 rfl (Nat.le_of_ble_eq_true rfl) dX5_ofStage_5 rfl (s_hasStage _ _ z_P1 _) ?_
  refine x_if_ne (pc2 := 11) (pc3 := 13) dX5_ofStage_8 rfl rfl (fun h8 => ?_) (fun h8 => ?_)
  · skip
    refine x_iload2 (pc2 := 14) dX5_ofStage_13 rfl ?_
    refine x_tbl (p0 := 78) (fun k => match k with | 0 => 40 | 1 => 50 | _ => 60) dX5_ofStage_14 (by decide) (by decide) rfl (fun k hk h14 => ?_) (fun h14 => ?_)
    · have hk : k < 3 := hk
      rcases (show k = 0 ∨ k = 1 ∨ k = 2 from by omega) with rfl | rfl | rfl
      · have h14 := z_of_toInt (k := 0) (by rw [h14]; rfl)
        refine x_aload0 (pc2 := 41) dX5_ofStage_40 rfl ?_
        refine x_getR (pc2 := 44) fX5_12 sh_0 rfl dX5_ofStage_41 rfl ?_
        refine x_getR (pc2 := 47) fX5_95 sh_1 rfl dX5_ofStage_44 rfl ?_
        refine x_iload1 (pc2 := 48) dX5_ofStage_47 rfl ?_
        refine x_iald (pc2 := 49) sh_2 (by exact z_in_bN h8 hN hN3) dX5_ofStage_48 rfl ?_
        refine x_iret dX5_ofStage_49 rfl ?_
        exact ⟨by first | (simp_all [z_b]; done) | (simp_all [z_b, z_nek h14 (k := 0) (by decide) (by decide), z_nek h14 (k := 1) (by decide) (by decide), z_nek h14 (k := 2) (by decide) (by decide)]; done), rfl⟩
      · have h14 := z_of_toInt (k := 1) (by rw [h14]; rfl)
        refine x_aload0 (pc2 := 51) dX5_ofStage_50 rfl ?_
        refine x_getR (pc2 := 54) fX5_12 sh_0 rfl dX5_ofStage_51 rfl ?_
        refine x_getR (pc2 := 57) fX5_98 sh_1 rfl dX5_ofStage_54 rfl ?_
        refine x_iload1 (pc2 := 58) dX5_ofStage_57 rfl ?_
        refine x_iald (pc2 := 59) sh_3 (by exact z_in_bN h8 hN hN3) dX5_ofStage_58 rfl ?_
        refine x_iret dX5_ofStage_59 rfl ?_
        exact ⟨by first | (simp_all [z_b]; done) | (simp_all [z_b, z_nek h14 (k := 0) (by decide) (by decide), z_nek h14 (k := 1) (by decide) (by decide), z_nek h14 (k := 2) (by decide) (by decide)]; done), rfl⟩
      · have h14 := z_of_toInt (k := 2) (by rw [h14]; rfl)
        refine x_aload0 (pc2 := 61) dX5_ofStage_60 rfl ?_
        refine x_getR (pc2 := 64) fX5_12 sh_0 rfl dX5_ofStage_61 rfl ?_
        refine x_getR (pc2 := 67) fX5_101 sh_1 rfl dX5_ofStage_64 rfl ?_
        refine x_iload1 (pc2 := 68) dX5_ofStage_67 rfl ?_
        refine x_zald (pc2 := 69) sh_4 (by exact z_in_bN h8 hN hN3) dX5_ofStage_68 rfl ?_
        refine x_if_eq (pc2 := 72) (pc3 := 76) dX5_ofStage_69 rfl rfl (fun h69 => ?_) (fun h69 => ?_)
        · skip
          refine x_iconst (v := 0) (pc2 := 77) dX5_ofStage_76 rfl (by decide) ?_
          refine x_iret dX5_ofStage_77 rfl ?_
          exact ⟨by first | (simp_all [z_b]; done) | (simp_all [z_b, z_nek h14 (k := 0) (by decide) (by decide), z_nek h14 (k := 1) (by decide) (by decide), z_nek h14 (k := 2) (by decide) (by decide)]; done), rfl⟩
        · skip
          refine x_iconst (v := 1) (pc2 := 73) dX5_ofStage_72 rfl (by decide) ?_
          refine x_goto (pc2 := 77) dX5_ofStage_73 rfl ?_
          refine x_iret dX5_ofStage_77 rfl ?_
          exact ⟨by first | (simp_all [z_b]; done) | (simp_all [z_b, z_nek h14 (k := 0) (by decide) (by decide), z_nek h14 (k := 1) (by decide) (by decide), z_nek h14 (k := 2) (by decide) (by decide)]; done), rfl⟩
    · skip
      refine x_bipush (v := -2) (pc2 := 80) dX5_ofStage_78 rfl (by decide) ?_
      refine x_iret dX5_ofStage_80 rfl ?_
      exact ⟨by first | (simp_all [z_b]; done) | (simp_all [z_b, z_nek h14 (k := 0) (by decide) (by decide), z_nek h14 (k := 1) (by decide) (by decide), z_nek h14 (k := 2) (by decide) (by decide)]; done), rfl⟩
  · skip
    refine x_iconst (v := -1) (pc2 := 12) dX5_ofStage_11 rfl (by decide) ?_
    refine x_iret dX5_ofStage_12 rfl ?_
    exact ⟨by first | (simp_all [z_b]; done) | (simp_all [z_b, z_nek h14 (k := 0) (by decide) (by decide), z_nek h14 (k := 1) (by decide) (by decide), z_nek h14 (k := 2) (by decide) (by decide)]; done), rfl⟩
def z_ofTh (c : Bool) (w k p : Int32) : Int32 := if c then (if w = 0 then k else if w = 1 then p else -2) else -1
theorem s_ofThingM (d : Nat) (σ : zS) (k w : Int32) {K : Nat} (hK : σ.1 43 7 = nI K) (hK4 : K ≤ 4) : z_Fn mX6_ofThing (d + 1) [.ref 43, .int k, .int w] σ (.int (z_ofTh (z_rng k (σ.1 43 7)) w (σ.1 50 k.toNatClampNeg) (σ.1 51 k.toNatClampNeg))) σ := by
  refine x_enter (by decide) (Nat.le_of_ble_eq_true rfl) ?_
  show z_At _ _ _ [.ref 43, .int k, .int w] _ _ _
  unfold z_ofTh
  refine x_aload0 (pc2 := 1) dX6_ofThing_0 rfl ?_
  refine x_iload1 (pc2 := 2) dX6_ofThing_1 rfl ?_
  refine x_fV1 (pc2 := 5) eX6_isThing kX6_143 sh_43 rfl (Nat.le_of_ble_eq_true rfl) dX6_ofThing_2 rfl (s_isThing _ _ _) ?_
  refine x_if_ne (pc2 := 8) (pc3 := 10) dX6_ofThing_5 rfl rfl (fun h5 => ?_) (fun h5 => ?_)
  · skip
    refine x_iload2 (pc2 := 11) dX6_ofThing_10 rfl ?_
    refine x_if_ne (pc2 := 14) (pc3 := 23) dX6_ofThing_11 rfl rfl (fun h11 => ?_) (fun h11 => ?_)
    · skip
      refine x_iload2 (pc2 := 24) dX6_ofThing_23 rfl ?_
      refine x_iconst (v := 1) (pc2 := 25) dX6_ofThing_24 rfl (by decide) ?_
      refine x_icmp_ne (pc2 := 28) (pc3 := 37) dX6_ofThing_25 rfl rfl (fun h25 => ?_) (fun h25 => ?_)
      · skip
        refine x_bipush (v := -2) (pc2 := 39) dX6_ofThing_37 rfl (by decide) ?_
        refine x_iret dX6_ofThing_39 rfl ?_
        exact ⟨by first | (simp_all [z_b]; done) | (simp only [z_b0, z_bn0] at *; simp [*]; done) | (simp [z_b, *]; done), rfl⟩
      · skip
        refine x_aload0 (pc2 := 29) dX6_ofThing_28 rfl ?_
        refine x_getR (pc2 := 32) fX6_36 sh_43 rfl dX6_ofThing_29 rfl ?_
        refine x_iload1 (pc2 := 33) dX6_ofThing_32 rfl ?_
        refine x_iald (pc2 := 34) sh_51 (by exact z_in_bN h5 hK hK4) dX6_ofThing_33 rfl ?_
        refine x_goto (pc2 := 39) dX6_ofThing_34 rfl ?_
        refine x_iret dX6_ofThing_39 rfl ?_
        exact ⟨by first | (simp_all [z_b]; done) | (simp only [z_b0, z_bn0] at *; simp [*]; done) | (simp [z_b, *]; done), rfl⟩
    · skip
      refine x_aload0 (pc2 := 15) dX6_ofThing_14 rfl ?_
      refine x_getR (pc2 := 18) fX6_33 sh_43 rfl dX6_ofThing_15 rfl ?_
      refine x_iload1 (pc2 := 19) dX6_ofThing_18 rfl ?_
      refine x_iald (pc2 := 20) sh_50 (by exact z_in_bN h5 hK hK4) dX6_ofThing_19 rfl ?_
      refine x_goto (pc2 := 39) dX6_ofThing_20 rfl ?_
      refine x_iret dX6_ofThing_39 rfl ?_
      exact ⟨by first | (simp_all [z_b]; done) | (simp only [z_b0, z_bn0] at *; simp [*]; done) | (simp [z_b, *]; done), rfl⟩
  · skip
    refine x_iconst (v := -1) (pc2 := 9) dX6_ofThing_8 rfl (by decide) ?_
    refine x_iret dX6_ofThing_9 rfl ?_
    exact ⟨by first | (simp_all [z_b]; done) | (simp only [z_b0, z_bn0] at *; simp [*]; done) | (simp [z_b, *]; done), rfl⟩
theorem s_ofThingC (d : Nat) (σ : zS) (k w : Int32) {K : Nat} (hK : σ.1 1 6 = nI K) (hK4 : K ≤ 4) : z_Fn mX5_ofThing (d + 1) [.ref 0, .int k, .int w] σ (.int (z_ofTh (z_rng k (σ.1 1 6)) w (σ.1 5 k.toNatClampNeg) (σ.1 6 k.toNatClampNeg))) σ := by
  refine x_enter (by decide) (Nat.le_of_ble_eq_true rfl) ?_
  show z_At _ _ _ [.ref 0, .int k, .int w] _ _ _
  unfold z_ofTh
  refine x_aload0 (pc2 := 1) dX5_ofThing_0 rfl ?_
  refine x_getR (pc2 := 4) fX5_12 sh_0 rfl dX5_ofThing_1 rfl ?_
  refine x_iload1 (pc2 := 5) dX5_ofThing_4 rfl ?_
  refine x_fV1 (pc2 := 8) eX0_hasThing kX5_105 sh_1 rfl (Nat.le_of_ble_eq_true rfl) dX5_ofThing_5 rfl (s_hasThing _ _ z_P1 _) ?_
  refine x_if_ne (pc2 := 11) (pc3 := 13) dX5_ofThing_8 rfl rfl (fun h8 => ?_) (fun h8 => ?_)
  · skip
    refine x_iload2 (pc2 := 14) dX5_ofThing_13 rfl ?_
    refine x_lk2 (k1 := 0) (k2 := 1) (p0 := 60) (p1 := 40) (p2 := 50) dX5_ofThing_14 (by decide) (by decide) (by decide) rfl rfl rfl (fun h14 => ?_) (fun h14 => ?_) (fun h14_1 h14_2 => ?_)
    · skip
      refine x_aload0 (pc2 := 41) dX5_ofThing_40 rfl ?_
      refine x_getR (pc2 := 44) fX5_12 sh_0 rfl dX5_ofThing_41 rfl ?_
      refine x_getR (pc2 := 47) fX5_108 sh_1 rfl dX5_ofThing_44 rfl ?_
      refine x_iload1 (pc2 := 48) dX5_ofThing_47 rfl ?_
      refine x_iald (pc2 := 49) sh_5 (by exact z_in_bN h8 hK hK4) dX5_ofThing_48 rfl ?_
      refine x_iret dX5_ofThing_49 rfl ?_
      exact ⟨by first | (simp_all [z_b]; done) | (simp only [z_b0, z_bn0] at *; simp [*]; done) | (simp [z_b, *]; done), rfl⟩
    · skip
      refine x_aload0 (pc2 := 51) dX5_ofThing_50 rfl ?_
      refine x_getR (pc2 := 54) fX5_12 sh_0 rfl dX5_ofThing_51 rfl ?_
      refine x_getR (pc2 := 57) fX5_111 sh_1 rfl dX5_ofThing_54 rfl ?_
      refine x_iload1 (pc2 := 58) dX5_ofThing_57 rfl ?_
      refine x_iald (pc2 := 59) sh_6 (by exact z_in_bN h8 hK hK4) dX5_ofThing_58 rfl ?_
      refine x_iret dX5_ofThing_59 rfl ?_
      exact ⟨by first | (simp_all [z_b]; done) | (simp only [z_b0, z_bn0] at *; simp [*]; done) | (simp [z_b, *]; done), rfl⟩
    · skip
      refine x_bipush (v := -2) (pc2 := 62) dX5_ofThing_60 rfl (by decide) ?_
      refine x_iret dX5_ofThing_62 rfl ?_
      exact ⟨by first | (simp_all [z_b]; done) | (simp only [z_b0, z_bn0] at *; simp [*]; done) | (simp [z_b, *]; done), rfl⟩
  · skip
    refine x_iconst (v := -1) (pc2 := 12) dX5_ofThing_11 rfl (by decide) ?_
    refine x_iret dX5_ofThing_12 rfl ?_
    exact ⟨by first | (simp_all [z_b]; done) | (simp only [z_b0, z_bn0] at *; simp [*]; done) | (simp [z_b, *]; done), rfl⟩
theorem s_faulted (d : Nat) (σ : zS) (k : Int32) : z_Fn mX5_faulted d [.ref 0, .int k] σ (.int (-10 - k)) (z_st σ 0 13 k) := by
  refine x_enter (by decide) (Nat.le_of_ble_eq_true rfl) ?_
  show z_At _ _ _ [.ref 0, .int k] _ _ _
  refine x_aload0 (pc2 := 1) dX5_faulted_0 rfl ?_
  refine x_iload1 (pc2 := 2) dX5_faulted_1 rfl ?_
  refine x_putI (pc2 := 5) pX5_53 sh_0 rfl dX5_faulted_2 rfl ?_
  refine x_bipush (v := -10) (pc2 := 7) dX5_faulted_5 rfl (by decide) ?_
  refine x_iload1 (pc2 := 8) dX5_faulted_7 rfl ?_
  refine x_isub (pc2 := 9) dX5_faulted_8 rfl ?_
  refine x_iret dX5_faulted_9 rfl ?_
  exact ⟨rfl, rfl⟩
theorem s_leave (d : Nat) (σ : zS) (b : Int32) : z_Pr mX5_leave d [.ref 0, .int b] σ (z_st σ 0 12 (31 * σ.1 0 12 + b)) := by
  refine x_enter (by decide) (Nat.le_of_ble_eq_true rfl) ?_
  show z_At _ _ _ [.ref 0, .int b] _ _ _
  refine x_aload0 (pc2 := 1) dX5_leave_0 rfl ?_
  refine x_bipush (v := 31) (pc2 := 3) dX5_leave_1 rfl (by decide) ?_
  refine x_aload0 (pc2 := 4) dX5_leave_3 rfl ?_
  refine x_getI (pc2 := 7) fX5_248 sh_0 rfl dX5_leave_4 rfl ?_
  refine x_imul (pc2 := 8) dX5_leave_7 rfl ?_
  refine x_iload1 (pc2 := 9) dX5_leave_8 rfl ?_
  refine x_iadd (pc2 := 10) dX5_leave_9 rfl ?_
  refine x_putI (pc2 := 13) pX5_248 sh_0 rfl dX5_leave_10 rfl ?_
  refine x_vret dX5_leave_13 rfl ?_
  exact ⟨rfl, rfl⟩
theorem s_forget (d : Nat) (σ : zS) : z_Pr mX5_forgetSearches d [.ref 0] σ (z_st (z_st σ 0 9 0) 0 11 0) := by
  refine x_enter (by decide) (Nat.le_of_ble_eq_true rfl) ?_
  show z_At _ _ _ [.ref 0] _ _ _
  refine x_aload0 (pc2 := 1) dX5_forgetSearches_0 rfl ?_
  refine x_iconst (v := 0) (pc2 := 2) dX5_forgetSearches_1 rfl (by decide) ?_
  refine x_putZ (pc2 := 5) pX5_198 sh_0 rfl (by first | exact z_b01 _ | exact Or.inl rfl | exact Or.inr rfl) dX5_forgetSearches_2 rfl ?_
  refine x_aload0 (pc2 := 6) dX5_forgetSearches_5 rfl ?_
  refine x_iconst (v := 0) (pc2 := 7) dX5_forgetSearches_6 rfl (by decide) ?_
  refine x_putZ (pc2 := 10) pX5_183 sh_0 rfl (by first | exact z_b01 _ | exact Or.inl rfl | exact Or.inr rfl) dX5_forgetSearches_7 rfl ?_
  refine x_vret dX5_forgetSearches_10 rfl ?_
  exact ⟨rfl, rfl⟩
theorem z_wi_rng3 (v : Int32) : z_wi v 0 3 = z_rng v 4 := by
  unfold z_wi z_rng
  rw [show decide (3 < v) = decide (4 ≤ v) from decide_eq_decide.mpr (by rw [Int32.lt_iff_toInt_lt, Int32.le_iff_toInt_le]; exact Iff.rfl)]
theorem z_wi_rng2 (v : Int32) : z_wi v 0 2 = z_rng v 3 := by
  unfold z_wi z_rng
  rw [show decide (2 < v) = decide (3 ≤ v) from decide_eq_decide.mpr (by rw [Int32.lt_iff_toInt_lt, Int32.le_iff_toInt_le]; exact Iff.rfl)]
theorem s_isSheetC (d : Nat) (σ : zS) (v : Int32) : z_Fn mX5_isSheet d [.int v] σ (.int (z_b (z_wi v 0 3))) σ := by
  refine x_enter (by decide) (Nat.le_of_ble_eq_true rfl) ?_
  show z_At _ _ _ [.int v] _ _ _
  rw [z_wi_rng3]
  unfold z_rng
  refine x_iload0 (pc2 := 1) dX5_isSheet_0 rfl ?_
  refine x_if_lt (pc2 := 4) (pc3 := 13) dX5_isSheet_1 rfl rfl (fun h1 => ?_) (fun h1 => ?_)
  · skip
    refine x_iconst (v := 0) (pc2 := 14) dX5_isSheet_13 rfl (by decide) ?_
    refine x_zret dX5_isSheet_14 rfl (by first | exact z_b01 _ | exact Or.inl rfl | exact Or.inr rfl) ?_
    exact ⟨by first | (simp_all [z_b]; done) | (simp only [z_b0, z_bn0] at *; simp [*]; done) | (simp [z_b, *]; done), rfl⟩
  · skip
    refine x_iload0 (pc2 := 5) dX5_isSheet_4 rfl ?_
    refine x_iconst (v := 4) (pc2 := 6) dX5_isSheet_5 rfl (by decide) ?_
    refine x_icmp_ge (pc2 := 9) (pc3 := 13) dX5_isSheet_6 rfl rfl (fun h6 => ?_) (fun h6 => ?_)
    · skip
      refine x_iconst (v := 0) (pc2 := 14) dX5_isSheet_13 rfl (by decide) ?_
      refine x_zret dX5_isSheet_14 rfl (by first | exact z_b01 _ | exact Or.inl rfl | exact Or.inr rfl) ?_
      exact ⟨by first | (simp_all [z_b]; done) | (simp only [z_b0, z_bn0] at *; simp [*]; done) | (simp [z_b, *]; done), rfl⟩
    · skip
      refine x_iconst (v := 1) (pc2 := 10) dX5_isSheet_9 rfl (by decide) ?_
      refine x_goto (pc2 := 14) dX5_isSheet_10 rfl ?_
      refine x_zret dX5_isSheet_14 rfl (by first | exact z_b01 _ | exact Or.inl rfl | exact Or.inr rfl) ?_
      exact ⟨by first | (simp_all [z_b]; done) | (simp only [z_b0, z_bn0] at *; simp [*]; done) | (simp [z_b, *]; done), rfl⟩
theorem s_isLane (d : Nat) (σ : zS) (v : Int32) : z_Fn mX5_isLane d [.int v] σ (.int (z_b (z_wi v 0 2))) σ := by
  refine x_enter (by decide) (Nat.le_of_ble_eq_true rfl) ?_
  show z_At _ _ _ [.int v] _ _ _
  rw [z_wi_rng2]
  unfold z_rng
  refine x_iload0 (pc2 := 1) dX5_isLane_0 rfl ?_
  refine x_if_lt (pc2 := 4) (pc3 := 13) dX5_isLane_1 rfl rfl (fun h1 => ?_) (fun h1 => ?_)
  · skip
    refine x_iconst (v := 0) (pc2 := 14) dX5_isLane_13 rfl (by decide) ?_
    refine x_zret dX5_isLane_14 rfl (by first | exact z_b01 _ | exact Or.inl rfl | exact Or.inr rfl) ?_
    exact ⟨by first | (simp_all [z_b]; done) | (simp only [z_b0, z_bn0] at *; simp [*]; done) | (simp [z_b, *]; done), rfl⟩
  · skip
    refine x_iload0 (pc2 := 5) dX5_isLane_4 rfl ?_
    refine x_iconst (v := 3) (pc2 := 6) dX5_isLane_5 rfl (by decide) ?_
    refine x_icmp_ge (pc2 := 9) (pc3 := 13) dX5_isLane_6 rfl rfl (fun h6 => ?_) (fun h6 => ?_)
    · skip
      refine x_iconst (v := 0) (pc2 := 14) dX5_isLane_13 rfl (by decide) ?_
      refine x_zret dX5_isLane_14 rfl (by first | exact z_b01 _ | exact Or.inl rfl | exact Or.inr rfl) ?_
      exact ⟨by first | (simp_all [z_b]; done) | (simp only [z_b0, z_bn0] at *; simp [*]; done) | (simp [z_b, *]; done), rfl⟩
    · skip
      refine x_iconst (v := 1) (pc2 := 10) dX5_isLane_9 rfl (by decide) ?_
      refine x_goto (pc2 := 14) dX5_isLane_10 rfl ?_
      refine x_zret dX5_isLane_14 rfl (by first | exact z_b01 _ | exact Or.inl rfl | exact Or.inr rfl) ?_
      exact ⟨by first | (simp_all [z_b]; done) | (simp only [z_b0, z_bn0] at *; simp [*]; done) | (simp [z_b, *]; done), rfl⟩
theorem s_traceC (d : Nat) (σ : zS) : z_Fn mX5_trace d [.ref 0] σ (.int (σ.1 0 12)) σ := by
  refine x_enter (by decide) (Nat.le_of_ble_eq_true rfl) ?_
  show z_At _ _ _ [.ref 0] _ _ _
  refine x_aload0 (pc2 := 1) dX5_trace_0 rfl ?_
  refine x_getI (pc2 := 4) fX5_248 sh_0 rfl dX5_trace_1 rfl ?_
  refine x_iret dX5_trace_4 rfl ?_
  exact ⟨rfl, rfl⟩
theorem s_faultC (d : Nat) (σ : zS) : z_Fn mX5_fault d [.ref 0] σ (.int (σ.1 0 13)) σ := by
  refine x_enter (by decide) (Nat.le_of_ble_eq_true rfl) ?_
  show z_At _ _ _ [.ref 0] _ _ _
  refine x_aload0 (pc2 := 1) dX5_fault_0 rfl ?_
  refine x_getI (pc2 := 4) fX5_53 sh_0 rfl dX5_fault_1 rfl ?_
  refine x_iret dX5_fault_4 rfl ?_
  exact ⟨rfl, rfl⟩
theorem s_manyC (d : Nat) (σ : zS) (w : Int32) : z_Fn mX5_many d [.ref 0, .int w] σ (.int (if w = 0 then σ.1 1 2 else if w = 1 then σ.1 1 6 else if w = 2 then σ.1 1 0 else if w = 3 then σ.1 22 0 else -2)) σ := by
  refine x_enter (by decide) (Nat.le_of_ble_eq_true rfl) ?_
  show z_At _ _ _ [.ref 0, .int w] _ _ _
  refine x_iload1 (pc2 := 1) dX5_many_0 rfl ?_
  refine x_tbl (p0 := 64) (fun k => match k with | 0 => 32 | 1 => 40 | 2 => 48 | _ => 56) dX5_many_1 (by decide) (by decide) rfl (fun k hk h1 => ?_) (fun h1 => ?_)
  · have hk : k < 4 := hk
    rcases (show k = 0 ∨ k = 1 ∨ k = 2 ∨ k = 3 from by omega) with rfl | rfl | rfl | rfl
    · have h1 := z_of_toInt (k := 0) (by rw [h1]; rfl)
      refine x_aload0 (pc2 := 33) dX5_many_32 rfl ?_
      refine x_getR (pc2 := 36) fX5_12 sh_0 rfl dX5_many_33 rfl ?_
      refine x_getI (pc2 := 39) fX5_251 sh_1 rfl dX5_many_36 rfl ?_
      refine x_iret dX5_many_39 rfl ?_
      exact ⟨by first | (simp [z_b, *]; done) | (simp [z_nek h1 (k := 0) (by decide) (by decide), z_nek h1 (k := 1) (by decide) (by decide), z_nek h1 (k := 2) (by decide) (by decide), z_nek h1 (k := 3) (by decide) (by decide)]; done), rfl⟩
    · have h1 := z_of_toInt (k := 1) (by rw [h1]; rfl)
      refine x_aload0 (pc2 := 41) dX5_many_40 rfl ?_
      refine x_getR (pc2 := 44) fX5_12 sh_0 rfl dX5_many_41 rfl ?_
      refine x_getI (pc2 := 47) fX5_89 sh_1 rfl dX5_many_44 rfl ?_
      refine x_iret dX5_many_47 rfl ?_
      exact ⟨by first | (simp [z_b, *]; done) | (simp [z_nek h1 (k := 0) (by decide) (by decide), z_nek h1 (k := 1) (by decide) (by decide), z_nek h1 (k := 2) (by decide) (by decide), z_nek h1 (k := 3) (by decide) (by decide)]; done), rfl⟩
    · have h1 := z_of_toInt (k := 2) (by rw [h1]; rfl)
      refine x_aload0 (pc2 := 49) dX5_many_48 rfl ?_
      refine x_getR (pc2 := 52) fX5_12 sh_0 rfl dX5_many_49 rfl ?_
      refine x_getI (pc2 := 55) fX5_118 sh_1 rfl dX5_many_52 rfl ?_
      refine x_iret dX5_many_55 rfl ?_
      exact ⟨by first | (simp [z_b, *]; done) | (simp [z_nek h1 (k := 0) (by decide) (by decide), z_nek h1 (k := 1) (by decide) (by decide), z_nek h1 (k := 2) (by decide) (by decide), z_nek h1 (k := 3) (by decide) (by decide)]; done), rfl⟩
    · have h1 := z_of_toInt (k := 3) (by rw [h1]; rfl)
      refine x_aload0 (pc2 := 57) dX5_many_56 rfl ?_
      refine x_getR (pc2 := 60) fX5_30 sh_0 rfl dX5_many_57 rfl ?_
      refine x_getI (pc2 := 63) fX5_83 sh_22 rfl dX5_many_60 rfl ?_
      refine x_iret dX5_many_63 rfl ?_
      exact ⟨by first | (simp [z_b, *]; done) | (simp [z_nek h1 (k := 0) (by decide) (by decide), z_nek h1 (k := 1) (by decide) (by decide), z_nek h1 (k := 2) (by decide) (by decide), z_nek h1 (k := 3) (by decide) (by decide)]; done), rfl⟩
  · skip
    refine x_bipush (v := -2) (pc2 := 66) dX5_many_64 rfl (by decide) ?_
    refine x_iret dX5_many_66 rfl ?_
    exact ⟨by first | (simp [z_b, *]; done) | (simp [z_nek h1 (k := 0) (by decide) (by decide), z_nek h1 (k := 1) (by decide) (by decide), z_nek h1 (k := 2) (by decide) (by decide), z_nek h1 (k := 3) (by decide) (by decide)]; done), rfl⟩

/-- behind a change of what a search depends on -/
def z_fg (σ : zS) : zS := z_st (z_st σ 0 9 0) 0 11 0
theorem s_bearsC (d : Nat) (σ : zS) (v : Int32) : z_Fn mX5_bears (d + 1) [.ref 0, .int v] σ (.int (if v < 1 ∨ ¬ v ≤ 36 then -2 else if z_pos (σ.1 1 2) = false then -3 else σ.1 1 0)) (if v < 1 ∨ ¬ v ≤ 36 then σ else if z_pos (σ.1 1 2) = false then σ else z_fg (z_st σ 1 0 v)) := by
  refine x_enter (by decide) (Nat.le_of_ble_eq_true rfl) ?_
  show z_At _ _ _ [.ref 0, .int v, .null] _ _ _
  refine x_iload1 (pc2 := 1) dX5_bears_0 rfl ?_
  refine x_iconst (v := 1) (pc2 := 2) dX5_bears_1 rfl (by decide) ?_
  refine x_icmp_lt (pc2 := 5) (pc3 := 11) dX5_bears_2 rfl rfl (fun h2 => ?_) (fun h2 => ?_)
  · skip
    refine x_bipush (v := -2) (pc2 := 13) dX5_bears_11 rfl (by decide) ?_
    refine x_iret dX5_bears_13 rfl ?_
    exact ⟨by first | (simp_all [z_b, z_fg]; done) | (simp only [z_b0, z_bn0] at *; simp [z_fg, *]; done) | (simp [z_b, z_fg, *]; done), by first | (simp_all [z_b, z_fg]; done) | (simp only [z_b0, z_bn0] at *; simp [z_fg, *]; done) | (simp [z_b, z_fg, *]; done)⟩
  · skip
    refine x_iload1 (pc2 := 6) dX5_bears_5 rfl ?_
    refine x_bipush (v := 36) (pc2 := 8) dX5_bears_6 rfl (by decide) ?_
    refine x_icmp_le (pc2 := 11) (pc3 := 14) dX5_bears_8 rfl rfl (fun h8 => ?_) (fun h8 => ?_)
    · skip
      refine x_aload0 (pc2 := 15) dX5_bears_14 rfl ?_
      refine x_getR (pc2 := 18) fX5_12 sh_0 rfl dX5_bears_15 rfl ?_
      refine x_fV0 (pc2 := 21) eX0_isThere kX5_114 sh_1 rfl (Nat.le_of_ble_eq_true rfl) dX5_bears_18 rfl (s_isThere _ _ z_P1) ?_
      refine x_if_ne (pc2 := 24) (pc3 := 27) dX5_bears_21 rfl rfl (fun h21 => ?_) (fun h21 => ?_)
      · skip
        refine x_aload0 (pc2 := 28) dX5_bears_27 rfl ?_
        refine x_getR (pc2 := 31) fX5_12 sh_0 rfl dX5_bears_28 rfl ?_
        refine x_getI (pc2 := 34) fX5_118 sh_1 rfl dX5_bears_31 rfl ?_
        refine x_istore2 (pc2 := 35) dX5_bears_34 rfl rfl ?_
        refine x_aload0 (pc2 := 36) dX5_bears_35 rfl ?_
        refine x_getR (pc2 := 39) fX5_12 sh_0 rfl dX5_bears_36 rfl ?_
        refine x_iload1 (pc2 := 40) dX5_bears_39 rfl ?_
        refine x_putI (pc2 := 43) pX5_118 sh_1 rfl dX5_bears_40 rfl ?_
        refine x_aload0 (pc2 := 44) dX5_bears_43 rfl ?_
        refine x_pV0 (pc2 := 47) eX5_forgetSearches kX5_86 sh_0 rfl (Nat.le_of_ble_eq_true rfl) dX5_bears_44 rfl (s_forget _ _) ?_
        refine x_iload2 (pc2 := 48) dX5_bears_47 rfl ?_
        refine x_iret dX5_bears_48 rfl ?_
        exact ⟨by first | (simp_all [z_b, z_fg]; done) | (simp only [z_b0, z_bn0] at *; simp [z_fg, *]; done) | (simp [z_b, z_fg, *]; done), by first | (simp_all [z_b, z_fg]; done) | (simp only [z_b0, z_bn0] at *; simp [z_fg, *]; done) | (simp [z_b, z_fg, *]; done)⟩
      · skip
        refine x_bipush (v := -3) (pc2 := 26) dX5_bears_24 rfl (by decide) ?_
        refine x_iret dX5_bears_26 rfl ?_
        exact ⟨by first | (simp_all [z_b, z_fg]; done) | (simp only [z_b0, z_bn0] at *; simp [z_fg, *]; done) | (simp [z_b, z_fg, *]; done), by first | (simp_all [z_b, z_fg]; done) | (simp only [z_b0, z_bn0] at *; simp [z_fg, *]; done) | (simp [z_b, z_fg, *]; done)⟩
    · skip
      refine x_bipush (v := -2) (pc2 := 13) dX5_bears_11 rfl (by decide) ?_
      refine x_iret dX5_bears_13 rfl ?_
      exact ⟨by first | (simp_all [z_b, z_fg]; done) | (simp only [z_b0, z_bn0] at *; simp [z_fg, *]; done) | (simp [z_b, z_fg, *]; done), by first | (simp_all [z_b, z_fg]; done) | (simp only [z_b0, z_bn0] at *; simp [z_fg, *]; done) | (simp [z_b, z_fg, *]; done)⟩
theorem s_bearsM (d : Nat) (σ : zS) (v : Int32) : z_Fn mX6_bears (d + 1) [.ref 43, .int v] σ (.int (if z_wi v 1 36 = false then -2 else if σ.1 43 6 = 0 then -3 else σ.1 43 5)) (if z_wi v 1 36 = false then σ else if σ.1 43 6 = 0 then σ else z_st σ 43 5 v) := by
  refine x_enter (by decide) (Nat.le_of_ble_eq_true rfl) ?_
  show z_At _ _ _ [.ref 43, .int v, .null] _ _ _
  refine x_iload1 (pc2 := 1) dX6_bears_0 rfl ?_
  refine x_iconst (v := 1) (pc2 := 2) dX6_bears_1 rfl (by decide) ?_
  refine x_bipush (v := 36) (pc2 := 4) dX6_bears_2 rfl (by decide) ?_
  refine x_fS3 (pc2 := 7) eX6_within kX6_80 (Nat.le_of_ble_eq_true rfl) dX6_bears_4 rfl (s_within _ _ _ _ _) ?_
  refine x_if_ne (pc2 := 10) (pc3 := 13) dX6_bears_7 rfl rfl (fun h7 => ?_) (fun h7 => ?_)
  · skip
    refine x_aload0 (pc2 := 14) dX6_bears_13 rfl ?_
    refine x_getI (pc2 := 17) fX6_84 sh_43 rfl dX6_bears_14 rfl ?_
    refine x_if_ne (pc2 := 20) (pc3 := 23) dX6_bears_17 rfl rfl (fun h17 => ?_) (fun h17 => ?_)
    · skip
      refine x_aload0 (pc2 := 24) dX6_bears_23 rfl ?_
      refine x_getI (pc2 := 27) fX6_114 sh_43 rfl dX6_bears_24 rfl ?_
      refine x_istore2 (pc2 := 28) dX6_bears_27 rfl rfl ?_
      refine x_aload0 (pc2 := 29) dX6_bears_28 rfl ?_
      refine x_iload1 (pc2 := 30) dX6_bears_29 rfl ?_
      refine x_putI (pc2 := 33) pX6_114 sh_43 rfl dX6_bears_30 rfl ?_
      refine x_iload2 (pc2 := 34) dX6_bears_33 rfl ?_
      refine x_iret dX6_bears_34 rfl ?_
      exact ⟨by first | (simp_all [z_b, z_fg]; done) | (simp only [z_b0, z_bn0] at *; simp [z_fg, *]; done) | (simp [z_b, z_fg, *]; done), by first | (simp_all [z_b, z_fg]; done) | (simp only [z_b0, z_bn0] at *; simp [z_fg, *]; done) | (simp [z_b, z_fg, *]; done)⟩
    · skip
      refine x_bipush (v := -3) (pc2 := 22) dX6_bears_20 rfl (by decide) ?_
      refine x_iret dX6_bears_22 rfl ?_
      exact ⟨by first | (simp_all [z_b, z_fg]; done) | (simp only [z_b0, z_bn0] at *; simp [z_fg, *]; done) | (simp [z_b, z_fg, *]; done), by first | (simp_all [z_b, z_fg]; done) | (simp only [z_b0, z_bn0] at *; simp [z_fg, *]; done) | (simp [z_b, z_fg, *]; done)⟩
  · skip
    refine x_bipush (v := -2) (pc2 := 12) dX6_bears_10 rfl (by decide) ?_
    refine x_iret dX6_bears_12 rfl ?_
    exact ⟨by first | (simp_all [z_b, z_fg]; done) | (simp only [z_b0, z_bn0] at *; simp [z_fg, *]; done) | (simp [z_b, z_fg, *]; done), by first | (simp_all [z_b, z_fg]; done) | (simp only [z_b0, z_bn0] at *; simp [z_fg, *]; done) | (simp [z_b, z_fg, *]; done)⟩
theorem s_rainC (d : Nat) (σ : zS) (v : Int32) : z_Fn mX5_rain (d + 1) [.ref 0, .int v] σ (.int (if v ≠ -9 ∧ (v < 0 ∨ ¬ v ≤ 99) then -2 else if z_pos (σ.1 1 2) = false then -3 else σ.1 1 1)) (if v ≠ -9 ∧ (v < 0 ∨ ¬ v ≤ 99) then σ else if z_pos (σ.1 1 2) = false then σ else z_fg (z_st σ 1 1 v)) := by
  refine x_enter (by decide) (Nat.le_of_ble_eq_true rfl) ?_
  show z_At _ _ _ [.ref 0, .int v, .null] _ _ _
  refine x_iload1 (pc2 := 1) dX5_rain_0 rfl ?_
  refine x_bipush (v := -9) (pc2 := 3) dX5_rain_1 rfl (by decide) ?_
  refine x_icmp_eq (pc2 := 6) (pc3 := 19) dX5_rain_3 rfl rfl (fun h3 => ?_) (fun h3 => ?_)
  · skip
    refine x_aload0 (pc2 := 20) dX5_rain_19 rfl ?_
    refine x_getR (pc2 := 23) fX5_12 sh_0 rfl dX5_rain_20 rfl ?_
    refine x_fV0 (pc2 := 26) eX0_isThere kX5_114 sh_1 rfl (Nat.le_of_ble_eq_true rfl) dX5_rain_23 rfl (s_isThere _ _ z_P1) ?_
    refine x_if_ne (pc2 := 29) (pc3 := 32) dX5_rain_26 rfl rfl (fun h26 => ?_) (fun h26 => ?_)
    · skip
      refine x_aload0 (pc2 := 33) dX5_rain_32 rfl ?_
      refine x_getR (pc2 := 36) fX5_12 sh_0 rfl dX5_rain_33 rfl ?_
      refine x_getI (pc2 := 39) fX5_121 sh_1 rfl dX5_rain_36 rfl ?_
      refine x_istore2 (pc2 := 40) dX5_rain_39 rfl rfl ?_
      refine x_aload0 (pc2 := 41) dX5_rain_40 rfl ?_
      refine x_getR (pc2 := 44) fX5_12 sh_0 rfl dX5_rain_41 rfl ?_
      refine x_iload1 (pc2 := 45) dX5_rain_44 rfl ?_
      refine x_putI (pc2 := 48) pX5_121 sh_1 rfl dX5_rain_45 rfl ?_
      refine x_aload0 (pc2 := 49) dX5_rain_48 rfl ?_
      refine x_pV0 (pc2 := 52) eX5_forgetSearches kX5_86 sh_0 rfl (Nat.le_of_ble_eq_true rfl) dX5_rain_49 rfl (s_forget _ _) ?_
      refine x_iload2 (pc2 := 53) dX5_rain_52 rfl ?_
      refine x_iret dX5_rain_53 rfl ?_
      exact ⟨by first | (simp_all [z_b, z_fg]; done) | (simp only [z_b0, z_bn0] at *; simp [z_fg, *]; done) | (simp [z_b, z_fg, *]; done), by first | (simp_all [z_b, z_fg]; done) | (simp only [z_b0, z_bn0] at *; simp [z_fg, *]; done) | (simp [z_b, z_fg, *]; done)⟩
    · skip
      refine x_bipush (v := -3) (pc2 := 31) dX5_rain_29 rfl (by decide) ?_
      refine x_iret dX5_rain_31 rfl ?_
      exact ⟨by first | (simp_all [z_b, z_fg]; done) | (simp only [z_b0, z_bn0] at *; simp [z_fg, *]; done) | (simp [z_b, z_fg, *]; done), by first | (simp_all [z_b, z_fg]; done) | (simp only [z_b0, z_bn0] at *; simp [z_fg, *]; done) | (simp [z_b, z_fg, *]; done)⟩
  · skip
    refine x_iload1 (pc2 := 7) dX5_rain_6 rfl ?_
    refine x_if_lt (pc2 := 10) (pc3 := 16) dX5_rain_7 rfl rfl (fun h7 => ?_) (fun h7 => ?_)
    · skip
      refine x_bipush (v := -2) (pc2 := 18) dX5_rain_16 rfl (by decide) ?_
      refine x_iret dX5_rain_18 rfl ?_
      exact ⟨by first | (simp_all [z_b, z_fg]; done) | (simp only [z_b0, z_bn0] at *; simp [z_fg, *]; done) | (simp [z_b, z_fg, *]; done), by first | (simp_all [z_b, z_fg]; done) | (simp only [z_b0, z_bn0] at *; simp [z_fg, *]; done) | (simp [z_b, z_fg, *]; done)⟩
    · skip
      refine x_iload1 (pc2 := 11) dX5_rain_10 rfl ?_
      refine x_bipush (v := 99) (pc2 := 13) dX5_rain_11 rfl (by decide) ?_
      refine x_icmp_le (pc2 := 16) (pc3 := 19) dX5_rain_13 rfl rfl (fun h13 => ?_) (fun h13 => ?_)
      · skip
        refine x_aload0 (pc2 := 20) dX5_rain_19 rfl ?_
        refine x_getR (pc2 := 23) fX5_12 sh_0 rfl dX5_rain_20 rfl ?_
        refine x_fV0 (pc2 := 26) eX0_isThere kX5_114 sh_1 rfl (Nat.le_of_ble_eq_true rfl) dX5_rain_23 rfl (s_isThere _ _ z_P1) ?_
        refine x_if_ne (pc2 := 29) (pc3 := 32) dX5_rain_26 rfl rfl (fun h26 => ?_) (fun h26 => ?_)
        · skip
          refine x_aload0 (pc2 := 33) dX5_rain_32 rfl ?_
          refine x_getR (pc2 := 36) fX5_12 sh_0 rfl dX5_rain_33 rfl ?_
          refine x_getI (pc2 := 39) fX5_121 sh_1 rfl dX5_rain_36 rfl ?_
          refine x_istore2 (pc2 := 40) dX5_rain_39 rfl rfl ?_
          refine x_aload0 (pc2 := 41) dX5_rain_40 rfl ?_
          refine x_getR (pc2 := 44) fX5_12 sh_0 rfl dX5_rain_41 rfl ?_
          refine x_iload1 (pc2 := 45) dX5_rain_44 rfl ?_
          refine x_putI (pc2 := 48) pX5_121 sh_1 rfl dX5_rain_45 rfl ?_
          refine x_aload0 (pc2 := 49) dX5_rain_48 rfl ?_
          refine x_pV0 (pc2 := 52) eX5_forgetSearches kX5_86 sh_0 rfl (Nat.le_of_ble_eq_true rfl) dX5_rain_49 rfl (s_forget _ _) ?_
          refine x_iload2 (pc2 := 53) dX5_rain_52 rfl ?_
          refine x_iret dX5_rain_53 rfl ?_
          exact ⟨by first | (simp_all [z_b, z_fg]; done) | (simp only [z_b0, z_bn0] at *; simp [z_fg, *]; done) | (simp [z_b, z_fg, *]; done), by first | (simp_all [z_b, z_fg]; done) | (simp only [z_b0, z_bn0] at *; simp [z_fg, *]; done) | (simp [z_b, z_fg, *]; done)⟩
        · skip
          refine x_bipush (v := -3) (pc2 := 31) dX5_rain_29 rfl (by decide) ?_
          refine x_iret dX5_rain_31 rfl ?_
          exact ⟨by first | (simp_all [z_b, z_fg]; done) | (simp only [z_b0, z_bn0] at *; simp [z_fg, *]; done) | (simp [z_b, z_fg, *]; done), by first | (simp_all [z_b, z_fg]; done) | (simp only [z_b0, z_bn0] at *; simp [z_fg, *]; done) | (simp [z_b, z_fg, *]; done)⟩
      · skip
        refine x_bipush (v := -2) (pc2 := 18) dX5_rain_16 rfl (by decide) ?_
        refine x_iret dX5_rain_18 rfl ?_
        exact ⟨by first | (simp_all [z_b, z_fg]; done) | (simp only [z_b0, z_bn0] at *; simp [z_fg, *]; done) | (simp [z_b, z_fg, *]; done), by first | (simp_all [z_b, z_fg]; done) | (simp only [z_b0, z_bn0] at *; simp [z_fg, *]; done) | (simp [z_b, z_fg, *]; done)⟩
theorem s_rainM (d : Nat) (σ : zS) (v : Int32) : z_Fn mX6_rain (d + 1) [.ref 43, .int v] σ (.int (if v ≠ -9 ∧ z_wi v 0 99 = false then -2 else if σ.1 43 6 = 0 then -3 else σ.1 43 8)) (if v ≠ -9 ∧ z_wi v 0 99 = false then σ else if σ.1 43 6 = 0 then σ else z_st σ 43 8 v) := by
  refine x_enter (by decide) (Nat.le_of_ble_eq_true rfl) ?_
  show z_At _ _ _ [.ref 43, .int v, .null] _ _ _
  refine x_iload1 (pc2 := 1) dX6_rain_0 rfl ?_
  refine x_bipush (v := -9) (pc2 := 3) dX6_rain_1 rfl (by decide) ?_
  refine x_icmp_eq (pc2 := 6) (pc3 := 19) dX6_rain_3 rfl rfl (fun h3 => ?_) (fun h3 => ?_)
  · skip
    refine x_aload0 (pc2 := 20) dX6_rain_19 rfl ?_
    refine x_getI (pc2 := 23) fX6_84 sh_43 rfl dX6_rain_20 rfl ?_
    refine x_if_ne (pc2 := 26) (pc3 := 29) dX6_rain_23 rfl rfl (fun h23 => ?_) (fun h23 => ?_)
    · skip
      refine x_aload0 (pc2 := 30) dX6_rain_29 rfl ?_
      refine x_getI (pc2 := 33) fX6_19 sh_43 rfl dX6_rain_30 rfl ?_
      refine x_istore2 (pc2 := 34) dX6_rain_33 rfl rfl ?_
      refine x_aload0 (pc2 := 35) dX6_rain_34 rfl ?_
      refine x_iload1 (pc2 := 36) dX6_rain_35 rfl ?_
      refine x_putI (pc2 := 39) pX6_19 sh_43 rfl dX6_rain_36 rfl ?_
      refine x_iload2 (pc2 := 40) dX6_rain_39 rfl ?_
      refine x_iret dX6_rain_40 rfl ?_
      exact ⟨by first | (simp_all [z_b, z_fg]; done) | (simp only [z_b0, z_bn0] at *; simp [z_fg, *]; done) | (simp [z_b, z_fg, *]; done), by first | (simp_all [z_b, z_fg]; done) | (simp only [z_b0, z_bn0] at *; simp [z_fg, *]; done) | (simp [z_b, z_fg, *]; done)⟩
    · skip
      refine x_bipush (v := -3) (pc2 := 28) dX6_rain_26 rfl (by decide) ?_
      refine x_iret dX6_rain_28 rfl ?_
      exact ⟨by first | (simp_all [z_b, z_fg]; done) | (simp only [z_b0, z_bn0] at *; simp [z_fg, *]; done) | (simp [z_b, z_fg, *]; done), by first | (simp_all [z_b, z_fg]; done) | (simp only [z_b0, z_bn0] at *; simp [z_fg, *]; done) | (simp [z_b, z_fg, *]; done)⟩
  · skip
    refine x_iload1 (pc2 := 7) dX6_rain_6 rfl ?_
    refine x_iconst (v := 0) (pc2 := 8) dX6_rain_7 rfl (by decide) ?_
    refine x_bipush (v := 99) (pc2 := 10) dX6_rain_8 rfl (by decide) ?_
    refine x_fS3 (pc2 := 13) eX6_within kX6_80 (Nat.le_of_ble_eq_true rfl) dX6_rain_10 rfl (s_within _ _ _ _ _) ?_
    refine x_if_ne (pc2 := 16) (pc3 := 19) dX6_rain_13 rfl rfl (fun h13 => ?_) (fun h13 => ?_)
    · skip
      refine x_aload0 (pc2 := 20) dX6_rain_19 rfl ?_
      refine x_getI (pc2 := 23) fX6_84 sh_43 rfl dX6_rain_20 rfl ?_
      refine x_if_ne (pc2 := 26) (pc3 := 29) dX6_rain_23 rfl rfl (fun h23 => ?_) (fun h23 => ?_)
      · skip
        refine x_aload0 (pc2 := 30) dX6_rain_29 rfl ?_
        refine x_getI (pc2 := 33) fX6_19 sh_43 rfl dX6_rain_30 rfl ?_
        refine x_istore2 (pc2 := 34) dX6_rain_33 rfl rfl ?_
        refine x_aload0 (pc2 := 35) dX6_rain_34 rfl ?_
        refine x_iload1 (pc2 := 36) dX6_rain_35 rfl ?_
        refine x_putI (pc2 := 39) pX6_19 sh_43 rfl dX6_rain_36 rfl ?_
        refine x_iload2 (pc2 := 40) dX6_rain_39 rfl ?_
        refine x_iret dX6_rain_40 rfl ?_
        exact ⟨by first | (simp_all [z_b, z_fg]; done) | (simp only [z_b0, z_bn0] at *; simp [z_fg, *]; done) | (simp [z_b, z_fg, *]; done), by first | (simp_all [z_b, z_fg]; done) | (simp only [z_b0, z_bn0] at *; simp [z_fg, *]; done) | (simp [z_b, z_fg, *]; done)⟩
      · skip
        refine x_bipush (v := -3) (pc2 := 28) dX6_rain_26 rfl (by decide) ?_
        refine x_iret dX6_rain_28 rfl ?_
        exact ⟨by first | (simp_all [z_b, z_fg]; done) | (simp only [z_b0, z_bn0] at *; simp [z_fg, *]; done) | (simp [z_b, z_fg, *]; done), by first | (simp_all [z_b, z_fg]; done) | (simp only [z_b0, z_bn0] at *; simp [z_fg, *]; done) | (simp [z_b, z_fg, *]; done)⟩
    · skip
      refine x_bipush (v := -2) (pc2 := 18) dX6_rain_16 rfl (by decide) ?_
      refine x_iret dX6_rain_18 rfl ?_
      exact ⟨by first | (simp_all [z_b, z_fg]; done) | (simp only [z_b0, z_bn0] at *; simp [z_fg, *]; done) | (simp [z_b, z_fg, *]; done), by first | (simp_all [z_b, z_fg]; done) | (simp only [z_b0, z_bn0] at *; simp [z_fg, *]; done) | (simp [z_b, z_fg, *]; done)⟩
