/-! the law's loop -/
def lw_tgt (q : Nat) : Nat := [168, 221, 254, 287, 310, 333, 382, 405, 468, 543, 607, 620, 653, 666, 689, 712, 755, 778, 831, 894, 937, 960, 1003, 1047, 1110, 1133, 1156, 1189, 1202, 1215].getD q 0
theorem lw_loop {Ln : Nat} (hLn : Ln ≤ 448) : ∀ m k (σ : zS), Ln < k + m → k ≤ 448 + 7 → iN σ → z_len σ = Ln → z_At mL_law 8 18 [.ref 63, .ref 0, .ref 43, .int (nI k)] [] σ (fun rv _ => rv = some (.int 1)) := by
  intro m
  induction m with
  | zero =>
    intro k σ hm hk hI hlen
    refine x_iload3 (pc2 := 19) dL_law_18 rfl ?_
    refine x_aload0 (pc2 := 20) dL_law_19 rfl ?_
    refine x_slen (pc2 := 21) dL_law_20 rfl ?_
    refine x_bipush (v := 7) (pc2 := 23) dL_law_21 rfl (by decide) ?_
    rw [hlen]
    refine x_isub (pc2 := 24) dL_law_23 rfl ?_
    refine x_icmp_gt (pc2 := 27) (pc3 := 1244) dL_law_24 rfl rfl (fun h24 => ?_) (fun h24 => ?_)
    · skip
      refine x_iconst (v := 1) (pc2 := 1245) dL_law_1244 rfl (by decide) ?_
      refine x_zret dL_law_1245 rfl (by first | assumption | exact z_b01 _ | exact Or.inl rfl | exact Or.inr rfl) ?_
      rfl
    · exfalso
      apply h24
      rw [Int32.lt_iff_toInt_lt, nI_toInt (by omega), show (Int32.ofNat Ln - 7) = Int32.ofInt ((Ln : Int) - 7) by
        rw [Int32.ofInt_sub]; rfl, Int32.toInt_ofInt_of_le (by omega) (by omega)]
      omega
  | succ m ih =>
    intro k σ hm hk hI hlen
    refine x_iload3 (pc2 := 19) dL_law_18 rfl ?_
    refine x_aload0 (pc2 := 20) dL_law_19 rfl ?_
    refine x_slen (pc2 := 21) dL_law_20 rfl ?_
    refine x_bipush (v := 7) (pc2 := 23) dL_law_21 rfl (by decide) ?_
    rw [hlen]
    refine x_isub (pc2 := 24) dL_law_23 rfl ?_
    have hcmp : (Int32.ofNat Ln - 7 < nI k) ↔ Ln < k + 7 := by
      rw [Int32.lt_iff_toInt_lt, nI_toInt (by omega), show (Int32.ofNat Ln - 7) = Int32.ofInt ((Ln : Int) - 7) by
        rw [Int32.ofInt_sub]; rfl, Int32.toInt_ofInt_of_le (by omega) (by omega)]
      omega
    refine x_icmp_gt (pc2 := 27) (pc3 := 1244) dL_law_24 rfl rfl (fun h24 => ?_) (fun h24 => ?_)
    · skip
      refine x_iconst (v := 1) (pc2 := 1245) dL_law_1244 rfl (by decide) ?_
      refine x_zret dL_law_1245 rfl (by first | assumption | exact z_b01 _ | exact Or.inl rfl | exact Or.inr rfl) ?_
      rfl
    rw [hcmp] at h24
    have hL : k + 7 ≤ z_len σ := by omega
    have hl : z_len σ < 2 ^ 31 := by omega
    have hnext : ∀ τ, iN τ → iS σ τ → z_At mL_law 8 1238 [.ref 63, .ref 0, .ref 43, .int (nI k)] [] τ (fun rv _ => rv = some (.int 1)) := by
      intro τ hI' hs
      refine x_iinc3 (pc2 := 1241) dL_law_1238 rfl (z_inc7 _) rfl ?_
      refine x_goto (pc2 := 18) dL_law_1241 rfl ?_
      rw [show nI k + 7 = nI (k + 7) from z_nIadd k 7]
      exact ih (k + 7) τ (by omega) (by omega) hI' (by rw [hs.len]; exact hlen)
    refine x_aload0 (pc2 := 28) dL_law_27 rfl ?_
    refine x_iload3 (pc2 := 29) dL_law_28 rfl ?_
    refine x_sld (pc2 := 30) (by exact z_s0 hL hl) dL_law_29 rfl ?_
    refine x_bipush (v := 31) (pc2 := 32) dL_law_30 rfl (by decide) ?_
    refine x_iand (pc2 := 33) dL_law_32 rfl ?_
    refine x_tbl (p0 := 1238) lw_tgt dL_law_33 (by decide +kernel) (by decide +kernel) rfl (fun q hq _ => ?_) (fun _ => hnext σ hI iS.rf)
    have hq : q < 30 := hq
    rcases (show q = 0 ∨ q = 1 ∨ q = 2 ∨ q = 3 ∨ q = 4 ∨ q = 5 ∨ q = 6 ∨ q = 7 ∨ q = 8 ∨ q = 9 ∨ q = 10 ∨ q = 11 ∨ q = 12 ∨ q = 13 ∨ q = 14 ∨ q = 15 ∨ q = 16 ∨ q = 17 ∨ q = 18 ∨ q = 19 ∨ q = 20 ∨ q = 21 ∨ q = 22 ∨ q = 23 ∨ q = 24 ∨ q = 25 ∨ q = 26 ∨ q = 27 ∨ q = 28 ∨ q = 29 from by omega) with rfl | rfl | rfl | rfl | rfl | rfl | rfl | rfl | rfl | rfl | rfl | rfl | rfl | rfl | rfl | rfl | rfl | rfl | rfl | rfl | rfl | rfl | rfl | rfl | rfl | rfl | rfl | rfl | rfl | rfl
    · exact lw_portage hI hL hl hnext
    · exact lw_ofStage hI hL hl hnext
    · exact lw_ofThing hI hL hl hnext
    · exact lw_bears hI hL hl hnext
    · exact lw_rain hI hL hl hnext
    · exact lw_boards hI hL hl hnext
    · exact lw_well hI hL hl hnext
    · exact lw_trips hI hL hl hnext
    · exact lw_at hI hL hl hnext
    · exact lw_dry hI hL hl hnext
    · exact lw_soonest hI hL hl hnext
    · exact lw_trip hI hL hl hnext
    · exact lw_fewest hI hL hl hnext
    · exact lw_cost hI hL hl hnext
    · exact lw_help hI hL hl hnext
    · exact lw_reading hI hL hl hnext
    · exact lw_back hI hL hl hnext
    · exact lw_since hI hL hl hnext
    · exact lw_kinds hI hL hl hnext
    · exact lw_sheet hI hL hl hnext
    · exact lw_lose hI hL hl hnext
    · exact lw_put hI hL hl hnext
    · exact lw_cell hI hL hl hnext
    · exact lw_copy hI hL hl hnext
    · exact lw_tell hI hL hl hnext
    · exact lw_hail hI hL hl hnext
    · exact lw_as hI hL hl hnext
    · exact lw_trace hI hL hl hnext
    · exact lw_fault hI hL hl hnext
    · exact lw_many hI hL hl hnext
