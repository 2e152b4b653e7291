theorem RW.re {g : hG} {M M9 : hM} {y : Nat} {ad : Nat → Nat} {S S9 : Nat → Nat → Int32} {V V9 : Nat → Int32} {σ : cSt} (hw : RW g M y ad S V σ) (hR : RS g M9 y ad S9 V9) (hS : ∀ k, k ≤ 5 → S9 k = S k) (h6 : V9 6 = V 6) (h7 : V9 7 = V 7) {pl : Nat} {pe : Bool} {pk pv : Int32} {sb : Nat → Nat → Int32} (h19 : V9 19 = nI pl) (h21 : V9 21 = bI pe) (h22 : V9 22 = pk) (h23 : V9 23 = pv) (hpl : pl ≤ 16) (hpk : pOK (sNow σ, sKc σ, sVs σ, pl, pe, pk, pv, sb)) (hsb : ∀ i, i < pl → ∀ j, j < 8 → S9 20 (8 * i + j) = sb i j) : RW g M9 y ad S9 V9 (sNow σ, sKc σ, sVs σ, pl, pe, pk, pv, sb) := by
  obtain ⟨-, ⟨k1, k2, k3, -, -⟩, q0, q1, q6, qr, qn, qd, ⟨kw, q7, qk⟩, -⟩ := hw
  have re : ∀ r E, rowE S r E → rowE S9 r E := fun r E h => ⟨by rw [hS 4 (by omega)]; exact h.1, fun j hj => by rw [hS 2 (by omega), hS 3 (by omega)]; exact h.2 j hj⟩
  exact ⟨hR, ⟨k1, k2, k3, hpl, hpk⟩, fun j hj => by rw [hS 0 (by omega)]; exact q0 j hj, fun j hj => by rw [hS 1 (by omega)]; exact q1 j hj, h6.trans q6, fun j hj => re _ _ (qr j hj), re _ _ qn, fun j hj i hi => by rw [hS 5 (by omega)]; exact qd j hj i hi, ⟨kw, h7.trans q7, fun h i hi => by rw [hS 5 (by omega)]; exact qk h i hi⟩, h19, h21, h22, h23, hsb⟩
theorem w_ne {w a : Int32} {P : Prop} (h : w = a → P) (hp : ¬ P) : w ≠ a := fun q => hp (h q)
set_option maxHeartbeats 4000000 in
set_option maxRecDepth 100000 in
theorem c_X4_end (l : Launch) (g : hG) (M : hM) (y : Nat) (ad : Nat → Nat) (S : Nat → Nat → Int32) (V : Nat → Int32) (σ : cSt) (hw : RW g M y ad S V σ) (w0 : Int32) : Ci l g yX4_end cX4_end 2 .int 1 0 0 [.ref y, .int w0] M (fun r M9 => r = rEnd σ w0 ∧ M9 = M) := by
  obtain ⟨hRs, ⟨hkc, hvg, hgn, hpl, hpk⟩, hk0, hk1, hv6, hrows, hnow, hdv, ⟨kw, hv7, hdn⟩, hv19, hv21, hv22, hv23, hsb⟩ := id hw
  refine hp_startI (by decide) (by exact Nat.le_of_ble_eq_true rfl) ?_
  intro p e s m below meth c Q H locs ls EE hnm ret hm hS hl
  have hx := EE.1
  have hb := EE.2.1
  have hown := EE.2.2.2.1
  have hts := EE.2.2.2.2.1
  have hl : lv_has ls 2 [(0, .ref y), (1, .int w0)] := hl
  have hF : ∀ q, ¬ rO y ad q → M q = M q := fun _ _ => rfl
  refine lv_iload_n hx hb dX4_end_0 rfl (lv_at hl 1 rfl) ?_
  refine lv_if_lt (tgt := 9) hx hb dX4_end_1 (by decide) (fun c_1 => ?_) (fun c_1 => ?_)
  · refine lv_iconst (v := (-1)) hx hb dX4_end_9 (by decide) ?_
    exact ret dX4_end_10 na_i hm hS (Nat.le_of_ble_eq_true rfl) (Nat.le_of_ble_eq_true rfl) (⟨by unfold rEnd; rw [if_neg (fun q => absurd (q ▸ c_1) (by decide)), if_neg (fun q => absurd (q ▸ c_1) (by decide)), if_neg (fun q => absurd (q ▸ c_1) (by decide))], rfl⟩)
  · refine lv_iload_n hx hb dX4_end_4 rfl (lv_at hl 1 rfl) ?_
    refine lv_iconst (v := 2) hx hb dX4_end_5 (by decide) ?_
    refine lv_icmp_le (tgt := 11) hx hb dX4_end_6 (by decide) (fun c_6 => ?_) (fun c_6 => ?_)
    · refine lv_iload_n hx hb dX4_end_11 rfl (lv_at hl 1 rfl) ?_
      refine lv_if_ne (tgt := 30) hx hb dX4_end_12 (by decide) (fun c_12 => ?_) (fun c_12 => ?_)
      · refine lv_iload_n hx hb dX4_end_30 rfl (lv_at hl 1 rfl) ?_
        refine lv_iconst (v := 1) hx hb dX4_end_31 (by decide) ?_
        refine lv_icmp_ne (tgt := 42) hx hb dX4_end_32 (by decide) (fun c_32 => ?_) (fun c_32 => ?_)
        · refine lv_aload_n hx hb dX4_end_42 rfl (lv_at hl 0 rfl) ?_
          refine hr_get EE hm hRs 23 (by decide) wf_X4_217 (v := .int (V 23)) rfl dX4_end_43 ?_
          exact ret dX4_end_46 na_i hm hS (Nat.le_of_ble_eq_true rfl) (Nat.le_of_ble_eq_true rfl) (⟨by
            unfold rEnd
            rcases tsw3 w0 with h | h | h | ⟨h, -⟩
            · exact absurd h c_12
            · exact absurd h c_32
            · rw [if_neg c_12, if_neg c_32, if_pos h]; exact hv23
            · exfalso
              rw [Int32.lt_iff_toInt_lt] at c_1
              rw [Int32.le_iff_toInt_le] at c_6
              have e0 : (0 : Int32).toInt = 0 := by decide
              have e2 : (2 : Int32).toInt = 2 := by decide
              omega, rfl⟩)
        · refine lv_aload_n hx hb dX4_end_35 rfl (lv_at hl 0 rfl) ?_
          refine hr_get EE hm hRs 22 (by decide) wf_X4_214 (v := .int (V 22)) rfl dX4_end_36 ?_
          refine lv_goto (tgt := 46) hx hb dX4_end_39 (by decide) ?_
          exact ret dX4_end_46 na_i hm hS (Nat.le_of_ble_eq_true rfl) (Nat.le_of_ble_eq_true rfl) (⟨by unfold rEnd; rw [if_neg c_12, if_pos c_32]; exact hv22, rfl⟩)
      · refine lv_aload_n hx hb dX4_end_15 rfl (lv_at hl 0 rfl) ?_
        refine hr_get EE hm hRs 21 (by decide) wf_X4_211 (v := .int (V 21)) rfl dX4_end_16 ?_
        rw [hv21]
        refine lv_if_eq (tgt := 26) hx hb dX4_end_19 (by decide) (fun c_19 => ?_) (fun c_19 => ?_)
        · have c_19 := bI_f c_19
          refine lv_iconst (v := 0) hx hb dX4_end_26 (by decide) ?_
          refine lv_goto (tgt := 46) hx hb dX4_end_27 (by decide) ?_
          exact ret dX4_end_46 na_i hm hS (Nat.le_of_ble_eq_true rfl) (Nat.le_of_ble_eq_true rfl) (⟨by unfold rEnd; rw [if_pos c_12, c_19]; rfl, rfl⟩)
        · have c_19 := bI_t c_19
          refine lv_iconst (v := 1) hx hb dX4_end_22 (by decide) ?_
          refine lv_goto (tgt := 46) hx hb dX4_end_23 (by decide) ?_
          exact ret dX4_end_46 na_i hm hS (Nat.le_of_ble_eq_true rfl) (Nat.le_of_ble_eq_true rfl) (⟨by unfold rEnd; rw [if_pos c_12, c_19]; rfl, rfl⟩)
    · refine lv_iconst (v := (-1)) hx hb dX4_end_9 (by decide) ?_
      exact ret dX4_end_10 na_i hm hS (Nat.le_of_ble_eq_true rfl) (Nat.le_of_ble_eq_true rfl) (⟨by unfold rEnd; rw [if_neg (fun q => absurd (q ▸ c_6) (by decide)), if_neg (fun q => absurd (q ▸ c_6) (by decide)), if_neg (fun q => absurd (q ▸ c_6) (by decide))], rfl⟩)
set_option maxHeartbeats 4000000 in
set_option maxRecDepth 100000 in
theorem c_X4_cut (l : Launch) (g : hG) (M : hM) (y : Nat) (ad : Nat → Nat) (S : Nat → Nat → Int32) (V : Nat → Int32) (σ : cSt) (hw : RW g M y ad S V σ) (n0 : Int32) : Ci l g yX4_cut cX4_cut 2 .int 1 0 0 [.ref y, .int n0] M (fun r M9 => r = (sCut σ n0).1 ∧ RP g M y ad M9 (sCut σ n0).2) := by
  obtain ⟨hRs, ⟨hkc, hvg, hgn, hpl, hpk⟩, hk0, hk1, hv6, hrows, hnow, hdv, ⟨kw, hv7, hdn⟩, hv19, hv21, hv22, hv23, hsb⟩ := id hw
  refine hp_startI (by decide) (by exact Nat.le_of_ble_eq_true rfl) ?_
  intro p e s m below meth c Q H locs ls EE hnm ret hm hS hl
  have hx := EE.1
  have hb := EE.2.1
  have hown := EE.2.2.2.1
  have hts := EE.2.2.2.2.1
  have hl : lv_has ls 2 [(0, .ref y), (1, .int n0)] := hl
  have hF : ∀ q, ¬ rO y ad q → M q = M q := fun _ _ => rfl
  refine lv_iload_n hx hb dX4_cut_0 rfl (lv_at hl 1 rfl) ?_
  refine lv_if_lt (tgt := 12) hx hb dX4_cut_1 (by decide) (fun c_1 => ?_) (fun c_1 => ?_)
  · refine lv_iconst (v := (-1)) hx hb dX4_cut_12 (by decide) ?_
    exact ret dX4_cut_13 na_i hm hS (Nat.le_of_ble_eq_true rfl) (Nat.le_of_ble_eq_true rfl) (⟨by unfold sCut; first | (rw [decide_eq_false (Int32.not_le.mpr c_1)]; rfl) | (rw [hv19] at c_9; rw [decide_eq_false c_9, Bool.and_false]; rfl), by unfold sCut; first | (rw [decide_eq_false (Int32.not_le.mpr c_1)]; exact RP.rf hw) | (rw [hv19] at c_9; rw [decide_eq_false c_9, Bool.and_false]; exact RP.rf hw)⟩)
  · refine lv_iload_n hx hb dX4_cut_4 rfl (lv_at hl 1 rfl) ?_
    refine lv_aload_n hx hb dX4_cut_5 rfl (lv_at hl 0 rfl) ?_
    refine hr_get EE hm hRs 19 (by decide) wf_X4_208 (v := .int (V 19)) rfl dX4_cut_6 ?_
    refine lv_icmp_le (tgt := 14) hx hb dX4_cut_9 (by decide) (fun c_9 => ?_) (fun c_9 => ?_)
    · rw [hv19] at c_9
      have hT : (decide (0 ≤ n0) && decide (n0 ≤ nI (sPl σ))) = true := by rw [decide_eq_true (i_nlt0 c_1), decide_eq_true c_9]; rfl
      obtain ⟨nn, hnn, hne⟩ := nI_of c_1
      have hle : nn ≤ sPl σ := (nI_leI hnn (by omega)).mp (hne ▸ c_9)
      refine lv_aload_n hx hb dX4_cut_14 rfl (lv_at hl 0 rfl) ?_
      refine lv_iload_n hx hb dX4_cut_15 rfl (lv_at hl 1 rfl) ?_
      refine hr_put EE hm hS hRs hF (ty := .int) (vU V 19 n0) 19 (by decide) wf_X4_208 rfl (by decide +kernel) rfl rfl rfl dX4_cut_16 (fun H locs Mx1 hm hS hRs hF => ?_)
      obtain ⟨Vx2, hVx2⟩ : ∃ z, z = vU V 19 n0 := ⟨_, rfl⟩
      rw [← hVx2] at hRs
      refine lv_iconst (v := 1) hx hb dX4_cut_19 (by decide) ?_
      exact ret dX4_cut_20 na_i hm hS (Nat.le_of_ble_eq_true rfl) (Nat.le_of_ble_eq_true rfl) (⟨by unfold sCut; rw [hT]; rfl, by unfold sCut; rw [hT, if_pos rfl, hne, nI_clamp hnn]; exact ⟨S, Vx2, hw.re hRs (fun _ _ => rfl) (by rw [hVx2]; rfl) (by rw [hVx2]; rfl) (by rw [hVx2]; exact hne) (by rw [hVx2]; exact hv21) (by rw [hVx2]; exact hv22) (by rw [hVx2]; exact hv23) (by omega) hpk (fun i hi => hsb i (by omega)), hF⟩⟩)
    · refine lv_iconst (v := (-1)) hx hb dX4_cut_12 (by decide) ?_
      exact ret dX4_cut_13 na_i hm hS (Nat.le_of_ble_eq_true rfl) (Nat.le_of_ble_eq_true rfl) (⟨by unfold sCut; first | (rw [decide_eq_false (Int32.not_le.mpr c_1)]; rfl) | (rw [hv19] at c_9; rw [decide_eq_false c_9, Bool.and_false]; rfl), by unfold sCut; first | (rw [decide_eq_false (Int32.not_le.mpr c_1)]; exact RP.rf hw) | (rw [hv19] at c_9; rw [decide_eq_false c_9, Bool.and_false]; exact RP.rf hw)⟩)
set_option maxHeartbeats 4000000 in
set_option maxRecDepth 100000 in
theorem c_X4_claim (l : Launch) (g : hG) (M : hM) (y : Nat) (ad : Nat → Nat) (S : Nat → Nat → Int32) (V : Nat → Int32) (σ : cSt) (hw : RW g M y ad S V σ) (k0 v0 : Int32) : Ci l g yX4_claim cX4_claim 3 .int 2 0 0 [.ref y, .int k0, .int v0] M (fun r M9 => r = (sClaim σ k0 v0).1 ∧ RP g M y ad M9 (sClaim σ k0 v0).2) := by
  obtain ⟨hRs, ⟨hkc, hvg, hgn, hpl, hpk⟩, hk0, hk1, hv6, hrows, hnow, hdv, ⟨kw, hv7, hdn⟩, hv19, hv21, hv22, hv23, hsb⟩ := id hw
  refine hp_startI (by decide) (by exact Nat.le_of_ble_eq_true rfl) ?_
  intro p e s m below meth c Q H locs ls EE hnm ret hm hS hl
  have hx := EE.1
  have hb := EE.2.1
  have hown := EE.2.2.2.1
  have hts := EE.2.2.2.2.1
  have hl : lv_has ls 3 [(0, .ref y), (1, .int k0), (2, .int v0)] := hl
  have hF : ∀ q, ¬ rO y ad q → M q = M q := fun _ _ => rfl
  refine lv_iload_n hx hb dX4_claim_0 rfl (lv_at hl 1 rfl) ?_
  refine lv_iconst (v := (-1)) hx hb dX4_claim_1 (by decide) ?_
  refine lv_icmp_eq (tgt := 14) hx hb dX4_claim_2 (by decide) (fun c_2 => ?_) (fun c_2 => ?_)
  · refine lv_aload_n hx hb dX4_claim_14 rfl (lv_at hl 0 rfl) ?_
    refine lv_iload_n hx hb dX4_claim_15 rfl (lv_at hl 1 rfl) ?_
    refine lv_if_lt (tgt := 23) hx hb dX4_claim_16 (by decide) (fun c_16 => ?_) (fun c_16 => ?_)
    · have hm1 : k0 = -1 := by
        first
        | exact c_2
        | (obtain ⟨kk, h1, h2⟩ := isK_nat c_9; rw [h2] at c_16; exact absurd c_16 (nI_pos (by omega)))
      refine lv_iconst (v := 0) hx hb dX4_claim_23 (by decide) ?_
      refine hr_put EE hm hS hRs hF (ty := .boolean) (vU V 21 0) 21 (by decide) wf_X4_211 rfl (by decide +kernel) (by decide) (by decide) rfl dX4_claim_24 (fun H locs Mx1 hm hS hRs hF => ?_)
      obtain ⟨Vx2, hVx2⟩ : ∃ z, z = vU V 21 0 := ⟨_, rfl⟩
      rw [← hVx2] at hRs
      refine lv_aload_n hx hb dX4_claim_27 rfl (lv_at hl 0 rfl) ?_
      refine lv_aload_n hx hb dX4_claim_28 rfl (lv_at hl 0 rfl) ?_
      refine hr_get EE hm hRs 21 (by decide) wf_X4_211 (v := .int 0) (by rw [hVx2]; rfl) dX4_claim_29 ?_
      refine lv_if_eq (tgt := 39) hx hb dX4_claim_32 (by decide) (fun _ => ?_) (fun c9 => absurd rfl c9)
      refine lv_iconst (v := 0) hx hb dX4_claim_39 (by decide) ?_
      refine hr_put EE hm hS hRs hF (ty := .int) (vU Vx2 22 0) 22 (by decide) wf_X4_214 rfl (by decide +kernel) rfl rfl rfl dX4_claim_40 (fun H locs Mx3 hm hS hRs hF => ?_)
      obtain ⟨Vx4, hVx4⟩ : ∃ z, z = vU Vx2 22 0 := ⟨_, rfl⟩
      rw [← hVx4] at hRs
      refine lv_aload_n hx hb dX4_claim_43 rfl (lv_at hl 0 rfl) ?_
      refine lv_aload_n hx hb dX4_claim_44 rfl (lv_at hl 0 rfl) ?_
      refine hr_get EE hm hRs 21 (by decide) wf_X4_211 (v := .int 0) (by rw [hVx4, hVx2]; rfl) dX4_claim_45 ?_
      refine lv_if_eq (tgt := 55) hx hb dX4_claim_48 (by decide) (fun _ => ?_) (fun c9 => absurd rfl c9)
      refine lv_iconst (v := 0) hx hb dX4_claim_55 (by decide) ?_
      refine hr_put EE hm hS hRs hF (ty := .int) (vU Vx4 23 0) 23 (by decide) wf_X4_217 rfl (by decide +kernel) rfl rfl rfl dX4_claim_56 (fun H locs Mx5 hm hS hRs hF => ?_)
      obtain ⟨Vx6, hVx6⟩ : ∃ z, z = vU Vx4 23 0 := ⟨_, rfl⟩
      rw [← hVx6] at hRs
      refine lv_iconst (v := 1) hx hb dX4_claim_59 (by decide) ?_
      exact ret dX4_claim_60 na_i hm hS (Nat.le_of_ble_eq_true rfl) (Nat.le_of_ble_eq_true rfl) (⟨by unfold sClaim; rw [if_pos hm1], by unfold sClaim; rw [if_pos hm1]; exact ⟨S, Vx6, hw.re hRs (fun _ _ => rfl) (by rw [hVx6, hVx4, hVx2]; rfl) (by rw [hVx6, hVx4, hVx2]; rfl) (by rw [hVx6, hVx4, hVx2]; exact hv19) (pe := false) (by rw [hVx6, hVx4, hVx2]; rfl) (by rw [hVx6, hVx4, hVx2]; rfl) (by rw [hVx6, hVx4, hVx2]; rfl) hpl ⟨fun q => (by cases q), fun _ => ⟨rfl, rfl⟩⟩ hsb, hF⟩⟩)
    · have hm1 : k0 ≠ -1 := fun q => c_16 (by rw [q]; decide)
      have hik : isK k0 = true := by
        first
        | exact c_9
        | exact absurd c_2 hm1
      refine lv_iconst (v := 1) hx hb dX4_claim_19 (by decide) ?_
      refine lv_goto (tgt := 24) hx hb dX4_claim_20 (by decide) ?_
      refine hr_put EE hm hS hRs hF (ty := .boolean) (vU V 21 1) 21 (by decide) wf_X4_211 rfl (by decide +kernel) (by decide) (by decide) rfl dX4_claim_24 (fun H locs Mx7 hm hS hRs hF => ?_)
      obtain ⟨Vx8, hVx8⟩ : ∃ z, z = vU V 21 1 := ⟨_, rfl⟩
      rw [← hVx8] at hRs
      refine lv_aload_n hx hb dX4_claim_27 rfl (lv_at hl 0 rfl) ?_
      refine lv_aload_n hx hb dX4_claim_28 rfl (lv_at hl 0 rfl) ?_
      refine hr_get EE hm hRs 21 (by decide) wf_X4_211 (v := .int 1) (by rw [hVx8]; rfl) dX4_claim_29 ?_
      refine lv_if_eq (tgt := 39) hx hb dX4_claim_32 (by decide) (fun c9 => absurd c9 (by decide)) (fun _ => ?_)
      refine lv_iload_n hx hb dX4_claim_35 rfl (lv_at hl 1 rfl) ?_
      refine lv_goto (tgt := 40) hx hb dX4_claim_36 (by decide) ?_
      refine hr_put EE hm hS hRs hF (ty := .int) (vU Vx8 22 k0) 22 (by decide) wf_X4_214 rfl (by decide +kernel) rfl rfl rfl dX4_claim_40 (fun H locs Mx9 hm hS hRs hF => ?_)
      obtain ⟨Vx10, hVx10⟩ : ∃ z, z = vU Vx8 22 k0 := ⟨_, rfl⟩
      rw [← hVx10] at hRs
      refine lv_aload_n hx hb dX4_claim_43 rfl (lv_at hl 0 rfl) ?_
      refine lv_aload_n hx hb dX4_claim_44 rfl (lv_at hl 0 rfl) ?_
      refine hr_get EE hm hRs 21 (by decide) wf_X4_211 (v := .int 1) (by rw [hVx10, hVx8]; rfl) dX4_claim_45 ?_
      refine lv_if_eq (tgt := 55) hx hb dX4_claim_48 (by decide) (fun c9 => absurd c9 (by decide)) (fun _ => ?_)
      refine lv_iload_n hx hb dX4_claim_51 rfl (lv_at hl 2 rfl) ?_
      refine lv_goto (tgt := 56) hx hb dX4_claim_52 (by decide) ?_
      refine hr_put EE hm hS hRs hF (ty := .int) (vU Vx10 23 v0) 23 (by decide) wf_X4_217 rfl (by decide +kernel) rfl rfl rfl dX4_claim_56 (fun H locs Mx11 hm hS hRs hF => ?_)
      obtain ⟨Vx12, hVx12⟩ : ∃ z, z = vU Vx10 23 v0 := ⟨_, rfl⟩
      rw [← hVx12] at hRs
      refine lv_iconst (v := 1) hx hb dX4_claim_59 (by decide) ?_
      exact ret dX4_claim_60 na_i hm hS (Nat.le_of_ble_eq_true rfl) (Nat.le_of_ble_eq_true rfl) (⟨by unfold sClaim; rw [if_neg hm1, hik]; rfl, by unfold sClaim; rw [if_neg hm1, hik]; exact ⟨S, Vx12, hw.re hRs (fun _ _ => rfl) (by rw [hVx12, hVx10, hVx8]; rfl) (by rw [hVx12, hVx10, hVx8]; rfl) (by rw [hVx12, hVx10, hVx8]; exact hv19) (pe := true) (by rw [hVx12, hVx10, hVx8]; rfl) (by rw [hVx12, hVx10, hVx8]; rfl) (by rw [hVx12, hVx10, hVx8]; rfl) hpl ⟨fun _ => (by obtain ⟨kk, h1, h2⟩ := isK_nat hik; exact ⟨kk, h1, h2⟩), fun q => (by cases q)⟩ hsb, hF⟩⟩)
  · refine lv_iload_n hx hb dX4_claim_5 rfl (lv_at hl 1 rfl) ?_
    refine hp_ci (hp_runS (np := 1) (k := 1) (mc := 0) (ms := 0) (As := [.int k0]) (rest := []) EE hm hS (c_X4_isKey l g M k0) ms_X4_isKey wt_X4_isKey wl_X4_182 rfl hl.1 rfl (Nat.le_of_ble_eq_true rfl) dX4_claim_6 ⟨Nat.le_of_ble_eq_true rfl, Nat.le_of_ble_eq_true rfl⟩ ⟨(Nat.le_of_ble_eq_true rfl), (Nat.le_of_ble_eq_true rfl)⟩) hS (fun r13 Mx14 H locs hq15 hm hS => ?_)
    obtain ⟨rfl, h9⟩ := hq15
    rw [h9] at hm
    refine lv_if_ne (tgt := 14) hx hb dX4_claim_9 (by decide) (fun c_9 => ?_) (fun c_9 => ?_)
    · have c_9 := bI_t c_9
      refine lv_aload_n hx hb dX4_claim_14 rfl (lv_at hl 0 rfl) ?_
      refine lv_iload_n hx hb dX4_claim_15 rfl (lv_at hl 1 rfl) ?_
      refine lv_if_lt (tgt := 23) hx hb dX4_claim_16 (by decide) (fun c_16 => ?_) (fun c_16 => ?_)
      · have hm1 : k0 = -1 := by
          first
          | exact c_2
          | (obtain ⟨kk, h1, h2⟩ := isK_nat c_9; rw [h2] at c_16; exact absurd c_16 (nI_pos (by omega)))
        refine lv_iconst (v := 0) hx hb dX4_claim_23 (by decide) ?_
        refine hr_put EE hm hS hRs hF (ty := .boolean) (vU V 21 0) 21 (by decide) wf_X4_211 rfl (by decide +kernel) (by decide) (by decide) rfl dX4_claim_24 (fun H locs Mx16 hm hS hRs hF => ?_)
        obtain ⟨Vx17, hVx17⟩ : ∃ z, z = vU V 21 0 := ⟨_, rfl⟩
        rw [← hVx17] at hRs
        refine lv_aload_n hx hb dX4_claim_27 rfl (lv_at hl 0 rfl) ?_
        refine lv_aload_n hx hb dX4_claim_28 rfl (lv_at hl 0 rfl) ?_
        refine hr_get EE hm hRs 21 (by decide) wf_X4_211 (v := .int 0) (by rw [hVx17]; rfl) dX4_claim_29 ?_
        refine lv_if_eq (tgt := 39) hx hb dX4_claim_32 (by decide) (fun _ => ?_) (fun c9 => absurd rfl c9)
        refine lv_iconst (v := 0) hx hb dX4_claim_39 (by decide) ?_
        refine hr_put EE hm hS hRs hF (ty := .int) (vU Vx17 22 0) 22 (by decide) wf_X4_214 rfl (by decide +kernel) rfl rfl rfl dX4_claim_40 (fun H locs Mx18 hm hS hRs hF => ?_)
        obtain ⟨Vx19, hVx19⟩ : ∃ z, z = vU Vx17 22 0 := ⟨_, rfl⟩
        rw [← hVx19] at hRs
        refine lv_aload_n hx hb dX4_claim_43 rfl (lv_at hl 0 rfl) ?_
        refine lv_aload_n hx hb dX4_claim_44 rfl (lv_at hl 0 rfl) ?_
        refine hr_get EE hm hRs 21 (by decide) wf_X4_211 (v := .int 0) (by rw [hVx19, hVx17]; rfl) dX4_claim_45 ?_
        refine lv_if_eq (tgt := 55) hx hb dX4_claim_48 (by decide) (fun _ => ?_) (fun c9 => absurd rfl c9)
        refine lv_iconst (v := 0) hx hb dX4_claim_55 (by decide) ?_
        refine hr_put EE hm hS hRs hF (ty := .int) (vU Vx19 23 0) 23 (by decide) wf_X4_217 rfl (by decide +kernel) rfl rfl rfl dX4_claim_56 (fun H locs Mx20 hm hS hRs hF => ?_)
        obtain ⟨Vx21, hVx21⟩ : ∃ z, z = vU Vx19 23 0 := ⟨_, rfl⟩
        rw [← hVx21] at hRs
        refine lv_iconst (v := 1) hx hb dX4_claim_59 (by decide) ?_
        exact ret dX4_claim_60 na_i hm hS (Nat.le_of_ble_eq_true rfl) (Nat.le_of_ble_eq_true rfl) (⟨by unfold sClaim; rw [if_pos hm1], by unfold sClaim; rw [if_pos hm1]; exact ⟨S, Vx21, hw.re hRs (fun _ _ => rfl) (by rw [hVx21, hVx19, hVx17]; rfl) (by rw [hVx21, hVx19, hVx17]; rfl) (by rw [hVx21, hVx19, hVx17]; exact hv19) (pe := false) (by rw [hVx21, hVx19, hVx17]; rfl) (by rw [hVx21, hVx19, hVx17]; rfl) (by rw [hVx21, hVx19, hVx17]; rfl) hpl ⟨fun q => (by cases q), fun _ => ⟨rfl, rfl⟩⟩ hsb, hF⟩⟩)
      · have hm1 : k0 ≠ -1 := fun q => c_16 (by rw [q]; decide)
        have hik : isK k0 = true := by
          first
          | exact c_9
          | exact absurd c_2 hm1
        refine lv_iconst (v := 1) hx hb dX4_claim_19 (by decide) ?_
        refine lv_goto (tgt := 24) hx hb dX4_claim_20 (by decide) ?_
        refine hr_put EE hm hS hRs hF (ty := .boolean) (vU V 21 1) 21 (by decide) wf_X4_211 rfl (by decide +kernel) (by decide) (by decide) rfl dX4_claim_24 (fun H locs Mx22 hm hS hRs hF => ?_)
        obtain ⟨Vx23, hVx23⟩ : ∃ z, z = vU V 21 1 := ⟨_, rfl⟩
        rw [← hVx23] at hRs
        refine lv_aload_n hx hb dX4_claim_27 rfl (lv_at hl 0 rfl) ?_
        refine lv_aload_n hx hb dX4_claim_28 rfl (lv_at hl 0 rfl) ?_
        refine hr_get EE hm hRs 21 (by decide) wf_X4_211 (v := .int 1) (by rw [hVx23]; rfl) dX4_claim_29 ?_
        refine lv_if_eq (tgt := 39) hx hb dX4_claim_32 (by decide) (fun c9 => absurd c9 (by decide)) (fun _ => ?_)
        refine lv_iload_n hx hb dX4_claim_35 rfl (lv_at hl 1 rfl) ?_
        refine lv_goto (tgt := 40) hx hb dX4_claim_36 (by decide) ?_
        refine hr_put EE hm hS hRs hF (ty := .int) (vU Vx23 22 k0) 22 (by decide) wf_X4_214 rfl (by decide +kernel) rfl rfl rfl dX4_claim_40 (fun H locs Mx24 hm hS hRs hF => ?_)
        obtain ⟨Vx25, hVx25⟩ : ∃ z, z = vU Vx23 22 k0 := ⟨_, rfl⟩
        rw [← hVx25] at hRs
        refine lv_aload_n hx hb dX4_claim_43 rfl (lv_at hl 0 rfl) ?_
        refine lv_aload_n hx hb dX4_claim_44 rfl (lv_at hl 0 rfl) ?_
        refine hr_get EE hm hRs 21 (by decide) wf_X4_211 (v := .int 1) (by rw [hVx25, hVx23]; rfl) dX4_claim_45 ?_
        refine lv_if_eq (tgt := 55) hx hb dX4_claim_48 (by decide) (fun c9 => absurd c9 (by decide)) (fun _ => ?_)
        refine lv_iload_n hx hb dX4_claim_51 rfl (lv_at hl 2 rfl) ?_
        refine lv_goto (tgt := 56) hx hb dX4_claim_52 (by decide) ?_
        refine hr_put EE hm hS hRs hF (ty := .int) (vU Vx25 23 v0) 23 (by decide) wf_X4_217 rfl (by decide +kernel) rfl rfl rfl dX4_claim_56 (fun H locs Mx26 hm hS hRs hF => ?_)
        obtain ⟨Vx27, hVx27⟩ : ∃ z, z = vU Vx25 23 v0 := ⟨_, rfl⟩
        rw [← hVx27] at hRs
        refine lv_iconst (v := 1) hx hb dX4_claim_59 (by decide) ?_
        exact ret dX4_claim_60 na_i hm hS (Nat.le_of_ble_eq_true rfl) (Nat.le_of_ble_eq_true rfl) (⟨by unfold sClaim; rw [if_neg hm1, hik]; rfl, by unfold sClaim; rw [if_neg hm1, hik]; exact ⟨S, Vx27, hw.re hRs (fun _ _ => rfl) (by rw [hVx27, hVx25, hVx23]; rfl) (by rw [hVx27, hVx25, hVx23]; rfl) (by rw [hVx27, hVx25, hVx23]; exact hv19) (pe := true) (by rw [hVx27, hVx25, hVx23]; rfl) (by rw [hVx27, hVx25, hVx23]; rfl) (by rw [hVx27, hVx25, hVx23]; rfl) hpl ⟨fun _ => (by obtain ⟨kk, h1, h2⟩ := isK_nat hik; exact ⟨kk, h1, h2⟩), fun q => (by cases q)⟩ hsb, hF⟩⟩)
    · have c_9 := bI_f c_9
      refine lv_iconst (v := (-1)) hx hb dX4_claim_12 (by decide) ?_
      exact ret dX4_claim_13 na_i hm hS (Nat.le_of_ble_eq_true rfl) (Nat.le_of_ble_eq_true rfl) (⟨by unfold sClaim; rw [if_neg c_2, c_9]; rfl, by unfold sClaim; rw [if_neg c_2, c_9]; exact RP.rf hw⟩)
set_option maxHeartbeats 4000000 in
set_option maxRecDepth 100000 in
theorem c_X4_alter (l : Launch) (g : hG) (M : hM) (y : Nat) (ad : Nat → Nat) (S : Nat → Nat → Int32) (V : Nat → Int32) (σ : cSt) (hw : RW g M y ad S V σ) (k0 i0 x0 : Int32) : Ci l g yX4_alter cX4_alter 4 .int 2 0 0 [.ref y, .int k0, .int i0, .int x0] M (fun r M9 => r = (sAlter σ k0 i0 x0).1 ∧ RP g M y ad M9 (sAlter σ k0 i0 x0).2) := by
  obtain ⟨hRs, ⟨hkc, hvg, hgn, hpl, hpk⟩, hk0, hk1, hv6, hrows, hnow, hdv, ⟨kw, hv7, hdn⟩, hv19, hv21, hv22, hv23, hsb⟩ := id hw
  refine hp_startI (by decide) (by exact Nat.le_of_ble_eq_true rfl) ?_
  intro p e s m below meth c Q H locs ls EE hnm ret hm hS hl
  have hx := EE.1
  have hb := EE.2.1
  have hown := EE.2.2.2.1
  have hts := EE.2.2.2.2.1
  have hl : lv_has ls 4 [(0, .ref y), (1, .int k0), (2, .int i0), (3, .int x0)] := hl
  have hF : ∀ q, ¬ rO y ad q → M q = M q := fun _ _ => rfl
  refine lv_aload_n hx hb dX4_alter_0 rfl (lv_at hl 0 rfl) ?_
  refine lv_iload_n hx hb dX4_alter_1 rfl (lv_at hl 1 rfl) ?_
  refine lv_iload_n hx hb dX4_alter_2 rfl (lv_at hl 2 rfl) ?_
  refine hp_ci (hp_runV (C := RX4) (T := TX4) (N := 24) (np := 2) (k := 1) (mc := 0) (ms := 0) (As := [.int k0, .int i0]) (rest := []) EE hm hS (c_X4_isSibling l g M y ad S V σ hw k0 i0) ms_X4_isSibling wi_X4_isSibling ws_X4_isSibling wl_X4_220 hRs.1 rfl rfl hl.1 rfl (Nat.le_of_ble_eq_true rfl) dX4_alter_3 ⟨Nat.le_of_ble_eq_true rfl, Nat.le_of_ble_eq_true rfl⟩ ⟨(Nat.le_of_ble_eq_true rfl), (Nat.le_of_ble_eq_true rfl)⟩) hS (fun r1 Mx2 H locs hq3 hm hS => ?_)
  obtain ⟨rfl, h9⟩ := hq3
  rw [h9] at hm
  refine lv_if_ne (tgt := 11) hx hb dX4_alter_6 (by decide) (fun c_6 => ?_) (fun c_6 => ?_)
  · have c_6 := bI_t c_6
    have c_60 := c_6
    rw [Bool.and_eq_true] at c_6
    obtain ⟨i, hi, hie⟩ := isS_nat hpl c_6.1
    obtain ⟨j, hj, hje⟩ := isW_nat c_6.2
    refine lv_aload_n hx hb dX4_alter_11 rfl (lv_at hl 0 rfl) ?_
    refine hr_get EE hm hRs 20 (by decide) wf_X4_130 (v := .ref (ad 20)) rfl dX4_alter_12 ?_
    refine lv_bipush (v := 8) hx hb dX4_alter_15 (by decide) ?_
    refine lv_iload_n hx hb dX4_alter_17 rfl (lv_at hl 1 rfl) ?_
    refine lv_imul hx hb dX4_alter_18 ?_
    refine lv_iload_n hx hb dX4_alter_19 rfl (lv_at hl 2 rfl) ?_
    refine lv_iadd hx hb dX4_alter_20 ?_
    refine lv_aload_n hx hb dX4_alter_21 rfl (lv_at hl 0 rfl) ?_
    refine hr_get EE hm hRs 20 (by decide) wf_X4_130 (v := .ref (ad 20)) rfl dX4_alter_22 ?_
    refine lv_bipush (v := 8) hx hb dX4_alter_25 (by decide) ?_
    refine lv_iload_n hx hb dX4_alter_27 rfl (lv_at hl 1 rfl) ?_
    refine lv_imul hx hb dX4_alter_28 ?_
    refine lv_iload_n hx hb dX4_alter_29 rfl (lv_at hl 2 rfl) ?_
    refine lv_iadd hx hb dX4_alter_30 ?_
    refine hr_ald EE hm hRs 20 ((8 * i) + j) (by decide) (add_n (mul_n rfl hie) hje) (by show (8 * i) + j < 128; omega) (by decide) dX4_alter_31 ?_
    refine lv_iload_n hx hb dX4_alter_32 rfl (lv_at hl 3 rfl) ?_
    refine lv_ixor hx hb dX4_alter_33 ?_
    refine hr_ast EE hm hS hRs hF 20 ((8 * i) + j) (by decide) (add_n (mul_n rfl hie) hje) (by show (8 * i) + j < 128; omega) (by decide) dX4_alter_34 (fun H locs Mx4 hm hS hRs hF => ?_)
    obtain ⟨Sx5, hSx5⟩ : ∃ z, z = sU S 20 ((8 * i) + j) ((S 20 ((8 * i) + j)) ^^^ x0) := ⟨_, rfl⟩
    rw [← hSx5] at hRs
    refine lv_iconst (v := 1) hx hb dX4_alter_35 (by decide) ?_
    exact ret dX4_alter_36 na_i hm hS (Nat.le_of_ble_eq_true rfl) (Nat.le_of_ble_eq_true rfl) (⟨by unfold sAlter; rw [c_60]; rfl, by unfold sAlter; rw [c_60, if_pos rfl, hie, hje, nI_clamp (by omega), nI_clamp (by omega)]; exact ⟨Sx5, V, hw.re hRs (fun k hk => by rw [hSx5, sU_o (by omega)]) rfl rfl hv19 hv21 hv22 hv23 hpl hpk (fun a ha b hb9 => by
      rw [hSx5, sU_s]
      unfold sb1
      by_cases t : a = i ∧ b = j
      · rw [t.1, t.2, pk_us, if_pos ⟨rfl, rfl⟩, hsb i hi j hj]
      · rw [pk_un (by omega), if_neg t]; exact hsb a ha b hb9), hF⟩⟩)
  · have c_6 := bI_f c_6
    refine lv_iconst (v := (-1)) hx hb dX4_alter_9 (by decide) ?_
    exact ret dX4_alter_10 na_i hm hS (Nat.le_of_ble_eq_true rfl) (Nat.le_of_ble_eq_true rfl) (⟨by unfold sAlter; rw [c_6]; rfl, by unfold sAlter; rw [c_6]; exact RP.rf hw⟩)
theorem sshr_n {k n : Nat} (hk : k < 2 ^ 31) (hn : n < 32) : nI k >>> (nI n &&& 31) = nI (k / 2 ^ n) := by
  have : ∀ n, n < 32 → ((nI n &&& 31).toBitVec.smod 32).toNat = n := by decide +kernel
  exact pk_shrN hk (nI n &&& 31) n (this n hn)
theorem div_eq_alk {a b n : Nat} (ha : a < 65536) (hb : b < 65536) (h1 : a / 2 ^ (n + 1) = b / 2 ^ (n + 1)) : (a / 2 ^ n = b / 2 ^ n ↔ a.testBit n = b.testBit n) := by
  constructor
  · intro h
    rw [Nat.testBit_eq_decide_div_mod_eq, Nat.testBit_eq_decide_div_mod_eq, h]
  · intro h
    have := shr_bit (a := a) (b := b) (n := n) (by rw [Nat.shiftRight_eq_div_pow, Nat.shiftRight_eq_div_pow]; exact h1) h
    rw [Nat.shiftRight_eq_div_pow, Nat.shiftRight_eq_div_pow] at this
    exact this
set_option maxHeartbeats 4000000 in
set_option maxRecDepth 100000 in
theorem c_X4_bitsAlike (l : Launch) (g : hG) (M : hM) (a b : Nat) (ha : a < 65536) (hb0 : b < 65536) : Ci l g yX4_bitsAlike cX4_bitsAlike 3 .int 1 0 0 [.int (nI a), .int (nI b)] M (fun r M9 => r = nI (alk 16 a b) ∧ M9 = M) := by
  refine hp_startI (by decide) (by exact Nat.le_of_ble_eq_true rfl) ?_
  intro p e s m below meth c Q H locs ls EE hnm ret hm hS hl
  have hx := EE.1
  have hb := EE.2.1
  have hown := EE.2.2.2.1
  have hts := EE.2.2.2.2.1
  have hl : lv_has ls 3 [(0, .int (nI a)), (1, .int (nI b))] := hl
  refine lv_iconst (v := 0) hx hb dX4_bitsAlike_0 (by decide) ?_
  refine lv_istore_n (lv' := [(2, .int 0), (0, .int (nI a)), (1, .int (nI b))]) hx hb dX4_bitsAlike_1 rfl hl (by decide) rfl (fun ls hl => ?_)
  have lp : ∀ (n d : Nat) (nn : Nat) (H : Heap) (locs : List Loc) (ls : Array Slot), 17 ≤ d + n → d + nn = 16 → a / 2 ^ nn = b / 2 ^ nn → d + alk nn a b = alk 16 a b → hp g M H → va_S (hA g) s.heap H locs → lv_has ls 3 [(2, .int (nI d)), (0, .int (nI a)), (1, .int (nI b))] → W p l e (hR 1 0 0) s m [.int (nI a), .int (nI b)].toArray below meth c H locs 0 0 Q (F0 m 2 ls []) := by
    intro n
    induction n with
    | zero => intro d nn H locs ls hn hd hpre hen; exact absurd hn (by omega)
    | succ n ih =>
      intro d nn H locs ls hn hd hpre hen hm hS hl
      refine lv_iload_n hx hb dX4_bitsAlike_2 rfl (lv_at hl 0 rfl) ?_
      refine lv_bipush (v := 16) hx hb dX4_bitsAlike_3 (by decide) ?_
      refine lv_icmp_ge (tgt := 29) hx hb dX4_bitsAlike_5 (by decide) (fun c_5 => ?_) (fun c_5 => ?_)
      · have c_5 : 16 ≤ d := (leN (a := 16) (b := d) rfl rfl (by decide) (by omega)).mp c_5
        have hn0 : nn = 0 := by omega
        subst hn0
        refine lv_iload_n hx hb dX4_bitsAlike_29 rfl (lv_at hl 0 rfl) ?_
        exact ret dX4_bitsAlike_30 na_i hm hS (Nat.le_of_ble_eq_true rfl) (Nat.le_of_ble_eq_true rfl) (⟨by rw [← hen]; rfl, rfl⟩)
      · have c_5 : ¬ 16 ≤ d := fun h9 => c_5 ((leN (a := 16) (b := d) rfl rfl (by decide) (by omega)).mpr h9)
        obtain ⟨n1, hn1⟩ : ∃ n1, nn = n1 + 1 := ⟨nn - 1, by omega⟩
        subst hn1
        have hs15 : (15 : Int32) - nI d = nI n1 := by have := sub_n (x := 15) (y := nI d) (a := 15) (b := d) rfl rfl (by omega); rw [this, show 15 - d = n1 by omega]
        have hqa : nI a >>> (((15 : Int32) - nI d) &&& 31) = nI (a / 2 ^ n1) := by rw [hs15]; exact sshr_n (by omega) (by omega)
        have hqb : nI b >>> (((15 : Int32) - nI d) &&& 31) = nI (b / 2 ^ n1) := by rw [hs15]; exact sshr_n (by omega) (by omega)
        have hla : a / 2 ^ n1 ≤ a := Nat.div_le_self _ _
        have hlb : b / 2 ^ n1 ≤ b := Nat.div_le_self _ _
        refine lv_iload_n hx hb dX4_bitsAlike_8 rfl (lv_at hl 1 rfl) ?_
        refine lv_bipush (v := 15) hx hb dX4_bitsAlike_9 (by decide) ?_
        refine lv_iload_n hx hb dX4_bitsAlike_11 rfl (lv_at hl 0 rfl) ?_
        refine lv_isub hx hb dX4_bitsAlike_12 ?_
        refine lv_ishr hx hb dX4_bitsAlike_13 ?_
        refine lv_iload_n hx hb dX4_bitsAlike_14 rfl (lv_at hl 2 rfl) ?_
        refine lv_bipush (v := 15) hx hb dX4_bitsAlike_15 (by decide) ?_
        refine lv_iload_n hx hb dX4_bitsAlike_17 rfl (lv_at hl 0 rfl) ?_
        refine lv_isub hx hb dX4_bitsAlike_18 ?_
        refine lv_ishr hx hb dX4_bitsAlike_19 ?_
        refine lv_icmp_ne (tgt := 29) hx hb dX4_bitsAlike_20 (by decide) (fun c_20 => ?_) (fun c_20 => ?_)
        · rw [hqa, hqb] at c_20
          have c_20 : ¬ a / 2 ^ n1 = b / 2 ^ n1 := fun q => c_20 (by rw [q])
          refine lv_iload_n hx hb dX4_bitsAlike_29 rfl (lv_at hl 0 rfl) ?_
          exact ret dX4_bitsAlike_30 na_i hm hS (Nat.le_of_ble_eq_true rfl) (Nat.le_of_ble_eq_true rfl) (⟨by rw [← hen]; show _ = nI (d + (if a.testBit n1 = b.testBit n1 then alk n1 a b + 1 else 0)); rw [if_neg (fun q => c_20 ((div_eq_alk ha hb0 hpre).mpr q))]; rfl, rfl⟩)
        · rw [hqa, hqb] at c_20
          have c_20 : a / 2 ^ n1 = b / 2 ^ n1 := (nI_eq (by omega) (by omega)).mp c_20
          refine lv_iinc (v := nI (d + 1)) (lv' := [(2, .int (nI (d + 1))), (0, .int (nI a)), (1, .int (nI b))]) hx hb dX4_bitsAlike_23 hl (k := 0) rfl (inc_n rfl) (by decide) rfl (fun ls hl => ?_)
          refine lv_goto (tgt := 2) hx hb dX4_bitsAlike_26 (by decide) ?_
          exact ih (d + 1) n1 H locs ls (by omega) (by omega) c_20 (by rw [← hen]; show d + 1 + alk n1 a b = d + (if a.testBit n1 = b.testBit n1 then alk n1 a b + 1 else 0); rw [if_pos ((div_eq_alk ha hb0 hpre).mp c_20)]; omega) hm hS (lv_sub hl [0, 1, 2] rfl)
  exact lp 17 0 16 H locs ls (by omega) (by omega) (by omega) (Nat.zero_add _) hm hS (lv_sub hl [0, 1, 2] rfl)
set_option maxHeartbeats 4000000 in
set_option maxRecDepth 100000 in
theorem c_X4_alike (l : Launch) (g : hG) (M : hM) (y : Nat) (a0 b0 : Int32) : Ci l g yX4_alike cX4_alike 3 .int 3 0 0 [.ref y, .int a0, .int b0] M (fun r M9 => r = rAlike a0 b0 ∧ M9 = M) := by
  refine hp_startI (by decide) (by exact Nat.le_of_ble_eq_true rfl) ?_
  intro p e s m below meth c Q H locs ls EE hnm ret hm hS hl
  have hx := EE.1
  have hb := EE.2.1
  have hown := EE.2.2.2.1
  have hts := EE.2.2.2.2.1
  have hl : lv_has ls 3 [(0, .ref y), (1, .int a0), (2, .int b0)] := hl
  refine lv_iload_n hx hb dX4_alike_0 rfl (lv_at hl 1 rfl) ?_
  refine hp_ci (hp_runS (np := 1) (k := 1) (mc := 0) (ms := 0) (As := [.int a0]) (rest := []) EE hm hS (c_X4_isKey l g M a0) ms_X4_isKey wt_X4_isKey wl_X4_182 rfl hl.1 rfl (Nat.le_of_ble_eq_true rfl) dX4_alike_1 ⟨Nat.le_of_ble_eq_true rfl, Nat.le_of_ble_eq_true rfl⟩ ⟨(Nat.le_of_ble_eq_true rfl), (Nat.le_of_ble_eq_true rfl)⟩) hS (fun r1 Mx2 H locs hq3 hm hS => ?_)
  obtain ⟨rfl, h9⟩ := hq3
  rw [h9] at hm
  refine lv_if_eq (tgt := 22) hx hb dX4_alike_4 (by decide) (fun c_4 => ?_) (fun c_4 => ?_)
  · have c_4 := bI_f c_4
    refine lv_iconst (v := (-1)) hx hb dX4_alike_22 (by decide) ?_
    exact ret dX4_alike_23 na_i hm hS (Nat.le_of_ble_eq_true rfl) (Nat.le_of_ble_eq_true rfl) (⟨by unfold rAlike; first | (rw [c_4]; rfl) | (rw [c_4, c_11]; rfl), rfl⟩)
  · have c_4 := bI_t c_4
    refine lv_iload_n hx hb dX4_alike_7 rfl (lv_at hl 2 rfl) ?_
    refine hp_ci (hp_runS (np := 1) (k := 1) (mc := 0) (ms := 0) (As := [.int b0]) (rest := []) EE hm hS (c_X4_isKey l g M b0) ms_X4_isKey wt_X4_isKey wl_X4_182 rfl hl.1 rfl (Nat.le_of_ble_eq_true rfl) dX4_alike_8 ⟨Nat.le_of_ble_eq_true rfl, Nat.le_of_ble_eq_true rfl⟩ ⟨(Nat.le_of_ble_eq_true rfl), (Nat.le_of_ble_eq_true rfl)⟩) hS (fun r4 Mx5 H locs hq6 hm hS => ?_)
    obtain ⟨rfl, h9⟩ := hq6
    rw [h9] at hm
    refine lv_if_eq (tgt := 22) hx hb dX4_alike_11 (by decide) (fun c_11 => ?_) (fun c_11 => ?_)
    · have c_11 := bI_f c_11
      refine lv_iconst (v := (-1)) hx hb dX4_alike_22 (by decide) ?_
      exact ret dX4_alike_23 na_i hm hS (Nat.le_of_ble_eq_true rfl) (Nat.le_of_ble_eq_true rfl) (⟨by unfold rAlike; first | (rw [c_4]; rfl) | (rw [c_4, c_11]; rfl), rfl⟩)
    · have c_11 := bI_t c_11
      obtain ⟨a, ha, hae⟩ := isK_nat c_4
      obtain ⟨b, hb0, hbe⟩ := isK_nat c_11
      subst hae
      subst hbe
      refine lv_iload_n hx hb dX4_alike_14 rfl (lv_at hl 1 rfl) ?_
      refine lv_iload_n hx hb dX4_alike_15 rfl (lv_at hl 2 rfl) ?_
      refine hp_ci (hp_runS (np := 2) (k := 1) (mc := 0) (ms := 0) (As := [.int (nI a), .int (nI b)]) (rest := []) EE hm hS (c_X4_bitsAlike l g M a b ha hb0) ms_X4_bitsAlike wt_X4_bitsAlike wl_X4_224 rfl hl.1 rfl (Nat.le_of_ble_eq_true rfl) dX4_alike_16 ⟨Nat.le_of_ble_eq_true rfl, Nat.le_of_ble_eq_true rfl⟩ ⟨(Nat.le_of_ble_eq_true rfl), (Nat.le_of_ble_eq_true rfl)⟩) hS (fun r7 Mx8 H locs hq9 hm hS => ?_)
      obtain ⟨rfl, h9⟩ := hq9
      rw [h9] at hm
      refine lv_goto (tgt := 23) hx hb dX4_alike_19 (by decide) ?_
      exact ret dX4_alike_23 na_i hm hS (Nat.le_of_ble_eq_true rfl) (Nat.le_of_ble_eq_true rfl) (⟨by unfold rAlike; rw [c_4, c_11, nI_clamp (by omega), nI_clamp (by omega)]; rfl, rfl⟩)
/-- where a key stands, or would stand -/
def fnd (E : En) (k i : Nat) : Prop := i ≤ E.length ∧ (∀ j (h : j < E.length), j < i → (E[j]).1 < k) ∧ ∀ (h : i < E.length), k ≤ (E[i]).1
set_option maxHeartbeats 4000000 in
set_option maxRecDepth 100000 in
theorem c_X4_find (l : Launch) (g : hG) (M : hM) (y : Nat) (ad : Nat → Nat) (S : Nat → Nat → Int32) (V : Nat → Int32) (r0 : Nat) (hr0 : r0 < 61) (E : En) (hg : gE E) (hrow : rowE S r0 E) (hRs : RS g M y ad S V) (kn : Nat) (hkn : kn < 65536) : Ci l g yX4_find cX4_find 4 .int 1 0 0 [.ref y, .int (nI r0), .int (nI kn)] M (fun r M9 => (∃ i, r = nI i ∧ fnd E kn i) ∧ M9 = M) := by
  refine hp_startI (by decide) (by exact Nat.le_of_ble_eq_true rfl) ?_
  intro p e s m below meth c Q H locs ls EE hnm ret hm hS hl
  have hx := EE.1
  have hb := EE.2.1
  have hown := EE.2.2.2.1
  have hts := EE.2.2.2.2.1
  have hl : lv_has ls 4 [(0, .ref y), (1, .int (nI r0)), (2, .int (nI kn))] := hl
  have hF : ∀ q, ¬ rO y ad q → M q = M q := fun _ _ => rfl
  have hgl := hg.2.1
  refine lv_iconst (v := 0) hx hb dX4_find_0 (by decide) ?_
  refine lv_istore_n (lv' := [(3, .int 0), (0, .ref y), (1, .int (nI r0)), (2, .int (nI kn))]) hx hb dX4_find_1 rfl hl (by decide) rfl (fun ls hl => ?_)
  have lp : ∀ (n i : Nat)  (H : Heap) (locs : List Loc) (ls : Array Slot), E.length + 1 ≤ i + n → i ≤ E.length → (∀ j (h : j < E.length), j < i → (E[j]).1 < kn) → hp g M H → va_S (hA g) s.heap H locs → lv_has ls 4 [(3, .int (nI i)), (0, .ref y), (1, .int (nI r0)), (2, .int (nI kn))] → W p l e (hR 1 0 0) s m [.ref y, .int (nI r0), .int (nI kn)].toArray below meth c H locs 0 0 Q (F0 m 2 ls []) := by
    intro n
    induction n with
    | zero => intro i  H locs ls hn hi hlo; exact absurd hn (by omega)
    | succ n ih =>
      intro i  H locs ls hn hi hlo hm hS hl
      refine lv_iload_n hx hb dX4_find_2 rfl (lv_at hl 0 rfl) ?_
      refine lv_aload_n hx hb dX4_find_3 rfl (lv_at hl 1 rfl) ?_
      refine hr_get EE hm hRs 4 (by decide) wf_X4_94 (v := .ref (ad 4)) rfl dX4_find_4 ?_
      refine lv_iload_n hx hb dX4_find_7 rfl (lv_at hl 2 rfl) ?_
      refine hr_ald EE hm hRs 4 r0 (by decide) rfl (by show r0 < 61; omega) (by decide) dX4_find_8 ?_
      refine lv_icmp_ge (tgt := 34) hx hb dX4_find_9 (by decide) (fun c_9 => ?_) (fun c_9 => ?_)
      · have c_9 : E.length ≤ i := (leN (a := E.length) (b := i) hrow.1 rfl (by omega) (by omega)).mp c_9
        refine lv_iload_n hx hb dX4_find_34 rfl (lv_at hl 0 rfl) ?_
        exact ret dX4_find_35 na_i hm hS (Nat.le_of_ble_eq_true rfl) (Nat.le_of_ble_eq_true rfl) (⟨⟨i, rfl, hi, hlo, fun h => absurd h (by omega)⟩, rfl⟩)
      · have c_9 : ¬ E.length ≤ i := fun h9 => c_9 ((leN (a := E.length) (b := i) hrow.1 rfl (by omega) (by omega)).mpr h9)
        have hlt : i < E.length := Nat.not_le.mp c_9
        have hky := (hrow.2 i hlt).1
        have hkb := hg.2.2 _ (List.getElem_mem hlt)
        refine lv_aload_n hx hb dX4_find_12 rfl (lv_at hl 1 rfl) ?_
        refine hr_get EE hm hRs 2 (by decide) wf_X4_88 (v := .ref (ad 2)) rfl dX4_find_13 ?_
        refine lv_sipush (v := 300) hx hb dX4_find_16 (by decide) ?_
        refine lv_iload_n hx hb dX4_find_19 rfl (lv_at hl 2 rfl) ?_
        refine lv_imul hx hb dX4_find_20 ?_
        refine lv_iload_n hx hb dX4_find_21 rfl (lv_at hl 0 rfl) ?_
        refine lv_iadd hx hb dX4_find_22 ?_
        refine hr_ald EE hm hRs 2 ((300 * r0) + i) (by decide) (add_n (mul_n rfl rfl) rfl) (by show (300 * r0) + i < 18300; omega) (by decide) dX4_find_23 ?_
        refine lv_iload_n hx hb dX4_find_24 rfl (lv_at hl 3 rfl) ?_
        refine lv_icmp_ge (tgt := 34) hx hb dX4_find_25 (by decide) (fun c_25 => ?_) (fun c_25 => ?_)
        · have c_25 : kn ≤ ((E[i]).1) := (leN (a := kn) (b := (E[i]).1) rfl hky (by omega) (by omega)).mp c_25
          refine lv_iload_n hx hb dX4_find_34 rfl (lv_at hl 0 rfl) ?_
          exact ret dX4_find_35 na_i hm hS (Nat.le_of_ble_eq_true rfl) (Nat.le_of_ble_eq_true rfl) (⟨⟨i, rfl, hi, hlo, fun _ => c_25⟩, rfl⟩)
        · have c_25 : ¬ kn ≤ ((E[i]).1) := fun h9 => c_25 ((leN (a := kn) (b := (E[i]).1) rfl hky (by omega) (by omega)).mpr h9)
          refine lv_iinc (v := nI (i + 1)) (lv' := [(3, .int (nI (i + 1))), (0, .ref y), (1, .int (nI r0)), (2, .int (nI kn))]) hx hb dX4_find_28 hl (k := 0) rfl (inc_n rfl) (by decide) rfl (fun ls hl => ?_)
          refine lv_goto (tgt := 2) hx hb dX4_find_31 (by decide) ?_
          exact ih (i + 1) H locs ls (by omega) (by omega) (fun j hj h => by
            rcases Nat.lt_or_eq_of_le (Nat.le_of_lt_succ h) with q | q
            · exact hlo j hj q
            · subst q; exact Nat.not_le.mp c_25) hm hS (lv_sub hl [0, 1, 2, 3] rfl)
  exact lp (E.length + 1) 0 H locs ls (by omega) (by omega) (fun j _ hj => absurd hj (Nat.not_lt_zero j)) hm hS (lv_sub hl [0, 1, 2, 3] rfl)
theorem fnd_has {E : En} {k i : Nat} (hs : srt E) (h : fnd E k i) : hasE E k = (match E[i]? with
  | some x => x.1 == k
  | none => false) := by
  obtain ⟨h1, h2, h3⟩ := h
  have key : hasE E k = true ↔ ∃ x ∈ E, x.1 = k := by
    unfold hasE lkE
    rw [Option.isSome_map, List.find?_isSome]
    simp
  cases hq : E[i]? with
  | none =>
    show hasE E k = false
    cases hb : hasE E k with
    | false => rfl
    | true =>
      obtain ⟨x, hx, hk⟩ := key.mp hb
      obtain ⟨j, hj, hjx⟩ := List.mem_iff_getElem.mp hx
      have hi : E.length ≤ i := by
        rcases Nat.lt_or_ge i E.length with q | q
        · rw [List.getElem?_eq_getElem q] at hq; cases hq
        · exact q
      have := h2 j hj (by omega)
      rw [hjx, hk] at this
      omega
  | some x =>
    obtain ⟨hi, hx⟩ := List.getElem?_eq_some_iff.mp hq
    show hasE E k = (x.1 == k)
    cases hb : (x.1 == k) with
    | true => exact key.mpr ⟨x, by rw [← hx]; exact List.getElem_mem hi, by simpa using hb⟩
    | false =>
      cases hc : hasE E k with
      | false => rfl
      | true =>
        exfalso
        obtain ⟨y, hy, hk⟩ := key.mp hc
        obtain ⟨j, hj, hjy⟩ := List.mem_iff_getElem.mp hy
        have hle := h3 hi
        have hne : x.1 ≠ k := by simpa using hb
        rw [hx] at hle
        rcases Nat.lt_trichotomy j i with q | q | q
        · have := h2 j hj q; rw [hjy, hk] at this; omega
        · subst q; rw [hx] at hjy; rw [hjy] at hne; exact hne hk
        · have := List.pairwise_iff_getElem.mp hs i j hi hj q
          rw [hx, hjy, hk] at this
          omega
set_option maxHeartbeats 4000000 in
set_option maxRecDepth 100000 in
theorem c_X4_isThere (l : Launch) (g : hG) (M : hM) (y : Nat) (ad : Nat → Nat) (S : Nat → Nat → Int32) (V : Nat → Int32) (r0 : Nat) (hr0 : r0 < 61) (E : En) (hg : gE E) (hrow : rowE S r0 E) (hRs : RS g M y ad S V) (kn : Nat) (hkn : kn < 65536) (i : Nat) (hfn : fnd E kn i) : Ci l g yX4_isThere cX4_isThere 4 .boolean 1 0 0 [.ref y, .int (nI r0), .int (nI i), .int (nI kn)] M (fun r M9 => r = bI (hasE E kn) ∧ M9 = M) := by
  have hil := hfn.1
  refine hp_startI (by decide) (by exact Nat.le_of_ble_eq_true rfl) ?_
  intro p e s m below meth c Q H locs ls EE hnm ret hm hS hl
  have hx := EE.1
  have hb := EE.2.1
  have hown := EE.2.2.2.1
  have hts := EE.2.2.2.2.1
  have hl : lv_has ls 4 [(0, .ref y), (1, .int (nI r0)), (2, .int (nI i)), (3, .int (nI kn))] := hl
  have hF : ∀ q, ¬ rO y ad q → M q = M q := fun _ _ => rfl
  have hgl := hg.2.1
  refine lv_iload_n hx hb dX4_isThere_0 rfl (lv_at hl 2 rfl) ?_
  refine lv_aload_n hx hb dX4_isThere_1 rfl (lv_at hl 0 rfl) ?_
  refine hr_get EE hm hRs 4 (by decide) wf_X4_94 (v := .ref (ad 4)) rfl dX4_isThere_2 ?_
  refine lv_iload_n hx hb dX4_isThere_5 rfl (lv_at hl 1 rfl) ?_
  refine hr_ald EE hm hRs 4 r0 (by decide) rfl (by show r0 < 61; omega) (by decide) dX4_isThere_6 ?_
  refine lv_icmp_ge (tgt := 30) hx hb dX4_isThere_7 (by decide) (fun c_7 => ?_) (fun c_7 => ?_)
  · have c_7 : E.length ≤ i := (leN (a := E.length) (b := i) hrow.1 rfl (by omega) (by omega)).mp c_7
    refine lv_iconst (v := 0) hx hb dX4_isThere_30 (by decide) ?_
    exact ret dX4_isThere_31 na_0 hm hS (Nat.le_of_ble_eq_true rfl) (Nat.le_of_ble_eq_true rfl) (⟨by
      rw [fnd_has hg.1 hfn]
      first
      | (rw [List.getElem?_eq_none (by omega)]; rfl)
      | (rw [List.getElem?_eq_getElem hlt]; show _ = bI ((E[i]).1 == kn); first | (rw [show ((E[i]).1 == kn) = true by simpa using c_23]; rfl) | (rw [show ((E[i]).1 == kn) = false by simpa using c_23]; rfl)), rfl⟩)
  · have c_7 : ¬ E.length ≤ i := fun h9 => c_7 ((leN (a := E.length) (b := i) hrow.1 rfl (by omega) (by omega)).mpr h9)
    have hlt : i < E.length := Nat.not_le.mp c_7
    have hky := (hrow.2 i hlt).1
    have hkb := hg.2.2 _ (List.getElem_mem hlt)
    refine lv_aload_n hx hb dX4_isThere_10 rfl (lv_at hl 0 rfl) ?_
    refine hr_get EE hm hRs 2 (by decide) wf_X4_88 (v := .ref (ad 2)) rfl dX4_isThere_11 ?_
    refine lv_sipush (v := 300) hx hb dX4_isThere_14 (by decide) ?_
    refine lv_iload_n hx hb dX4_isThere_17 rfl (lv_at hl 1 rfl) ?_
    refine lv_imul hx hb dX4_isThere_18 ?_
    refine lv_iload_n hx hb dX4_isThere_19 rfl (lv_at hl 2 rfl) ?_
    refine lv_iadd hx hb dX4_isThere_20 ?_
    refine hr_ald EE hm hRs 2 ((300 * r0) + i) (by decide) (add_n (mul_n rfl rfl) rfl) (by show (300 * r0) + i < 18300; omega) (by decide) dX4_isThere_21 ?_
    refine lv_iload_n hx hb dX4_isThere_22 rfl (lv_at hl 3 rfl) ?_
    refine lv_icmp_ne (tgt := 30) hx hb dX4_isThere_23 (by decide) (fun c_23 => ?_) (fun c_23 => ?_)
    · have c_23 : ¬ ((E[i]).1) = kn := fun h9 => c_23 ((eqN (a := (E[i]).1) (b := kn) hky rfl (by omega) (by omega)).mpr h9)
      refine lv_iconst (v := 0) hx hb dX4_isThere_30 (by decide) ?_
      exact ret dX4_isThere_31 na_0 hm hS (Nat.le_of_ble_eq_true rfl) (Nat.le_of_ble_eq_true rfl) (⟨by
        rw [fnd_has hg.1 hfn]
        first
        | (rw [List.getElem?_eq_none (by omega)]; rfl)
        | (rw [List.getElem?_eq_getElem hlt]; show _ = bI ((E[i]).1 == kn); first | (rw [show ((E[i]).1 == kn) = true by simpa using c_23]; rfl) | (rw [show ((E[i]).1 == kn) = false by simpa using c_23]; rfl)), rfl⟩)
    · have c_23 : ((E[i]).1) = kn := (eqN (a := (E[i]).1) (b := kn) hky rfl (by omega) (by omega)).mp c_23
      refine lv_iconst (v := 1) hx hb dX4_isThere_26 (by decide) ?_
      refine lv_goto (tgt := 31) hx hb dX4_isThere_27 (by decide) ?_
      exact ret dX4_isThere_31 na_1 hm hS (Nat.le_of_ble_eq_true rfl) (Nat.le_of_ble_eq_true rfl) (⟨by
        rw [fnd_has hg.1 hfn]
        first
        | (rw [List.getElem?_eq_none (by omega)]; rfl)
        | (rw [List.getElem?_eq_getElem hlt]; show _ = bI ((E[i]).1 == kn); first | (rw [show ((E[i]).1 == kn) = true by simpa using c_23]; rfl) | (rw [show ((E[i]).1 == kn) = false by simpa using c_23]; rfl)), rfl⟩)
