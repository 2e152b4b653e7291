theorem add_n {x y : Int32} {a b : Nat} (h : x = nI a) (h2 : y = nI b) : x + y = nI (a + b) := by rw [h, h2]; exact nI_add a b
theorem mul_n {x y : Int32} {a b : Nat} (h : x = nI a) (h2 : y = nI b) : x * y = nI (a * b) := by rw [h, h2]; exact pk_mul a b
theorem sub_n {x y : Int32} {a b : Nat} (h : x = nI a) (h2 : y = nI b) (hb : b ≤ a) : x - y = nI (a - b) := by rw [h, h2]; exact pk_sub hb
theorem inc_n {x : Int32} {a : Nat} (h : x = nI a) : x + 1 = nI (a + 1) := by rw [h]; exact nI_1 a
theorem leN {x y : Int32} {a b : Nat} (h : x = nI a) (h2 : y = nI b) (ha : a < 2 ^ 31) (hb : b < 2 ^ 31) : x ≤ y ↔ a ≤ b := by rw [h, h2]; exact nI_leI ha hb
theorem ltN {x y : Int32} {a b : Nat} (h : x = nI a) (h2 : y = nI b) (ha : a < 2 ^ 31) (hb : b < 2 ^ 31) : x < y ↔ a < b := by rw [h, h2]; exact nI_ltI ha hb
theorem eqN {x y : Int32} {a b : Nat} (h : x = nI a) (h2 : y = nI b) (ha : a < 2 ^ 31) (hb : b < 2 ^ 31) : x = y ↔ a = b := by rw [h, h2]; exact nI_eq ha hb
set_option maxHeartbeats 4000000 in
set_option maxRecDepth 100000 in
theorem c_X4_isVersion (l : Launch) (g : hG) (M : hM) (y : Nat) (ad : Nat → Nat) (S : Nat → Nat → Int32) (V : Nat → Int32) (σ : cSt) (hw : RW g M y ad S V σ) (v0 : Int32) : Ci l g yX4_isVersion cX4_isVersion 2 .boolean 1 0 0 [.ref y, .int v0] M (fun r M9 => r = bI (isV σ v0) ∧ M9 = M) := by
  obtain ⟨hRs, ⟨hkc, hvg, hgn, hpl, hpk⟩, hk0, hk1, hv6, hrows, hnow, hdv, ⟨kw, hv7, hdn⟩, hv19, hv21, hv22, hv23, hsb⟩ := id hw
  refine hp_startI (by decide) (by exact Nat.le_of_ble_eq_true rfl) ?_
  intro p e s m below meth c Q H locs ls EE hnm ret hm hS hl
  have hx := EE.1
  have hb := EE.2.1
  have hown := EE.2.2.2.1
  have hts := EE.2.2.2.2.1
  have hl : lv_has ls 2 [(0, .ref y), (1, .int v0)] := hl
  have hF : ∀ q, ¬ rO y ad q → M q = M q := fun _ _ => rfl
  refine lv_iload_n hx hb dX4_isVersion_0 rfl (lv_at hl 1 rfl) ?_
  refine lv_iconst (v := (-1)) hx hb dX4_isVersion_1 (by decide) ?_
  refine lv_icmp_lt (tgt := 17) hx hb dX4_isVersion_2 (by decide) (fun c_2 => ?_) (fun c_2 => ?_)
  · refine lv_iconst (v := 0) hx hb dX4_isVersion_17 (by decide) ?_
    exact ret dX4_isVersion_18 na_0 hm hS (Nat.le_of_ble_eq_true rfl) (Nat.le_of_ble_eq_true rfl) (⟨by first | (rw [isV_a c_2]; rfl) | (rw [hv6] at c_10; first | (rw [isV_b c_10]; rfl) | (rw [isV_c c_2 c_10]; rfl)), rfl⟩)
  · refine lv_iload_n hx hb dX4_isVersion_5 rfl (lv_at hl 1 rfl) ?_
    refine lv_aload_n hx hb dX4_isVersion_6 rfl (lv_at hl 0 rfl) ?_
    refine hr_get EE hm hRs 6 (by decide) wf_X4_134 (v := .int (V 6)) rfl dX4_isVersion_7 ?_
    refine lv_icmp_ge (tgt := 17) hx hb dX4_isVersion_10 (by decide) (fun c_10 => ?_) (fun c_10 => ?_)
    · refine lv_iconst (v := 0) hx hb dX4_isVersion_17 (by decide) ?_
      exact ret dX4_isVersion_18 na_0 hm hS (Nat.le_of_ble_eq_true rfl) (Nat.le_of_ble_eq_true rfl) (⟨by first | (rw [isV_a c_2]; rfl) | (rw [hv6] at c_10; first | (rw [isV_b c_10]; rfl) | (rw [isV_c c_2 c_10]; rfl)), rfl⟩)
    · refine lv_iconst (v := 1) hx hb dX4_isVersion_13 (by decide) ?_
      refine lv_goto (tgt := 18) hx hb dX4_isVersion_14 (by decide) ?_
      exact ret dX4_isVersion_18 na_1 hm hS (Nat.le_of_ble_eq_true rfl) (Nat.le_of_ble_eq_true rfl) (⟨by first | (rw [isV_a c_2]; rfl) | (rw [hv6] at c_10; first | (rw [isV_b c_10]; rfl) | (rw [isV_c c_2 c_10]; rfl)), rfl⟩)
set_option maxHeartbeats 4000000 in
set_option maxRecDepth 100000 in
theorem c_X4_siblings (l : Launch) (g : hG) (M : hM) (y : Nat) (ad : Nat → Nat) (S : Nat → Nat → Int32) (V : Nat → Int32) (σ : cSt) (hw : RW g M y ad S V σ) : Ci l g yX4_siblings cX4_siblings 1 .int 1 0 0 [.ref y] M (fun r M9 => r = nI (sPl σ) ∧ M9 = M) := by
  obtain ⟨hRs, ⟨hkc, hvg, hgn, hpl, hpk⟩, hk0, hk1, hv6, hrows, hnow, hdv, ⟨kw, hv7, hdn⟩, hv19, hv21, hv22, hv23, hsb⟩ := id hw
  refine hp_startI (by decide) (by exact Nat.le_of_ble_eq_true rfl) ?_
  intro p e s m below meth c Q H locs ls EE hnm ret hm hS hl
  have hx := EE.1
  have hb := EE.2.1
  have hown := EE.2.2.2.1
  have hts := EE.2.2.2.2.1
  have hl : lv_has ls 1 [(0, .ref y)] := hl
  have hF : ∀ q, ¬ rO y ad q → M q = M q := fun _ _ => rfl
  refine lv_aload_n hx hb dX4_siblings_0 rfl (lv_at hl 0 rfl) ?_
  refine hr_get EE hm hRs 19 (by decide) wf_X4_208 (v := .int (V 19)) rfl dX4_siblings_1 ?_
  exact ret dX4_siblings_4 na_i hm hS (Nat.le_of_ble_eq_true rfl) (Nat.le_of_ble_eq_true rfl) (⟨hv19, rfl⟩)
set_option maxHeartbeats 4000000 in
set_option maxRecDepth 100000 in
theorem c_X4_versions (l : Launch) (g : hG) (M : hM) (y : Nat) (ad : Nat → Nat) (S : Nat → Nat → Int32) (V : Nat → Int32) (σ : cSt) (hw : RW g M y ad S V σ) : Ci l g yX4_versions cX4_versions 1 .int 1 0 0 [.ref y] M (fun r M9 => r = nI (sKc σ) ∧ M9 = M) := by
  obtain ⟨hRs, ⟨hkc, hvg, hgn, hpl, hpk⟩, hk0, hk1, hv6, hrows, hnow, hdv, ⟨kw, hv7, hdn⟩, hv19, hv21, hv22, hv23, hsb⟩ := id hw
  refine hp_startI (by decide) (by exact Nat.le_of_ble_eq_true rfl) ?_
  intro p e s m below meth c Q H locs ls EE hnm ret hm hS hl
  have hx := EE.1
  have hb := EE.2.1
  have hown := EE.2.2.2.1
  have hts := EE.2.2.2.2.1
  have hl : lv_has ls 1 [(0, .ref y)] := hl
  have hF : ∀ q, ¬ rO y ad q → M q = M q := fun _ _ => rfl
  refine lv_aload_n hx hb dX4_versions_0 rfl (lv_at hl 0 rfl) ?_
  refine hr_get EE hm hRs 6 (by decide) wf_X4_134 (v := .int (V 6)) rfl dX4_versions_1 ?_
  exact ret dX4_versions_4 na_i hm hS (Nat.le_of_ble_eq_true rfl) (Nat.le_of_ble_eq_true rfl) (⟨hv6, rfl⟩)
theorem isSW {a b : Bool} {x : Int32} (h : x = bI a) (h2 : a = b) : x = bI b := by rw [h, h2]
set_option maxHeartbeats 4000000 in
set_option maxRecDepth 100000 in
theorem c_X4_isSibling (l : Launch) (g : hG) (M : hM) (y : Nat) (ad : Nat → Nat) (S : Nat → Nat → Int32) (V : Nat → Int32) (σ : cSt) (hw : RW g M y ad S V σ) (k0 i0 : Int32) : Ci l g yX4_isSibling cX4_isSibling 3 .boolean 1 0 0 [.ref y, .int k0, .int i0] M (fun r M9 => r = bI (isS σ k0 && isW i0) ∧ M9 = M) := by
  obtain ⟨hRs, ⟨hkc, hvg, hgn, hpl, hpk⟩, hk0, hk1, hv6, hrows, hnow, hdv, ⟨kw, hv7, hdn⟩, hv19, hv21, hv22, hv23, hsb⟩ := id hw
  refine hp_startI (by decide) (by exact Nat.le_of_ble_eq_true rfl) ?_
  intro p e s m below meth c Q H locs ls EE hnm ret hm hS hl
  have hx := EE.1
  have hb := EE.2.1
  have hown := EE.2.2.2.1
  have hts := EE.2.2.2.2.1
  have hl : lv_has ls 3 [(0, .ref y), (1, .int k0), (2, .int i0)] := hl
  have hF : ∀ q, ¬ rO y ad q → M q = M q := fun _ _ => rfl
  refine lv_iload_n hx hb dX4_isSibling_0 rfl (lv_at hl 1 rfl) ?_
  refine lv_if_lt (tgt := 26) hx hb dX4_isSibling_1 (by decide) (fun c_1 => ?_) (fun c_1 => ?_)
  · refine lv_iconst (v := 0) hx hb dX4_isSibling_26 (by decide) ?_
    exact ret dX4_isSibling_27 na_0 hm hS (Nat.le_of_ble_eq_true rfl) (Nat.le_of_ble_eq_true rfl) (⟨by first | (rw [isS_a c_1]; rfl) | (rw [hv19] at c_9; rw [isS_b c_9]; rfl) | (rw [isW_a c_13, Bool.and_false]; rfl) | (rw [isW_b c_19, Bool.and_false]; rfl) | (rw [hv19] at c_9; rw [isS_c c_1 c_9, isW_c c_13 c_19]; rfl), rfl⟩)
  · refine lv_iload_n hx hb dX4_isSibling_4 rfl (lv_at hl 1 rfl) ?_
    refine lv_aload_n hx hb dX4_isSibling_5 rfl (lv_at hl 0 rfl) ?_
    refine hr_get EE hm hRs 19 (by decide) wf_X4_208 (v := .int (V 19)) rfl dX4_isSibling_6 ?_
    refine lv_icmp_ge (tgt := 26) hx hb dX4_isSibling_9 (by decide) (fun c_9 => ?_) (fun c_9 => ?_)
    · refine lv_iconst (v := 0) hx hb dX4_isSibling_26 (by decide) ?_
      exact ret dX4_isSibling_27 na_0 hm hS (Nat.le_of_ble_eq_true rfl) (Nat.le_of_ble_eq_true rfl) (⟨by first | (rw [isS_a c_1]; rfl) | (rw [hv19] at c_9; rw [isS_b c_9]; rfl) | (rw [isW_a c_13, Bool.and_false]; rfl) | (rw [isW_b c_19, Bool.and_false]; rfl) | (rw [hv19] at c_9; rw [isS_c c_1 c_9, isW_c c_13 c_19]; rfl), rfl⟩)
    · refine lv_iload_n hx hb dX4_isSibling_12 rfl (lv_at hl 2 rfl) ?_
      refine lv_if_lt (tgt := 26) hx hb dX4_isSibling_13 (by decide) (fun c_13 => ?_) (fun c_13 => ?_)
      · refine lv_iconst (v := 0) hx hb dX4_isSibling_26 (by decide) ?_
        exact ret dX4_isSibling_27 na_0 hm hS (Nat.le_of_ble_eq_true rfl) (Nat.le_of_ble_eq_true rfl) (⟨by first | (rw [isS_a c_1]; rfl) | (rw [hv19] at c_9; rw [isS_b c_9]; rfl) | (rw [isW_a c_13, Bool.and_false]; rfl) | (rw [isW_b c_19, Bool.and_false]; rfl) | (rw [hv19] at c_9; rw [isS_c c_1 c_9, isW_c c_13 c_19]; rfl), rfl⟩)
      · refine lv_iload_n hx hb dX4_isSibling_16 rfl (lv_at hl 2 rfl) ?_
        refine lv_bipush (v := 8) hx hb dX4_isSibling_17 (by decide) ?_
        refine lv_icmp_ge (tgt := 26) hx hb dX4_isSibling_19 (by decide) (fun c_19 => ?_) (fun c_19 => ?_)
        · refine lv_iconst (v := 0) hx hb dX4_isSibling_26 (by decide) ?_
          exact ret dX4_isSibling_27 na_0 hm hS (Nat.le_of_ble_eq_true rfl) (Nat.le_of_ble_eq_true rfl) (⟨by first | (rw [isS_a c_1]; rfl) | (rw [hv19] at c_9; rw [isS_b c_9]; rfl) | (rw [isW_a c_13, Bool.and_false]; rfl) | (rw [isW_b c_19, Bool.and_false]; rfl) | (rw [hv19] at c_9; rw [isS_c c_1 c_9, isW_c c_13 c_19]; rfl), rfl⟩)
        · refine lv_iconst (v := 1) hx hb dX4_isSibling_22 (by decide) ?_
          refine lv_goto (tgt := 27) hx hb dX4_isSibling_23 (by decide) ?_
          exact ret dX4_isSibling_27 na_1 hm hS (Nat.le_of_ble_eq_true rfl) (Nat.le_of_ble_eq_true rfl) (⟨by first | (rw [isS_a c_1]; rfl) | (rw [hv19] at c_9; rw [isS_b c_9]; rfl) | (rw [isW_a c_13, Bool.and_false]; rfl) | (rw [isW_b c_19, Bool.and_false]; rfl) | (rw [hv19] at c_9; rw [isS_c c_1 c_9, isW_c c_13 c_19]; rfl), rfl⟩)
theorem rowO_nat {σ : cSt} {v : Int32} (hk : sKc σ ≤ 60) (h : isV σ v = true) : ∃ r, r < 61 ∧ rowO v = nI r ∧ ((r = 60 ∧ mapV σ v = sNow σ) ∨ (r < sKc σ ∧ mapV σ v = sVs σ r)) := by
  rcases isV_nat hk h with ⟨h1, h2⟩ | ⟨j, h1, h2, h3⟩
  · exact ⟨60, by decide, by rw [h1]; decide, Or.inl ⟨rfl, h2⟩⟩
  · refine ⟨j, by omega, ?_, Or.inr ⟨h1, h3⟩⟩
    unfold rowO
    rw [if_pos (by rw [h2]; exact nI_pos' (by omega)), h2]
theorem row_of {g : hG} {M : hM} {y : Nat} {ad : Nat → Nat} {S : Nat → Nat → Int32} {V : Nat → Int32} {σ : cSt} (hw : RW g M y ad S V σ) {r : Nat} {v : Int32} (h : (r = 60 ∧ mapV σ v = sNow σ) ∨ (r < sKc σ ∧ mapV σ v = sVs σ r)) : rowE S r (mapV σ v) := by
  obtain ⟨hR, hok, hk0, hk1, hv6, hrows, hnow, -⟩ := hw
  rcases h with ⟨h1, h2⟩ | ⟨h1, h2⟩
  · rw [h1, h2]; exact hnow
  · rw [h2]; exact hrows r h1
set_option maxHeartbeats 4000000 in
set_option maxRecDepth 100000 in
theorem c_X4_size (l : Launch) (g : hG) (M : hM) (y : Nat) (ad : Nat → Nat) (S : Nat → Nat → Int32) (V : Nat → Int32) (σ : cSt) (hw : RW g M y ad S V σ) (v0 : Int32) : Ci l g yX4_size cX4_size 2 .int 2 0 0 [.ref y, .int v0] M (fun r M9 => r = rSize σ v0 ∧ M9 = M) := by
  obtain ⟨hRs, ⟨hkc, hvg, hgn, hpl, hpk⟩, hk0, hk1, hv6, hrows, hnow, hdv, ⟨kw, hv7, hdn⟩, hv19, hv21, hv22, hv23, hsb⟩ := id hw
  refine hp_startI (by decide) (by exact Nat.le_of_ble_eq_true rfl) ?_
  intro p e s m below meth c Q H locs ls EE hnm ret hm hS hl
  have hx := EE.1
  have hb := EE.2.1
  have hown := EE.2.2.2.1
  have hts := EE.2.2.2.2.1
  have hl : lv_has ls 2 [(0, .ref y), (1, .int v0)] := hl
  have hF : ∀ q, ¬ rO y ad q → M q = M q := fun _ _ => rfl
  refine lv_aload_n hx hb dX4_size_0 rfl (lv_at hl 0 rfl) ?_
  refine lv_iload_n hx hb dX4_size_1 rfl (lv_at hl 1 rfl) ?_
  refine hp_ci (hp_runV (C := RX4) (T := TX4) (N := 24) (np := 1) (k := 1) (mc := 0) (ms := 0) (As := [.int v0]) (rest := []) EE hm hS (c_X4_isVersion l g M y ad S V σ hw v0) ms_X4_isVersion wi_X4_isVersion ws_X4_isVersion wl_X4_193 hRs.1 rfl rfl hl.1 rfl (Nat.le_of_ble_eq_true rfl) dX4_size_2 ⟨Nat.le_of_ble_eq_true rfl, Nat.le_of_ble_eq_true rfl⟩ ⟨(Nat.le_of_ble_eq_true rfl), (Nat.le_of_ble_eq_true rfl)⟩) hS (fun r1 Mx2 H locs hq3 hm hS => ?_)
  obtain ⟨rfl, h9⟩ := hq3
  rw [h9] at hm
  refine lv_if_eq (tgt := 20) hx hb dX4_size_5 (by decide) (fun c_5 => ?_) (fun c_5 => ?_)
  · have c_5 := bI_f c_5
    refine lv_iconst (v := (-1)) hx hb dX4_size_20 (by decide) ?_
    exact ret dX4_size_21 na_i hm hS (Nat.le_of_ble_eq_true rfl) (Nat.le_of_ble_eq_true rfl) (⟨by unfold rSize; rw [c_5]; rfl, rfl⟩)
  · have c_5 := bI_t c_5
    obtain ⟨r0, hr0, hro, hrc⟩ := rowO_nat hkc c_5
    have hrow := row_of hw hrc
    refine lv_aload_n hx hb dX4_size_8 rfl (lv_at hl 0 rfl) ?_
    refine hr_get EE hm hRs 4 (by decide) wf_X4_94 (v := .ref (ad 4)) rfl dX4_size_9 ?_
    refine lv_iload_n hx hb dX4_size_12 rfl (lv_at hl 1 rfl) ?_
    refine hp_ci (hp_runS (np := 1) (k := 1) (mc := 0) (ms := 0) (As := [.int v0]) (rest := [.ref (ad 4)]) EE hm hS (c_X4_rowOf l g M v0) ms_X4_rowOf wt_X4_rowOf wl_X4_198 rfl hl.1 rfl (Nat.le_of_ble_eq_true rfl) dX4_size_13 ⟨Nat.le_of_ble_eq_true rfl, Nat.le_of_ble_eq_true rfl⟩ ⟨(Nat.le_of_ble_eq_true rfl), (Nat.le_of_ble_eq_true rfl)⟩) hS (fun r4 Mx5 H locs hq6 hm hS => ?_)
    obtain ⟨rfl, h9⟩ := hq6
    rw [h9] at hm
    refine hr_ald EE hm hRs 4 r0 (by decide) hro (by show r0 < 61; omega) (by decide) dX4_size_16 ?_
    refine lv_goto (tgt := 21) hx hb dX4_size_17 (by decide) ?_
    exact ret dX4_size_21 na_i hm hS (Nat.le_of_ble_eq_true rfl) (Nat.le_of_ble_eq_true rfl) (⟨by unfold rSize; rw [c_5, hrow.1]; rfl, rfl⟩)
set_option maxHeartbeats 4000000 in
set_option maxRecDepth 100000 in
theorem c_X4_sibling (l : Launch) (g : hG) (M : hM) (y : Nat) (ad : Nat → Nat) (S : Nat → Nat → Int32) (V : Nat → Int32) (σ : cSt) (hw : RW g M y ad S V σ) (k0 i0 : Int32) : Ci l g yX4_sibling cX4_sibling 3 .int 2 0 0 [.ref y, .int k0, .int i0] M (fun r M9 => r = rSib σ k0 i0 ∧ M9 = M) := by
  obtain ⟨hRs, ⟨hkc, hvg, hgn, hpl, hpk⟩, hk0, hk1, hv6, hrows, hnow, hdv, ⟨kw, hv7, hdn⟩, hv19, hv21, hv22, hv23, hsb⟩ := id hw
  refine hp_startI (by decide) (by exact Nat.le_of_ble_eq_true rfl) ?_
  intro p e s m below meth c Q H locs ls EE hnm ret hm hS hl
  have hx := EE.1
  have hb := EE.2.1
  have hown := EE.2.2.2.1
  have hts := EE.2.2.2.2.1
  have hl : lv_has ls 3 [(0, .ref y), (1, .int k0), (2, .int i0)] := hl
  have hF : ∀ q, ¬ rO y ad q → M q = M q := fun _ _ => rfl
  refine lv_aload_n hx hb dX4_sibling_0 rfl (lv_at hl 0 rfl) ?_
  refine lv_iload_n hx hb dX4_sibling_1 rfl (lv_at hl 1 rfl) ?_
  refine lv_iload_n hx hb dX4_sibling_2 rfl (lv_at hl 2 rfl) ?_
  refine hp_ci (hp_runV (C := RX4) (T := TX4) (N := 24) (np := 2) (k := 1) (mc := 0) (ms := 0) (As := [.int k0, .int i0]) (rest := []) EE hm hS (c_X4_isSibling l g M y ad S V σ hw k0 i0) ms_X4_isSibling wi_X4_isSibling ws_X4_isSibling wl_X4_220 hRs.1 rfl rfl hl.1 rfl (Nat.le_of_ble_eq_true rfl) dX4_sibling_3 ⟨Nat.le_of_ble_eq_true rfl, Nat.le_of_ble_eq_true rfl⟩ ⟨(Nat.le_of_ble_eq_true rfl), (Nat.le_of_ble_eq_true rfl)⟩) hS (fun r1 Mx2 H locs hq3 hm hS => ?_)
  obtain ⟨rfl, h9⟩ := hq3
  rw [h9] at hm
  refine lv_if_eq (tgt := 23) hx hb dX4_sibling_6 (by decide) (fun c_6 => ?_) (fun c_6 => ?_)
  · have c_6 := bI_f c_6
    refine lv_iconst (v := 0) hx hb dX4_sibling_23 (by decide) ?_
    exact ret dX4_sibling_24 na_i hm hS (Nat.le_of_ble_eq_true rfl) (Nat.le_of_ble_eq_true rfl) (⟨by unfold rSib; rw [c_6]; rfl, rfl⟩)
  · have c_6 := bI_t c_6
    rw [Bool.and_eq_true] at c_6
    obtain ⟨i, hi, hie⟩ := isS_nat hpl c_6.1
    obtain ⟨j, hj, hje⟩ := isW_nat c_6.2
    refine lv_aload_n hx hb dX4_sibling_9 rfl (lv_at hl 0 rfl) ?_
    refine hr_get EE hm hRs 20 (by decide) wf_X4_130 (v := .ref (ad 20)) rfl dX4_sibling_10 ?_
    refine lv_bipush (v := 8) hx hb dX4_sibling_13 (by decide) ?_
    refine lv_iload_n hx hb dX4_sibling_15 rfl (lv_at hl 1 rfl) ?_
    refine lv_imul hx hb dX4_sibling_16 ?_
    refine lv_iload_n hx hb dX4_sibling_17 rfl (lv_at hl 2 rfl) ?_
    refine lv_iadd hx hb dX4_sibling_18 ?_
    refine hr_ald EE hm hRs 20 ((8 * i) + j) (by decide) (add_n (mul_n rfl hie) hje) (by show (8 * i) + j < 128; omega) (by decide) dX4_sibling_19 ?_
    refine lv_goto (tgt := 24) hx hb dX4_sibling_20 (by decide) ?_
    exact ret dX4_sibling_24 na_i hm hS (Nat.le_of_ble_eq_true rfl) (Nat.le_of_ble_eq_true rfl) (⟨by unfold rSib; rw [c_6.1, c_6.2, hie, hje, nI_clamp (by omega), nI_clamp (by omega)]; exact hsb i hi j hj, rfl⟩)
