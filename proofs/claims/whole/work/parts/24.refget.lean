theorem fnd_in {E : En} {k i : Nat} (hs : srt E) (h : fnd E k i) (hh : hasE E k = true) : ∃ (hi : i < E.length), (E[i]).1 = k := by
  rw [fnd_has hs h] at hh
  cases hq : E[i]? with
  | none => rw [hq] at hh; cases hh
  | some x =>
    rw [hq] at hh
    obtain ⟨hi, hx⟩ := List.getElem?_eq_some_iff.mp hq
    exact ⟨hi, by rw [hx]; simpa using hh⟩
theorem lkE_at {k : Nat} : ∀ {E : En} {i : Nat} (hi : i < E.length), srt E → (E[i]).1 = k → lkE E k = some (E[i]).2
  | x :: t, 0, _, _, hk => by
    have hk : x.1 = k := hk
    rw [lkE_cons, if_pos hk]
    rfl
  | x :: t, i + 1, hi, hs, hk => by
    obtain ⟨h1, h2⟩ := List.pairwise_cons.mp hs
    have hi' : i < t.length := by simpa using hi
    have hk' : (t[i]).1 = k := hk
    have := h1 _ (List.getElem_mem hi')
    rw [lkE_cons, if_neg (by omega), lkE_at hi' h2 hk']
    rfl
theorem putL_split {k : Nat} {v : Int32} : ∀ {E : En} {i : Nat}, srt E → fnd E k i → putL k v E = E.take i ++ (k, v) :: E.drop (if hasE E k then i + 1 else i)
  | [], i, _, h => by
    have : i = 0 := by have := h.1; simp at this; exact this
    subst this
    simp [putL, hasE, lkE]
  | x :: t, 0, hs, h => by
    have hle := h.2.2 (by simp)
    have hle : k ≤ x.1 := hle
    rw [putL_cons]
    rcases Nat.lt_or_eq_of_le hle with q | q
    · rw [if_pos q]
      have hf : hasE (x :: t) k = false := by
        rw [fnd_has hs h]
        show (x.1 == k) = false
        simp
        omega
      rw [hf]; simp
    · rw [if_neg (by omega), if_pos q]
      have hf : hasE (x :: t) k = true := by
        rw [fnd_has hs h]
        show (x.1 == k) = true
        simp [q]
      rw [hf]; simp
  | x :: t, i + 1, hs, h => by
    have h0 := h.2.1 0 (by simp) (by omega)
    have h0 : x.1 < k := h0
    obtain ⟨h1, h2⟩ := List.pairwise_cons.mp hs
    have ht : fnd t k i := ⟨by have := h.1; simp at this; exact this, fun j hj hji => h.2.1 (j + 1) (by simp; omega) (by omega), fun hi => h.2.2 (by simp; omega)⟩
    have hh : hasE (x :: t) k = hasE t k := by unfold hasE; rw [lkE_cons, if_neg (by omega)]
    rw [putL_cons, if_neg (by omega), if_neg (by omega), putL_split h2 ht, hh]
    cases hasE t k <;> simp
theorem remL_split {k : Nat} : ∀ {E : En} {i : Nat} (hi : i < E.length), srt E → (E[i]).1 = k → remL k E = E.take i ++ E.drop (i + 1)
  | x :: t, 0, _, hs, hk => by
    obtain ⟨h1, h2⟩ := List.pairwise_cons.mp hs
    have hk : x.1 = k := hk
    unfold remL
    rw [List.filter_cons, if_neg (by simp [hk])]
    show remL k t = _
    rw [remL_out (fun z hz => by have := h1 z hz; omega)]
    simp
  | x :: t, i + 1, hi, hs, hk => by
    obtain ⟨h1, h2⟩ := List.pairwise_cons.mp hs
    have hi' : i < t.length := by simpa using hi
    have hk' : (t[i]).1 = k := hk
    have := h1 _ (List.getElem_mem hi')
    unfold remL
    rw [List.filter_cons, if_pos (by simp; omega)]
    show x :: remL k t = _
    rw [remL_split hi' h2 hk']
    simp
/-- the rows of the reference change below the proof: the map now -/
theorem RW.now {g : hG} {M M9 : hM} {y : Nat} {ad : Nat → Nat} {S S9 : Nat → Nat → Int32} {V V9 : Nat → Int32} {σ : cSt} {E : En} (hw : RW g M y ad S V σ) (hR : RS g M9 y ad S9 V9) (h0 : S9 0 = S 0) (h1 : S9 1 = S 1) (h5 : S9 5 = S 5) (h20 : S9 20 = S 20) (h2 : ∀ q, q < 18000 → S9 2 q = S 2 q ∧ S9 3 q = S 3 q) (h4 : ∀ q, q < 60 → S9 4 q = S 4 q) (hE : rowE S9 60 E) (hg : gE E) (h6 : V9 6 = V 6) (h7 : V9 7 = 0) (h19 : V9 19 = V 19) (h21 : V9 21 = V 21) (h22 : V9 22 = V 22) (h23 : V9 23 = V 23) : RW g M9 y ad S9 V9 (setN σ E) := by
  obtain ⟨-, ⟨k1, k2, k3, k4, k5⟩, q0, q1, q6, qr, qn, qd, -, r19, r21, r22, r23, rsb⟩ := hw
  refine ⟨hR, ⟨k1, k2, hg, k4, k5⟩, fun j hj => by rw [h0]; exact q0 j hj, fun j hj => by rw [h1]; exact q1 j hj, h6.trans q6, fun j hj => ?_, hE, fun j hj i hi => by rw [h5]; exact qd j hj i hi, ⟨false, h7, fun h => by cases h⟩, h19.trans r19, h21.trans r21, h22.trans r22, h23.trans r23, fun i hi j hj => by rw [h20]; exact rsb i hi j hj⟩
  have hj' : j < sKc σ := hj
  have hjr := qr j hj'
  have hl := (k2 j hj').2.1
  refine ⟨by rw [h4 j (by omega)]; exact hjr.1, fun i hi => ?_⟩
  have hi' : i < (sVs σ j).length := hi
  rw [(h2 (300 * j + i) (by omega)).1, (h2 (300 * j + i) (by omega)).2]
  exact hjr.2 i hi
set_option maxHeartbeats 4000000 in
set_option maxRecDepth 100000 in
theorem c_X4_get (l : Launch) (g : hG) (M : hM) (y : Nat) (ad : Nat → Nat) (S : Nat → Nat → Int32) (V : Nat → Int32) (σ : cSt) (hw : RW g M y ad S V σ) (v0 k0 : Int32) : Cl l g yX4_get cX4_get 5 2 0 0 [.ref y, .int v0, .int k0] M (fun r M9 => r = rGet σ v0 k0 ∧ M9 = M) := by
  obtain ⟨hRs, ⟨hkc, hvg, hgn, hpl, hpk⟩, hk0, hk1, hv6, hrows, hnow, hdv, ⟨kw, hv7, hdn⟩, hv19, hv21, hv22, hv23, hsb⟩ := id hw
  refine hp_startL (by decide) (by exact Nat.le_of_ble_eq_true rfl) ?_
  intro p e s m below meth c Q H locs ls EE hnm ret hm hS hl
  have hx := EE.1
  have hb := EE.2.1
  have hown := EE.2.2.2.1
  have hts := EE.2.2.2.2.1
  have hl : lv_has ls 5 [(0, .ref y), (1, .int v0), (2, .int k0)] := hl
  have hF : ∀ q, ¬ rO y ad q → M q = M q := fun _ _ => rfl
  refine lv_aload_n hx hb dX4_get_0 rfl (lv_at hl 0 rfl) ?_
  refine lv_iload_n hx hb dX4_get_1 rfl (lv_at hl 1 rfl) ?_
  refine hp_ci (hp_runV (C := RX4) (T := TX4) (N := 24) (np := 1) (k := 1) (mc := 0) (ms := 0) (As := [.int v0]) (rest := []) EE hm hS (c_X4_isVersion l g M y ad S V σ hw v0) ms_X4_isVersion wi_X4_isVersion ws_X4_isVersion wl_X4_193 hRs.1 rfl rfl hl.1 rfl (Nat.le_of_ble_eq_true rfl) dX4_get_2 ⟨Nat.le_of_ble_eq_true rfl, Nat.le_of_ble_eq_true rfl⟩ ⟨(Nat.le_of_ble_eq_true rfl), (Nat.le_of_ble_eq_true rfl)⟩) hS (fun r1 Mx2 H locs hq3 hm hS => ?_)
  obtain ⟨rfl, h9⟩ := hq3
  rw [h9] at hm
  refine lv_if_eq (tgt := 15) hx hb dX4_get_5 (by decide) (fun c_5 => ?_) (fun c_5 => ?_)
  · have c_5 := bI_f c_5
    refine lv_ldc2 (v := 9223372036854775807) hx hb hown (hts _ wk_X4_196) dX4_get_15 ?_
    exact ret dX4_get_18 hm hS (Nat.le_of_ble_eq_true rfl) (Nat.le_of_ble_eq_true rfl) (⟨by unfold rGet; first | (rw [c_5]; rfl) | (rw [c_5, c_12]; rfl), rfl⟩)
  · have c_5 := bI_t c_5
    refine lv_iload_n hx hb dX4_get_8 rfl (lv_at hl 2 rfl) ?_
    refine hp_ci (hp_runS (np := 1) (k := 1) (mc := 0) (ms := 0) (As := [.int k0]) (rest := []) EE hm hS (c_X4_isKey l g M k0) ms_X4_isKey wt_X4_isKey wl_X4_182 rfl hl.1 rfl (Nat.le_of_ble_eq_true rfl) dX4_get_9 ⟨Nat.le_of_ble_eq_true rfl, Nat.le_of_ble_eq_true rfl⟩ ⟨(Nat.le_of_ble_eq_true rfl), (Nat.le_of_ble_eq_true rfl)⟩) hS (fun r4 Mx5 H locs hq6 hm hS => ?_)
    obtain ⟨rfl, h9⟩ := hq6
    rw [h9] at hm
    refine lv_if_ne (tgt := 19) hx hb dX4_get_12 (by decide) (fun c_12 => ?_) (fun c_12 => ?_)
    · have c_12 := bI_t c_12
      obtain ⟨kn, hkn, hke⟩ := isK_nat c_12
      subst hke
      obtain ⟨r0, hr0, hro, hrc⟩ := rowO_nat hkc c_5
      have hrow := row_of hw hrc
      have hgm := mapV_g ⟨hkc, hvg, hgn, hpl, hpk⟩ c_5
      have hcl : (nI kn).toNatClampNeg = kn := nI_clamp (by omega)
      have hgl := hgm.2.1
      refine lv_iload_n hx hb dX4_get_19 rfl (lv_at hl 1 rfl) ?_
      refine hp_ci (hp_runS (np := 1) (k := 1) (mc := 0) (ms := 0) (As := [.int v0]) (rest := []) EE hm hS (c_X4_rowOf l g M v0) ms_X4_rowOf wt_X4_rowOf wl_X4_198 rfl hl.1 rfl (Nat.le_of_ble_eq_true rfl) dX4_get_20 ⟨Nat.le_of_ble_eq_true rfl, Nat.le_of_ble_eq_true rfl⟩ ⟨(Nat.le_of_ble_eq_true rfl), (Nat.le_of_ble_eq_true rfl)⟩) hS (fun r7 Mx8 H locs hq9 hm hS => ?_)
      obtain ⟨rfl, h9⟩ := hq9
      rw [h9] at hm
      rw [hro]
      refine lv_istore_n (lv' := [(3, .int (nI r0)), (0, .ref y), (1, .int v0), (2, .int (nI kn))]) hx hb dX4_get_23 rfl hl (by decide) rfl (fun ls hl => ?_)
      refine lv_aload_n hx hb dX4_get_24 rfl (lv_at hl 1 rfl) ?_
      refine lv_iload_n hx hb dX4_get_25 rfl (lv_at hl 0 rfl) ?_
      refine lv_iload_n hx hb dX4_get_26 rfl (lv_at hl 3 rfl) ?_
      refine hp_ci (hp_runV (C := RX4) (T := TX4) (N := 24) (np := 2) (k := 1) (mc := 0) (ms := 0) (As := [.int (nI r0), .int (nI kn)]) (rest := []) EE hm hS (c_X4_find l g M y ad S V r0 hr0 _ hgm hrow hRs kn hkn) ms_X4_find wi_X4_find ws_X4_find wl_X4_186 hRs.1 rfl rfl hl.1 rfl (Nat.le_of_ble_eq_true rfl) dX4_get_27 ⟨Nat.le_of_ble_eq_true rfl, Nat.le_of_ble_eq_true rfl⟩ ⟨(Nat.le_of_ble_eq_true rfl), (Nat.le_of_ble_eq_true rfl)⟩) hS (fun r10 Mx11 H locs hq12 hm hS => ?_)
      obtain ⟨⟨i, hri, hfn⟩, h9⟩ := hq12
      rw [h9] at hm
      subst hri
      refine lv_istore (lv' := [(4, .int (nI i)), (3, .int (nI r0)), (0, .ref y), (1, .int v0), (2, .int (nI kn))]) hx hb dX4_get_30 hl (by decide) rfl (fun ls hl => ?_)
      refine lv_aload_n hx hb dX4_get_32 rfl (lv_at hl 2 rfl) ?_
      refine lv_iload_n hx hb dX4_get_33 rfl (lv_at hl 1 rfl) ?_
      refine lv_iload hx hb dX4_get_34 (lv_at hl 0 rfl) ?_
      refine lv_iload_n hx hb dX4_get_36 rfl (lv_at hl 4 rfl) ?_
      refine hp_ci (hp_runV (C := RX4) (T := TX4) (N := 24) (np := 3) (k := 1) (mc := 0) (ms := 0) (As := [.int (nI r0), .int (nI i), .int (nI kn)]) (rest := []) EE hm hS (c_X4_isThere l g M y ad S V r0 hr0 _ hgm hrow hRs kn hkn i hfn) ms_X4_isThere wi_X4_isThere ws_X4_isThere wl_X4_189 hRs.1 rfl rfl hl.1 rfl (Nat.le_of_ble_eq_true rfl) dX4_get_37 ⟨Nat.le_of_ble_eq_true rfl, Nat.le_of_ble_eq_true rfl⟩ ⟨(Nat.le_of_ble_eq_true rfl), (Nat.le_of_ble_eq_true rfl)⟩) hS (fun r13 Mx14 H locs hq15 hm hS => ?_)
      obtain ⟨rfl, h9⟩ := hq15
      rw [h9] at hm
      refine lv_if_eq (tgt := 60) hx hb dX4_get_40 (by decide) (fun c_40 => ?_) (fun c_40 => ?_)
      · have c_40 := bI_f c_40
        refine lv_ldc2 (v := 9223372036854775807) hx hb hown (hts _ wk_X4_196) dX4_get_60 ?_
        exact ret dX4_get_63 hm hS (Nat.le_of_ble_eq_true rfl) (Nat.le_of_ble_eq_true rfl) (⟨by unfold rGet; rw [c_5, c_12, hcl]; rw [show lkE (mapV σ v0) kn = none from by cases h : lkE (mapV σ v0) kn with | none => rfl | some z => unfold hasE at c_40; rw [h] at c_40; cases c_40]; rfl, rfl⟩)
      · have c_40 := bI_t c_40
        obtain ⟨hi, hEk⟩ := fnd_in hgm.1 hfn c_40
        have hlk := lkE_at hi hgm.1 hEk
        refine lv_aload_n hx hb dX4_get_43 rfl (lv_at hl 2 rfl) ?_
        refine hr_get EE hm hRs 3 (by decide) wf_X4_91 (v := .ref (ad 3)) rfl dX4_get_44 ?_
        refine lv_sipush (v := 300) hx hb dX4_get_47 (by decide) ?_
        refine lv_iload_n hx hb dX4_get_50 rfl (lv_at hl 1 rfl) ?_
        refine lv_imul hx hb dX4_get_51 ?_
        refine lv_iload hx hb dX4_get_52 (lv_at hl 0 rfl) ?_
        refine lv_iadd hx hb dX4_get_54 ?_
        refine hr_ald EE hm hRs 3 ((300 * r0) + i) (by decide) (add_n (mul_n rfl rfl) rfl) (by show (300 * r0) + i < 18300; omega) (by decide) dX4_get_55 ?_
        refine lv_i2l (v := (S 3 ((300 * r0) + i)).toInt64) hx hb dX4_get_56 rfl ?_
        refine lv_goto (tgt := 63) hx hb dX4_get_57 (by decide) ?_
        exact ret dX4_get_63 hm hS (Nat.le_of_ble_eq_true rfl) (Nat.le_of_ble_eq_true rfl) (⟨by unfold rGet; rw [c_5, c_12, hcl]; rw [hlk, (hrow.2 i hi).2]; rfl, rfl⟩)
    · have c_12 := bI_f c_12
      refine lv_ldc2 (v := 9223372036854775807) hx hb hown (hts _ wk_X4_196) dX4_get_15 ?_
      exact ret dX4_get_18 hm hS (Nat.le_of_ble_eq_true rfl) (Nat.le_of_ble_eq_true rfl) (⟨by unfold rGet; first | (rw [c_5]; rfl) | (rw [c_5, c_12]; rfl), rfl⟩)
