set_option maxHeartbeats 4000000 in
set_option maxRecDepth 100000 in
theorem c_X4_commit (l : Launch) (g : hG) (M : hM) (y : Nat) (ad : Nat → Nat) (S : Nat → Nat → Int32) (V : Nat → Int32) (σ : cSt) (hw : RW g M y ad S V σ) : Ci l g yX4_commit cX4_commit 1 .int 8 0 0 [.ref y] M (fun r M9 => r = (sCommit σ).1 ∧ RP g M y ad M9 (sCommit σ).2) := by
  obtain ⟨hRs, ⟨hkc, hvg, hgn, hpl, hpk⟩, hk0, hk1, hv6, hrows, hnow, hdv, ⟨kw, hv7, hdn⟩, hv19, hv21, hv22, hv23, hsb⟩ := id hw
  refine hp_startI (by decide) (by exact Nat.le_of_ble_eq_true rfl) ?_
  intro p e s m below meth c Q H locs ls EE hnm ret hm hS hl
  have hx := EE.1
  have hb := EE.2.1
  have hown := EE.2.2.2.1
  have hts := EE.2.2.2.2.1
  have hl : lv_has ls 1 [(0, .ref y)] := hl
  have hF : ∀ q, ¬ rO y ad q → M q = M q := fun _ _ => rfl
  refine lv_aload_n hx hb dX4_commit_0 rfl (lv_at hl 0 rfl) ?_
  refine hr_get EE hm hRs 6 (by decide) wf_X4_134 (v := .int (V 6)) rfl dX4_commit_1 ?_
  refine lv_bipush (v := 60) hx hb dX4_commit_4 (by decide) ?_
  refine lv_icmp_ne (tgt := 12) hx hb dX4_commit_6 (by decide) (fun c_6 => ?_) (fun c_6 => ?_)
  · have c_6 : ¬ (sKc σ) = 60 := fun h9 => c_6 ((eqN (a := sKc σ) (b := 60) hv6 rfl (by omega) (by decide)).mpr h9)
    refine lv_aload_n hx hb dX4_commit_12 rfl (lv_at hl 0 rfl) ?_
    refine hp_cv (hp_runV (C := RX4) (T := TX4) (N := 24) (np := 0) (k := 7) (mc := 0) (ms := 0) (As := ([] : List Value)) (rest := []) EE hm hS (c_X4_know l g M y ad S V σ hw) ms_X4_know wi_X4_know ws_X4_know wl_X4_202 hRs.1 rfl rfl hl.1 rfl (Nat.le_of_ble_eq_true rfl) dX4_commit_13 ⟨Nat.le_of_ble_eq_true rfl, Nat.le_of_ble_eq_true rfl⟩ ⟨(Nat.le_of_ble_eq_true rfl), (Nat.le_of_ble_eq_true rfl)⟩) hS (fun Mx1 H locs hq2 hm hS => ?_)
    obtain ⟨Sk, Vk, hwk, hFk, h71⟩ := hq2
    obtain ⟨hRs, -, hk0k, hk1k, hv6k, hrowsk, hnowk, hdvk, ⟨kwk, hv7k, hdnk⟩, hv19k, hv21k, hv22k, hv23k, hsbk⟩ := id hwk
    have hdk : ∀ i, i < 8 → Sk 5 (8 * 60 + i) = dgF 16 (sNow σ) i := hdnk (bI_inj (b := true) (hv7k.symm.trans h71))
    have hF : ∀ q, ¬ rO y ad q → Mx1 q = M q := hFk
    refine lv_aload_n hx hb dX4_commit_16 rfl (lv_at hl 0 rfl) ?_
    refine lv_bipush (v := 60) hx hb dX4_commit_17 (by decide) ?_
    refine lv_aload_n hx hb dX4_commit_19 rfl (lv_at hl 0 rfl) ?_
    refine hr_get EE hm hRs 6 (by decide) wf_X4_134 (v := .int (Vk 6)) rfl dX4_commit_20 ?_
    rw [hv6k]
    refine hp_cv (hp_runV (C := RX4) (T := TX4) (N := 24) (np := 2) (k := 1) (mc := 0) (ms := 0) (As := [.int 60, .int (nI (sKc σ))]) (rest := []) EE hm hS (c_X4_copyRow l g Mx1 y ad Sk Vk 60 (sKc σ) (by decide) (by omega) (by omega) (sNow σ) hgn hnowk hRs) ms_X4_copyRow wi_X4_copyRow ws_X4_copyRow wl_X4_205 hRs.1 rfl rfl hl.1 rfl (Nat.le_of_ble_eq_true rfl) dX4_commit_23 ⟨Nat.le_of_ble_eq_true rfl, Nat.le_of_ble_eq_true rfl⟩ ⟨(Nat.le_of_ble_eq_true rfl), (Nat.le_of_ble_eq_true rfl)⟩) hS (fun Mx3 H locs hq4 hm hS => ?_)
    obtain ⟨S9, hRs, hF9, hE9, hd9, ho9, hlo9, h49, h59⟩ := hq4
    have hF : ∀ q, ¬ rO y ad q → Mx3 q = M q := fun q hq => (hF9 q hq).trans (hF q hq)
    refine lv_aload_n hx hb dX4_commit_26 rfl (lv_at hl 0 rfl) ?_
    refine lv_dup hx hb dX4_commit_27 rfl ?_
    refine hr_get EE hm hRs 6 (by decide) wf_X4_134 (v := .int (Vk 6)) rfl dX4_commit_28 ?_
    refine lv_iconst (v := 1) hx hb dX4_commit_31 (by decide) ?_
    refine lv_iadd hx hb dX4_commit_32 ?_
    refine hr_put EE hm hS hRs hF (ty := .int) (vU Vk 6 ((Vk 6) + 1)) 6 (by decide) wf_X4_134 rfl (by decide +kernel) rfl rfl rfl dX4_commit_33 (fun H locs Mx5 hm hS hRs hF => ?_)
    obtain ⟨Vx6, hVx6⟩ : ∃ zz9, zz9 = vU Vk 6 ((Vk 6) + 1) := ⟨_, rfl⟩
    rw [← hVx6] at hRs
    refine lv_aload_n hx hb dX4_commit_36 rfl (lv_at hl 0 rfl) ?_
    refine hr_get EE hm hRs 6 (by decide) wf_X4_134 (v := .int ((Vk 6) + 1)) (by rw [hVx6]; rfl) dX4_commit_37 ?_
    refine lv_iconst (v := 1) hx hb dX4_commit_40 (by decide) ?_
    refine lv_isub hx hb dX4_commit_41 ?_
    have hrr : ∀ j, j < sKc σ → rowE S9 j (sVs σ j) := fun j hj => ⟨by rw [h49 j (by omega)]; exact (hrowsk j hj).1, fun i hi => by
      have hl9 := (hvg j hj).2.1
      rw [(hlo9 (300 * j + i) (by omega)).1, (hlo9 (300 * j + i) (by omega)).2]
      exact (hrowsk j hj).2 i hi⟩
    have hn9 : rowE S9 60 (sNow σ) := ⟨by rw [h49 60 (by omega)]; exact hnowk.1, fun i hi => by
      rw [(hlo9 (300 * 60 + i) (by omega)).1, (hlo9 (300 * 60 + i) (by omega)).2]
      exact hnowk.2 i hi⟩
    have hsc : sCommit σ = (nI (sKc σ), (sNow σ, sKc σ + 1, fun j => if j = sKc σ then sNow σ else sVs σ j, sPl σ, sPe σ, sPk σ, sPv σ, sSb σ)) := if_neg c_6
    have hin : ∀ j, j < sKc σ + 1 → (j = sKc σ ∧ (if j = sKc σ then sNow σ else sVs σ j) = sNow σ) ∨ (j < sKc σ ∧ (if j = sKc σ then sNow σ else sVs σ j) = sVs σ j) := fun j hj => by
      by_cases t : j = sKc σ
      · exact Or.inl ⟨t, if_pos t⟩
      · exact Or.inr ⟨by omega, if_neg t⟩
    exact ret dX4_commit_42 na_i hm hS (Nat.le_of_ble_eq_true rfl) (Nat.le_of_ble_eq_true rfl) (⟨by rw [hsc]; exact sub_n (add_n hv6k rfl) rfl (by omega), by
      rw [hsc]
      refine ⟨S9, Vx6, ⟨hRs, ⟨(by show sKc σ + 1 ≤ 60; omega), (fun j hj => ?_), hgn, hpl, hpk⟩, (fun j hj => by rw [ho9 0 (by decide) (by decide) (by decide) (by decide)]; exact hk0k j hj), (fun j hj => by rw [ho9 1 (by decide) (by decide) (by decide) (by decide)]; exact hk1k j hj), (by rw [hVx6, vU_s]; exact add_n hv6k rfl), (fun j hj => ?_), hn9, (fun j hj i hi => ?_), ⟨kwk, (by rw [hVx6]; exact hv7k), fun hq i hi => by rw [h59 _ (by omega)]; exact hdnk hq i hi⟩, (by rw [hVx6]; exact hv19k), (by rw [hVx6]; exact hv21k), (by rw [hVx6]; exact hv22k), (by rw [hVx6]; exact hv23k), fun i hi j hj => by rw [ho9 20 (by decide) (by decide) (by decide) (by decide)]; exact hsbk i hi j hj⟩, hF⟩
      · show gE (if j = sKc σ then sNow σ else sVs σ j)
        rcases hin j hj with ⟨t1, t2⟩ | ⟨t1, t2⟩
        · rw [t2]; exact hgn
        · rw [t2]; exact hvg j t1
      · show rowE S9 j (if j = sKc σ then sNow σ else sVs σ j)
        rcases hin j hj with ⟨t1, t2⟩ | ⟨t1, t2⟩
        · rw [t2, t1]; exact hE9
        · rw [t2]; exact hrr j t1
      · show S9 5 (8 * j + i) = dgF 16 (if j = sKc σ then sNow σ else sVs σ j) i
        rcases hin j hj with ⟨t1, t2⟩ | ⟨t1, t2⟩
        · rw [t2, t1, hd9 i hi]; exact hdk i hi
        · rw [t2, h59 _ (by omega)]; exact hdvk j t1 i hi⟩)
  · have c_6 : (sKc σ) = 60 := (eqN (a := sKc σ) (b := 60) hv6 rfl (by omega) (by decide)).mp c_6
    refine lv_bipush (v := (-3)) hx hb dX4_commit_9 (by decide) ?_
    exact ret dX4_commit_11 na_i hm hS (Nat.le_of_ble_eq_true rfl) (Nat.le_of_ble_eq_true rfl) (⟨by unfold sCommit; rw [if_pos c_6], by unfold sCommit; rw [if_pos c_6]; exact RP.rf hw⟩)
set_option maxHeartbeats 4000000 in
set_option maxRecDepth 100000 in
theorem c_X4_word (l : Launch) (g : hG) (M : hM) (y : Nat) (ad : Nat → Nat) (S : Nat → Nat → Int32) (V : Nat → Int32) (σ : cSt) (hw : RW g M y ad S V σ) (v0 i0 : Int32) : Ci l g yX4_word cX4_word 3 .int 8 0 0 [.ref y, .int v0, .int i0] M (fun r M9 => r = rWord σ v0 i0 ∧ RP g M y ad M9 σ) := by
  obtain ⟨hRs, ⟨hkc, hvg, hgn, hpl, hpk⟩, hk0, hk1, hv6, hrows, hnow, hdv, ⟨kw, hv7, hdn⟩, hv19, hv21, hv22, hv23, hsb⟩ := id hw
  refine hp_startI (by decide) (by exact Nat.le_of_ble_eq_true rfl) ?_
  intro p e s m below meth c Q H locs ls EE hnm ret hm hS hl
  have hx := EE.1
  have hb := EE.2.1
  have hown := EE.2.2.2.1
  have hts := EE.2.2.2.2.1
  have hl : lv_has ls 3 [(0, .ref y), (1, .int v0), (2, .int i0)] := hl
  have hF : ∀ q, ¬ rO y ad q → M q = M q := fun _ _ => rfl
  refine lv_aload_n hx hb dX4_word_0 rfl (lv_at hl 0 rfl) ?_
  refine lv_iload_n hx hb dX4_word_1 rfl (lv_at hl 1 rfl) ?_
  refine hp_ci (hp_runV (C := RX4) (T := TX4) (N := 24) (np := 1) (k := 1) (mc := 0) (ms := 0) (As := [.int v0]) (rest := []) EE hm hS (c_X4_isVersion l g M y ad S V σ hw v0) ms_X4_isVersion wi_X4_isVersion ws_X4_isVersion wl_X4_193 hRs.1 rfl rfl hl.1 rfl (Nat.le_of_ble_eq_true rfl) dX4_word_2 ⟨Nat.le_of_ble_eq_true rfl, Nat.le_of_ble_eq_true rfl⟩ ⟨(Nat.le_of_ble_eq_true rfl), (Nat.le_of_ble_eq_true rfl)⟩) hS (fun r1 Mx2 H locs hq3 hm hS => ?_)
  obtain ⟨rfl, h9⟩ := hq3
  rw [h9] at hm
  refine lv_if_eq (tgt := 18) hx hb dX4_word_5 (by decide) (fun c_5 => ?_) (fun c_5 => ?_)
  · have c_5 := bI_f c_5
    refine lv_iconst (v := 0) hx hb dX4_word_18 (by decide) ?_
    exact ret dX4_word_19 na_i hm hS (Nat.le_of_ble_eq_true rfl) (Nat.le_of_ble_eq_true rfl) (⟨by unfold rWord; first | (rw [c_5]; rfl) | (rw [isW_a c_9, Bool.and_false]; rfl) | (rw [isW_b (Int32.not_lt.mp c_15), Bool.and_false]; rfl), RP.rf hw⟩)
  · have c_5 := bI_t c_5
    refine lv_iload_n hx hb dX4_word_8 rfl (lv_at hl 2 rfl) ?_
    refine lv_if_lt (tgt := 18) hx hb dX4_word_9 (by decide) (fun c_9 => ?_) (fun c_9 => ?_)
    · refine lv_iconst (v := 0) hx hb dX4_word_18 (by decide) ?_
      exact ret dX4_word_19 na_i hm hS (Nat.le_of_ble_eq_true rfl) (Nat.le_of_ble_eq_true rfl) (⟨by unfold rWord; first | (rw [c_5]; rfl) | (rw [isW_a c_9, Bool.and_false]; rfl) | (rw [isW_b (Int32.not_lt.mp c_15), Bool.and_false]; rfl), RP.rf hw⟩)
    · refine lv_iload_n hx hb dX4_word_12 rfl (lv_at hl 2 rfl) ?_
      refine lv_bipush (v := 8) hx hb dX4_word_13 (by decide) ?_
      refine lv_icmp_lt (tgt := 20) hx hb dX4_word_15 (by decide) (fun c_15 => ?_) (fun c_15 => ?_)
      · have hiw := isW_c c_9 (Int32.not_le.mpr c_15)
        obtain ⟨j, hj, hje⟩ := isW_nat hiw
        obtain ⟨r0, hr0, hro, hrc⟩ := rowO_nat hkc c_5
        refine lv_aload_n hx hb dX4_word_20 rfl (lv_at hl 0 rfl) ?_
        refine hp_cv (hp_runV (C := RX4) (T := TX4) (N := 24) (np := 0) (k := 7) (mc := 0) (ms := 0) (As := ([] : List Value)) (rest := []) EE hm hS (c_X4_know l g M y ad S V σ hw) ms_X4_know wi_X4_know ws_X4_know wl_X4_202 hRs.1 rfl rfl hl.1 rfl (Nat.le_of_ble_eq_true rfl) dX4_word_21 ⟨Nat.le_of_ble_eq_true rfl, Nat.le_of_ble_eq_true rfl⟩ ⟨(Nat.le_of_ble_eq_true rfl), (Nat.le_of_ble_eq_true rfl)⟩) hS (fun Mx4 H locs hq5 hm hS => ?_)
        obtain ⟨Sk, Vk, hwk, hFk, h71⟩ := hq5
        obtain ⟨hRs, -, hk0k, hk1k, hv6k, hrowsk, hnowk, hdvk, ⟨kwk, hv7k, hdnk⟩, hv19k, hv21k, hv22k, hv23k, hsbk⟩ := id hwk
        have hdk : ∀ i, i < 8 → Sk 5 (8 * 60 + i) = dgF 16 (sNow σ) i := hdnk (bI_inj (b := true) (hv7k.symm.trans h71))
        have hF : ∀ q, ¬ rO y ad q → Mx4 q = M q := hFk
        refine lv_aload_n hx hb dX4_word_24 rfl (lv_at hl 0 rfl) ?_
        refine hr_get EE hm hRs 5 (by decide) wf_X4_97 (v := .ref (ad 5)) rfl dX4_word_25 ?_
        refine lv_bipush (v := 8) hx hb dX4_word_28 (by decide) ?_
        refine lv_iload_n hx hb dX4_word_30 rfl (lv_at hl 1 rfl) ?_
        refine hp_ci (hp_runS (np := 1) (k := 1) (mc := 0) (ms := 0) (As := [.int v0]) (rest := [.int 8, .ref (ad 5)]) EE hm hS (c_X4_rowOf l g Mx4 v0) ms_X4_rowOf wt_X4_rowOf wl_X4_198 rfl hl.1 rfl (Nat.le_of_ble_eq_true rfl) dX4_word_31 ⟨Nat.le_of_ble_eq_true rfl, Nat.le_of_ble_eq_true rfl⟩ ⟨(Nat.le_of_ble_eq_true rfl), (Nat.le_of_ble_eq_true rfl)⟩) hS (fun r6 Mx7 H locs hq8 hm hS => ?_)
        obtain ⟨rfl, h9⟩ := hq8
        rw [h9] at hm
        refine lv_imul hx hb dX4_word_34 ?_
        refine lv_iload_n hx hb dX4_word_35 rfl (lv_at hl 2 rfl) ?_
        refine lv_iadd hx hb dX4_word_36 ?_
        refine hr_ald EE hm hRs 5 ((8 * r0) + j) (by decide) (add_n (mul_n rfl hro) hje) (by show (8 * r0) + j < 488; omega) (by decide) dX4_word_37 ?_
        exact ret dX4_word_38 na_i hm hS (Nat.le_of_ble_eq_true rfl) (Nat.le_of_ble_eq_true rfl) (⟨by unfold rWord; rw [c_5, hiw, hje, nI_clamp (by omega)]; show _ = dgF 16 (mapV σ v0) j; rcases hrc with ⟨t1, t2⟩ | ⟨t1, t2⟩; (· rw [t2, t1]; exact hdk j hj); (· rw [t2]; exact hdvk r0 t1 j hj), ⟨Sk, Vk, hwk, hF⟩⟩)
      · refine lv_iconst (v := 0) hx hb dX4_word_18 (by decide) ?_
        exact ret dX4_word_19 na_i hm hS (Nat.le_of_ble_eq_true rfl) (Nat.le_of_ble_eq_true rfl) (⟨by unfold rWord; first | (rw [c_5]; rfl) | (rw [isW_a c_9, Bool.and_false]; rfl) | (rw [isW_b (Int32.not_lt.mp c_15), Bool.and_false]; rfl), RP.rf hw⟩)
