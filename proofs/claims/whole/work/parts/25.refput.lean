theorem rowE.q {S : Nat → Nat → Int32} {r : Nat} {E : En} (h : rowE S r E) {j : Nat} {z : Nat × Int32} (hz : E[j]? = some z) : S 2 (300 * r + j) = nI z.1 ∧ S 3 (300 * r + j) = z.2 := by
  obtain ⟨hj, hx⟩ := List.getElem?_eq_some_iff.mp hz
  have := h.2 j hj
  rw [hx] at this
  exact this
theorem rowE.of {S : Nat → Nat → Int32} {r : Nat} {E : En} (h4 : S 4 r = nI E.length) (h : ∀ j z, E[j]? = some z → S 2 (300 * r + j) = nI z.1 ∧ S 3 (300 * r + j) = z.2) : rowE S r E := ⟨h4, fun j hj => h j _ (List.getElem?_eq_getElem hj)⟩
theorem q_lt {E : En} {j : Nat} {z : Nat × Int32} (h : E[j]? = some z) : j < E.length := (List.getElem?_eq_some_iff.mp h).1
theorem sp_lo {E D : En} {i j : Nat} (hi : i ≤ E.length) (h : j < i) : (E.take i ++ D)[j]? = E[j]? := by
  rw [List.getElem?_append_left (by rw [List.length_take]; omega), List.getElem?_take, if_pos h]
theorem sp_at {E D : En} {x : Nat × Int32} {i : Nat} (hi : i ≤ E.length) : (E.take i ++ x :: D)[i]? = some x := by
  rw [List.getElem?_append_right (by rw [List.length_take]; omega), List.length_take, Nat.min_eq_left hi, Nat.sub_self]; rfl
theorem sp_hi {E D : En} {x : Nat × Int32} {i j : Nat} (hi : i ≤ E.length) (h : i < j) : (E.take i ++ x :: D)[j]? = D[j - i - 1]? := by
  rw [List.getElem?_append_right (by rw [List.length_take]; omega), List.length_take, Nat.min_eq_left hi]
  obtain ⟨m, hm⟩ : ∃ m, j - i = m + 1 := ⟨j - i - 1, by omega⟩
  rw [hm]
  rfl
theorem sp_hi2 {E D : En} {i j : Nat} (hi : i ≤ E.length) (h : i ≤ j) : (E.take i ++ D)[j]? = D[j - i]? := by
  rw [List.getElem?_append_right (by rw [List.length_take]; omega), List.length_take, Nat.min_eq_left hi]
theorem row_set {S9 : Nat → Nat → Int32} {E : En} {i : Nat} {x : Nat × Int32} (hi : i < E.length) (h4 : S9 4 60 = nI (E.take i ++ x :: E.drop (i + 1)).length) (hx : S9 2 (18000 + i) = nI x.1 ∧ S9 3 (18000 + i) = x.2) (ho : ∀ j z, E[j]? = some z → j ≠ i → S9 2 (18000 + j) = nI z.1 ∧ S9 3 (18000 + j) = z.2) : rowE S9 60 (E.take i ++ x :: E.drop (i + 1)) := by
  refine rowE.of h4 (fun j z hz => ?_)
  show S9 2 (18000 + j) = nI z.1 ∧ S9 3 (18000 + j) = z.2
  rcases Nat.lt_trichotomy j i with q | q | q
  · rw [sp_lo (by omega) q] at hz; exact ho j z hz (by omega)
  · subst q; rw [sp_at (by omega)] at hz; cases hz; exact hx
  · rw [sp_hi (by omega) q, List.getElem?_drop, show i + 1 + (j - i - 1) = j by omega] at hz; exact ho j z hz (by omega)
theorem row_ins {S9 : Nat → Nat → Int32} {E : En} {i : Nat} {x : Nat × Int32} (hi : i ≤ E.length) (h4 : S9 4 60 = nI (E.take i ++ x :: E.drop i).length) (hx : S9 2 (18000 + i) = nI x.1 ∧ S9 3 (18000 + i) = x.2) (ho : ∀ j z, E[j]? = some z → (j < i → S9 2 (18000 + j) = nI z.1 ∧ S9 3 (18000 + j) = z.2) ∧ (i ≤ j → S9 2 (18000 + j + 1) = nI z.1 ∧ S9 3 (18000 + j + 1) = z.2)) : rowE S9 60 (E.take i ++ x :: E.drop i) := by
  refine rowE.of h4 (fun j z hz => ?_)
  show S9 2 (18000 + j) = nI z.1 ∧ S9 3 (18000 + j) = z.2
  rcases Nat.lt_trichotomy j i with q | q | q
  · rw [sp_lo (by omega) q] at hz; exact (ho j z hz).1 q
  · subst q; rw [sp_at (by omega)] at hz; cases hz; exact hx
  · rw [sp_hi (by omega) q, List.getElem?_drop] at hz
    have := (ho _ z hz).2 (by omega)
    rw [show 18000 + (i + (j - i - 1)) + 1 = 18000 + j by omega] at this
    exact this
theorem row_del {S9 : Nat → Nat → Int32} {E : En} {i : Nat} (hi : i < E.length) (h4 : S9 4 60 = nI (E.take i ++ E.drop (i + 1)).length) (ho : ∀ j z, E[j]? = some z → (j < i → S9 2 (18000 + j) = nI z.1 ∧ S9 3 (18000 + j) = z.2) ∧ (i < j → S9 2 (18000 + j - 1) = nI z.1 ∧ S9 3 (18000 + j - 1) = z.2)) : rowE S9 60 (E.take i ++ E.drop (i + 1)) := by
  refine rowE.of h4 (fun j z hz => ?_)
  show S9 2 (18000 + j) = nI z.1 ∧ S9 3 (18000 + j) = z.2
  rcases Nat.lt_or_ge j i with q | q
  · rw [sp_lo (by omega) q] at hz; exact (ho j z hz).1 q
  · rw [sp_hi2 (by omega) q, List.getElem?_drop] at hz
    have := (ho _ z hz).2 (by omega)
    rw [show 18000 + (i + 1 + (j - i)) - 1 = 18000 + j by omega] at this
    exact this
set_option maxHeartbeats 4000000 in
set_option maxRecDepth 100000 in
theorem c_X4_put (l : Launch) (g : hG) (M : hM) (y : Nat) (ad : Nat → Nat) (S : Nat → Nat → Int32) (V : Nat → Int32) (σ : cSt) (hw : RW g M y ad S V σ) (k0 v0 : Int32) : Ci l g yX4_put cX4_put 7 .int 2 0 0 [.ref y, .int k0, .int v0] M (fun r M9 => r = (sPut σ k0 v0).1 ∧ RP g M y ad M9 (sPut σ k0 v0).2) := by
  obtain ⟨hRs, ⟨hkc, hvg, hgn, hpl, hpk⟩, hk0, hk1, hv6, hrows, hnow, hdv, ⟨kw, hv7, hdn⟩, hv19, hv21, hv22, hv23, hsb⟩ := id hw
  refine hp_startI (by decide) (by exact Nat.le_of_ble_eq_true rfl) ?_
  intro p e s m below meth c Q H locs ls EE hnm ret hm hS hl
  have hx := EE.1
  have hb := EE.2.1
  have hown := EE.2.2.2.1
  have hts := EE.2.2.2.2.1
  have hl : lv_has ls 7 [(0, .ref y), (1, .int k0), (2, .int v0)] := hl
  have hF : ∀ q, ¬ rO y ad q → M q = M q := fun _ _ => rfl
  refine lv_iload_n hx hb dX4_put_0 rfl (lv_at hl 1 rfl) ?_
  refine hp_ci (hp_runS (np := 1) (k := 1) (mc := 0) (ms := 0) (As := [.int k0]) (rest := []) EE hm hS (c_X4_isKey l g M k0) ms_X4_isKey wt_X4_isKey wl_X4_182 rfl hl.1 rfl (Nat.le_of_ble_eq_true rfl) dX4_put_1 ⟨Nat.le_of_ble_eq_true rfl, Nat.le_of_ble_eq_true rfl⟩ ⟨(Nat.le_of_ble_eq_true rfl), (Nat.le_of_ble_eq_true rfl)⟩) hS (fun r1 Mx2 H locs hq3 hm hS => ?_)
  obtain ⟨rfl, h9⟩ := hq3
  rw [h9] at hm
  refine lv_if_ne (tgt := 9) hx hb dX4_put_4 (by decide) (fun c_4 => ?_) (fun c_4 => ?_)
  · have c_4 := bI_t c_4
    obtain ⟨kn, hkn, hke⟩ := isK_nat c_4
    have hcl : k0.toNatClampNeg = kn := by rw [hke]; exact nI_clamp (by omega)
    have hl : lv_has ls 7 [(0, .ref y), (1, .int (nI kn)), (2, .int v0)] := by rw [← hke]; exact hl
    have hgl := hgn.2.1
    have hn2 : ∀ j z, (sNow σ)[j]? = some z → S 2 (18000 + j) = nI z.1 ∧ S 3 (18000 + j) = z.2 := fun j z hz => hnow.q hz
    have hn4 := hnow.1
    refine lv_aload_n hx hb dX4_put_9 rfl (lv_at hl 0 rfl) ?_
    refine lv_bipush (v := 60) hx hb dX4_put_10 (by decide) ?_
    refine lv_iload_n hx hb dX4_put_12 rfl (lv_at hl 1 rfl) ?_
    refine hp_ci (hp_runV (C := RX4) (T := TX4) (N := 24) (np := 2) (k := 1) (mc := 0) (ms := 0) (As := [.int 60, .int (nI kn)]) (rest := []) EE hm hS (c_X4_find l g M y ad S V 60 (by decide) _ hgn hnow hRs kn hkn) ms_X4_find wi_X4_find ws_X4_find wl_X4_186 hRs.1 rfl rfl hl.1 rfl (Nat.le_of_ble_eq_true rfl) dX4_put_13 ⟨Nat.le_of_ble_eq_true rfl, Nat.le_of_ble_eq_true rfl⟩ ⟨(Nat.le_of_ble_eq_true rfl), (Nat.le_of_ble_eq_true rfl)⟩) hS (fun r4 Mx5 H locs hq6 hm hS => ?_)
    obtain ⟨⟨i, hri, hfn⟩, h9⟩ := hq6
    rw [h9] at hm
    subst hri
    refine lv_istore_n (lv' := [(3, .int (nI i)), (0, .ref y), (1, .int (nI kn)), (2, .int v0)]) hx hb dX4_put_16 rfl hl (by decide) rfl (fun ls hl => ?_)
    refine lv_aload_n hx hb dX4_put_17 rfl (lv_at hl 1 rfl) ?_
    refine lv_bipush (v := 60) hx hb dX4_put_18 (by decide) ?_
    refine lv_iload_n hx hb dX4_put_20 rfl (lv_at hl 0 rfl) ?_
    refine lv_iload_n hx hb dX4_put_21 rfl (lv_at hl 2 rfl) ?_
    refine hp_ci (hp_runV (C := RX4) (T := TX4) (N := 24) (np := 3) (k := 1) (mc := 0) (ms := 0) (As := [.int 60, .int (nI i), .int (nI kn)]) (rest := []) EE hm hS (c_X4_isThere l g M y ad S V 60 (by decide) _ hgn hnow hRs kn hkn i hfn) ms_X4_isThere wi_X4_isThere ws_X4_isThere wl_X4_189 hRs.1 rfl rfl hl.1 rfl (Nat.le_of_ble_eq_true rfl) dX4_put_22 ⟨Nat.le_of_ble_eq_true rfl, Nat.le_of_ble_eq_true rfl⟩ ⟨(Nat.le_of_ble_eq_true rfl), (Nat.le_of_ble_eq_true rfl)⟩) hS (fun r7 Mx8 H locs hq9 hm hS => ?_)
    obtain ⟨rfl, h9⟩ := hq9
    rw [h9] at hm
    refine lv_istore (lv' := [(4, .int (bI (hasE (sNow σ) kn))), (3, .int (nI i)), (0, .ref y), (1, .int (nI kn)), (2, .int v0)]) hx hb dX4_put_25 hl (by decide) rfl (fun ls hl => ?_)
    refine lv_iload hx hb dX4_put_27 (lv_at hl 0 rfl) ?_
    refine lv_if_ne (tgt := 48) hx hb dX4_put_29 (by decide) (fun c_29 => ?_) (fun c_29 => ?_)
    · have c_29 := bI_t c_29
      have hth : hasE (sNow σ) kn = true := c_29
      obtain ⟨hiE, hEk⟩ := fnd_in hgn.1 hfn hth
      have hil := hfn.1
      refine lv_sipush (v := 18000) hx hb dX4_put_48 (by decide) ?_
      refine lv_istore (lv' := [(5, .int 18000), (4, .int (bI (hasE (sNow σ) kn))), (3, .int (nI i)), (0, .ref y), (1, .int (nI kn)), (2, .int v0)]) hx hb dX4_put_51 hl (by decide) rfl (fun ls hl => ?_)
      refine lv_aload_n hx hb dX4_put_53 rfl (lv_at hl 3 rfl) ?_
      refine hr_get EE hm hRs 4 (by decide) wf_X4_94 (v := .ref (ad 4)) rfl dX4_put_54 ?_
      refine lv_bipush (v := 60) hx hb dX4_put_57 (by decide) ?_
      refine hr_ald EE hm hRs 4 60 (by decide) rfl (by decide) (by decide) dX4_put_59 ?_
      refine lv_istore (lv' := [(6, .int (S 4 60)), (5, .int 18000), (4, .int (bI (hasE (sNow σ) kn))), (3, .int (nI i)), (0, .ref y), (1, .int (nI kn)), (2, .int v0)]) hx hb dX4_put_60 hl (by decide) rfl (fun ls hl => ?_)
      refine lv_iload hx hb dX4_put_62 (lv_at hl 0 rfl) ?_
      refine lv_iload_n hx hb dX4_put_64 rfl (lv_at hl 3 rfl) ?_
      refine lv_icmp_le (tgt := 123) hx hb dX4_put_65 (by decide) (fun c_65 => ?_) (fun c_65 => ?_)
      · have c_65 : ((sNow σ).length) ≤ i := (leN (a := (sNow σ).length) (b := i) hn4 rfl (by omega) (by omega)).mp c_65
        refine lv_aload_n hx hb dX4_put_123 rfl (lv_at hl 4 rfl) ?_
        refine hr_get EE hm hRs 2 (by decide) wf_X4_88 (v := .ref (ad 2)) rfl dX4_put_124 ?_
        refine lv_iload hx hb dX4_put_127 (lv_at hl 1 rfl) ?_
        refine lv_iload_n hx hb dX4_put_129 rfl (lv_at hl 3 rfl) ?_
        refine lv_iadd hx hb dX4_put_130 ?_
        refine lv_iload_n hx hb dX4_put_131 rfl (lv_at hl 5 rfl) ?_
        refine hr_ast EE hm hS hRs hF 2 (18000 + i) (by decide) (add_n rfl rfl) (by show 18000 + i < 18300; omega) (by decide) dX4_put_132 (fun H locs Mx10 hm hS hRs hF => ?_)
        obtain ⟨Sx11, hSx11⟩ : ∃ z, z = sU S 2 (18000 + i) (nI kn) := ⟨_, rfl⟩
        rw [← hSx11] at hRs
        refine lv_aload_n hx hb dX4_put_133 rfl (lv_at hl 4 rfl) ?_
        refine hr_get EE hm hRs 3 (by decide) wf_X4_91 (v := .ref (ad 3)) rfl dX4_put_134 ?_
        refine lv_iload hx hb dX4_put_137 (lv_at hl 1 rfl) ?_
        refine lv_iload_n hx hb dX4_put_139 rfl (lv_at hl 3 rfl) ?_
        refine lv_iadd hx hb dX4_put_140 ?_
        refine lv_iload_n hx hb dX4_put_141 rfl (lv_at hl 6 rfl) ?_
        refine hr_ast EE hm hS hRs hF 3 (18000 + i) (by decide) (add_n rfl rfl) (by show 18000 + i < 18300; omega) (by decide) dX4_put_142 (fun H locs Mx12 hm hS hRs hF => ?_)
        obtain ⟨Sx13, hSx13⟩ : ∃ z, z = sU Sx11 3 (18000 + i) v0 := ⟨_, rfl⟩
        rw [← hSx13] at hRs
        refine lv_aload_n hx hb dX4_put_143 rfl (lv_at hl 4 rfl) ?_
        refine hr_get EE hm hRs 4 (by decide) wf_X4_94 (v := .ref (ad 4)) rfl dX4_put_144 ?_
        refine lv_bipush (v := 60) hx hb dX4_put_147 (by decide) ?_
        refine lv_iload hx hb dX4_put_149 (lv_at hl 2 rfl) ?_
        refine lv_if_eq (tgt := 164) hx hb dX4_put_151 (by decide) (fun c9 => absurd (hth.symm.trans (bI_f c9)) (by decide)) (fun _ => ?_)
        refine lv_aload_n hx hb dX4_put_154 rfl (lv_at hl 4 rfl) ?_
        refine hr_get EE hm hRs 4 (by decide) wf_X4_94 (v := .ref (ad 4)) rfl dX4_put_155 ?_
        refine lv_bipush (v := 60) hx hb dX4_put_158 (by decide) ?_
        refine hr_ald EE hm hRs 4 60 (by decide) rfl (by decide) (by decide) dX4_put_160 ?_
        refine lv_goto (tgt := 173) hx hb dX4_put_161 (by decide) ?_
        refine hr_ast EE hm hS hRs hF 4 60 (by decide) rfl (by decide) (by decide) dX4_put_173 (fun H locs Mx14 hm hS hRs hF => ?_)
        obtain ⟨Sx15, hSx15⟩ : ∃ z, z = sU Sx13 4 60 (Sx13 4 60) := ⟨_, rfl⟩
        rw [← hSx15] at hRs
        refine lv_aload_n hx hb dX4_put_174 rfl (lv_at hl 4 rfl) ?_
        refine lv_iconst (v := 0) hx hb dX4_put_175 (by decide) ?_
        refine hr_put EE hm hS hRs hF (ty := .boolean) (vU V 7 0) 7 (by decide) wf_X4_175 rfl (by decide +kernel) (by decide) (by decide) rfl dX4_put_176 (fun H locs Mx16 hm hS hRs hF => ?_)
        obtain ⟨Vx17, hVx17⟩ : ∃ z, z = vU V 7 0 := ⟨_, rfl⟩
        rw [← hVx17] at hRs
        refine lv_iload hx hb dX4_put_179 (lv_at hl 2 rfl) ?_
        refine lv_if_eq (tgt := 188) hx hb dX4_put_181 (by decide) (fun c9 => absurd (hth.symm.trans (bI_f c9)) (by decide)) (fun _ => ?_)
        refine lv_iconst (v := 0) hx hb dX4_put_184 (by decide) ?_
        refine lv_goto (tgt := 189) hx hb dX4_put_185 (by decide) ?_
        have hsp := putL_split (v := v0) hgn.1 hfn
        rw [hth] at hsp
        have hz4 : Sx13 4 60 = S 4 60 := by rw [hSx13, sU_o (by decide), hSx11, sU_o (by decide)]
        have hsp : putL kn v0 (sNow σ) = (sNow σ).take i ++ (kn, v0) :: (sNow σ).drop (i + 1) := hsp
        have hln := putL_has (v := v0) hgn.1 hth
        have hrw : rowE Sx15 60 (putL kn v0 (sNow σ)) := by
          rw [hsp]
          refine row_set hiE ?_ ?_ (fun j z hz hji => ?_)
          · rw [← hsp, hln, hSx15, sU_i, hz4, hn4]
          · rw [hSx15, sU_o (by decide), sU_o (by decide), hSx13, sU_o (by decide), sU_i, hSx11, sU_i]; exact ⟨rfl, rfl⟩
          · rw [hSx15, sU_o (by decide), sU_o (by decide), hSx13, sU_o (by decide), sU_n (by omega), hSx11, sU_n (by omega), sU_o (by decide)]; exact hn2 j z hz
        have hg9 : gE (putL kn v0 (sNow σ)) := putL_g hgn hkn (by omega)
        exact ret dX4_put_189 na_i hm hS (Nat.le_of_ble_eq_true rfl) (Nat.le_of_ble_eq_true rfl) (⟨by unfold sPut; rw [c_4, hcl, hth]; rfl, by unfold sPut; rw [c_4, hcl, hth]; exact ⟨Sx15, Vx17, hw.now hRs (by rw [hSx15, sU_o (by decide), hSx13, sU_o (by decide), hSx11, sU_o (by decide)]) (by rw [hSx15, sU_o (by decide), hSx13, sU_o (by decide), hSx11, sU_o (by decide)]) (by rw [hSx15, sU_o (by decide), hSx13, sU_o (by decide), hSx11, sU_o (by decide)]) (by rw [hSx15, sU_o (by decide), hSx13, sU_o (by decide), hSx11, sU_o (by decide)]) (fun q hq => by rw [hSx15, sU_o (by decide), sU_o (by decide), hSx13, sU_o (by decide), sU_n (by omega), hSx11, sU_n (by omega), sU_o (by decide)]; exact ⟨rfl, rfl⟩) (fun q hq => by rw [hSx15, sU_n (by omega), hSx13, sU_o (by decide), hSx11, sU_o (by decide)]) hrw hg9 (by rw [hVx17]; rfl) (by rw [hVx17]; rfl) (by rw [hVx17]; rfl) (by rw [hVx17]; rfl) (by rw [hVx17]; rfl) (by rw [hVx17]; rfl), hF⟩⟩)
      · have c_65 : ¬ ((sNow σ).length) ≤ i := fun h9 => c_65 ((leN (a := (sNow σ).length) (b := i) hn4 rfl (by omega) (by omega)).mpr h9)
        refine lv_iload hx hb dX4_put_68 (lv_at hl 2 rfl) ?_
        refine lv_if_ne (tgt := 123) hx hb dX4_put_70 (by decide) (fun _ => ?_) (fun c9 => absurd (hth.symm.trans (bI_f c9)) (by decide))
        refine lv_aload_n hx hb dX4_put_123 rfl (lv_at hl 4 rfl) ?_
        refine hr_get EE hm hRs 2 (by decide) wf_X4_88 (v := .ref (ad 2)) rfl dX4_put_124 ?_
        refine lv_iload hx hb dX4_put_127 (lv_at hl 1 rfl) ?_
        refine lv_iload_n hx hb dX4_put_129 rfl (lv_at hl 3 rfl) ?_
        refine lv_iadd hx hb dX4_put_130 ?_
        refine lv_iload_n hx hb dX4_put_131 rfl (lv_at hl 5 rfl) ?_
        refine hr_ast EE hm hS hRs hF 2 (18000 + i) (by decide) (add_n rfl rfl) (by show 18000 + i < 18300; omega) (by decide) dX4_put_132 (fun H locs Mx18 hm hS hRs hF => ?_)
        obtain ⟨Sx19, hSx19⟩ : ∃ z, z = sU S 2 (18000 + i) (nI kn) := ⟨_, rfl⟩
        rw [← hSx19] at hRs
        refine lv_aload_n hx hb dX4_put_133 rfl (lv_at hl 4 rfl) ?_
        refine hr_get EE hm hRs 3 (by decide) wf_X4_91 (v := .ref (ad 3)) rfl dX4_put_134 ?_
        refine lv_iload hx hb dX4_put_137 (lv_at hl 1 rfl) ?_
        refine lv_iload_n hx hb dX4_put_139 rfl (lv_at hl 3 rfl) ?_
        refine lv_iadd hx hb dX4_put_140 ?_
        refine lv_iload_n hx hb dX4_put_141 rfl (lv_at hl 6 rfl) ?_
        refine hr_ast EE hm hS hRs hF 3 (18000 + i) (by decide) (add_n rfl rfl) (by show 18000 + i < 18300; omega) (by decide) dX4_put_142 (fun H locs Mx20 hm hS hRs hF => ?_)
        obtain ⟨Sx21, hSx21⟩ : ∃ z, z = sU Sx19 3 (18000 + i) v0 := ⟨_, rfl⟩
        rw [← hSx21] at hRs
        refine lv_aload_n hx hb dX4_put_143 rfl (lv_at hl 4 rfl) ?_
        refine hr_get EE hm hRs 4 (by decide) wf_X4_94 (v := .ref (ad 4)) rfl dX4_put_144 ?_
        refine lv_bipush (v := 60) hx hb dX4_put_147 (by decide) ?_
        refine lv_iload hx hb dX4_put_149 (lv_at hl 2 rfl) ?_
        refine lv_if_eq (tgt := 164) hx hb dX4_put_151 (by decide) (fun c9 => absurd (hth.symm.trans (bI_f c9)) (by decide)) (fun _ => ?_)
        refine lv_aload_n hx hb dX4_put_154 rfl (lv_at hl 4 rfl) ?_
        refine hr_get EE hm hRs 4 (by decide) wf_X4_94 (v := .ref (ad 4)) rfl dX4_put_155 ?_
        refine lv_bipush (v := 60) hx hb dX4_put_158 (by decide) ?_
        refine hr_ald EE hm hRs 4 60 (by decide) rfl (by decide) (by decide) dX4_put_160 ?_
        refine lv_goto (tgt := 173) hx hb dX4_put_161 (by decide) ?_
        refine hr_ast EE hm hS hRs hF 4 60 (by decide) rfl (by decide) (by decide) dX4_put_173 (fun H locs Mx22 hm hS hRs hF => ?_)
        obtain ⟨Sx23, hSx23⟩ : ∃ z, z = sU Sx21 4 60 (Sx21 4 60) := ⟨_, rfl⟩
        rw [← hSx23] at hRs
        refine lv_aload_n hx hb dX4_put_174 rfl (lv_at hl 4 rfl) ?_
        refine lv_iconst (v := 0) hx hb dX4_put_175 (by decide) ?_
        refine hr_put EE hm hS hRs hF (ty := .boolean) (vU V 7 0) 7 (by decide) wf_X4_175 rfl (by decide +kernel) (by decide) (by decide) rfl dX4_put_176 (fun H locs Mx24 hm hS hRs hF => ?_)
        obtain ⟨Vx25, hVx25⟩ : ∃ z, z = vU V 7 0 := ⟨_, rfl⟩
        rw [← hVx25] at hRs
        refine lv_iload hx hb dX4_put_179 (lv_at hl 2 rfl) ?_
        refine lv_if_eq (tgt := 188) hx hb dX4_put_181 (by decide) (fun c9 => absurd (hth.symm.trans (bI_f c9)) (by decide)) (fun _ => ?_)
        refine lv_iconst (v := 0) hx hb dX4_put_184 (by decide) ?_
        refine lv_goto (tgt := 189) hx hb dX4_put_185 (by decide) ?_
        have hsp := putL_split (v := v0) hgn.1 hfn
        rw [hth] at hsp
        have hz4 : Sx21 4 60 = S 4 60 := by rw [hSx21, sU_o (by decide), hSx19, sU_o (by decide)]
        have hsp : putL kn v0 (sNow σ) = (sNow σ).take i ++ (kn, v0) :: (sNow σ).drop (i + 1) := hsp
        have hln := putL_has (v := v0) hgn.1 hth
        have hrw : rowE Sx23 60 (putL kn v0 (sNow σ)) := by
          rw [hsp]
          refine row_set hiE ?_ ?_ (fun j z hz hji => ?_)
          · rw [← hsp, hln, hSx23, sU_i, hz4, hn4]
          · rw [hSx23, sU_o (by decide), sU_o (by decide), hSx21, sU_o (by decide), sU_i, hSx19, sU_i]; exact ⟨rfl, rfl⟩
          · rw [hSx23, sU_o (by decide), sU_o (by decide), hSx21, sU_o (by decide), sU_n (by omega), hSx19, sU_n (by omega), sU_o (by decide)]; exact hn2 j z hz
        have hg9 : gE (putL kn v0 (sNow σ)) := putL_g hgn hkn (by omega)
        exact ret dX4_put_189 na_i hm hS (Nat.le_of_ble_eq_true rfl) (Nat.le_of_ble_eq_true rfl) (⟨by unfold sPut; rw [c_4, hcl, hth]; rfl, by unfold sPut; rw [c_4, hcl, hth]; exact ⟨Sx23, Vx25, hw.now hRs (by rw [hSx23, sU_o (by decide), hSx21, sU_o (by decide), hSx19, sU_o (by decide)]) (by rw [hSx23, sU_o (by decide), hSx21, sU_o (by decide), hSx19, sU_o (by decide)]) (by rw [hSx23, sU_o (by decide), hSx21, sU_o (by decide), hSx19, sU_o (by decide)]) (by rw [hSx23, sU_o (by decide), hSx21, sU_o (by decide), hSx19, sU_o (by decide)]) (fun q hq => by rw [hSx23, sU_o (by decide), sU_o (by decide), hSx21, sU_o (by decide), sU_n (by omega), hSx19, sU_n (by omega), sU_o (by decide)]; exact ⟨rfl, rfl⟩) (fun q hq => by rw [hSx23, sU_n (by omega), hSx21, sU_o (by decide), hSx19, sU_o (by decide)]) hrw hg9 (by rw [hVx25]; rfl) (by rw [hVx25]; rfl) (by rw [hVx25]; rfl) (by rw [hVx25]; rfl) (by rw [hVx25]; rfl) (by rw [hVx25]; rfl), hF⟩⟩)
    · have c_29 := bI_f c_29
      have hth : hasE (sNow σ) kn = false := c_29
      have hil := hfn.1
      refine lv_aload_n hx hb dX4_put_32 rfl (lv_at hl 2 rfl) ?_
      refine hr_get EE hm hRs 4 (by decide) wf_X4_94 (v := .ref (ad 4)) rfl dX4_put_33 ?_
      refine lv_bipush (v := 60) hx hb dX4_put_36 (by decide) ?_
      refine hr_ald EE hm hRs 4 60 (by decide) rfl (by decide) (by decide) dX4_put_38 ?_
      refine lv_sipush (v := 300) hx hb dX4_put_39 (by decide) ?_
      refine lv_icmp_ne (tgt := 48) hx hb dX4_put_42 (by decide) (fun c_42 => ?_) (fun c_42 => ?_)
      · have c_42 : ¬ ((sNow σ).length) = 300 := fun h9 => c_42 ((eqN (a := (sNow σ).length) (b := 300) hn4 rfl (by omega) (by decide)).mpr h9)
        refine lv_sipush (v := 18000) hx hb dX4_put_48 (by decide) ?_
        refine lv_istore (lv' := [(5, .int 18000), (4, .int (bI (hasE (sNow σ) kn))), (3, .int (nI i)), (0, .ref y), (1, .int (nI kn)), (2, .int v0)]) hx hb dX4_put_51 hl (by decide) rfl (fun ls hl => ?_)
        refine lv_aload_n hx hb dX4_put_53 rfl (lv_at hl 3 rfl) ?_
        refine hr_get EE hm hRs 4 (by decide) wf_X4_94 (v := .ref (ad 4)) rfl dX4_put_54 ?_
        refine lv_bipush (v := 60) hx hb dX4_put_57 (by decide) ?_
        refine hr_ald EE hm hRs 4 60 (by decide) rfl (by decide) (by decide) dX4_put_59 ?_
        refine lv_istore (lv' := [(6, .int (S 4 60)), (5, .int 18000), (4, .int (bI (hasE (sNow σ) kn))), (3, .int (nI i)), (0, .ref y), (1, .int (nI kn)), (2, .int v0)]) hx hb dX4_put_60 hl (by decide) rfl (fun ls hl => ?_)
        have lp : ∀ (n kk : Nat) (M1 : hM) (S1 : Nat → Nat → Int32)   (H : Heap) (locs : List Loc) (ls : Array Slot), kk + 1 ≤ i + n → i ≤ kk → kk ≤ (sNow σ).length → (∀ k9, k9 ≠ 2 ∧ k9 ≠ 3 → S1 k9 = S k9) → (∀ q, q < 18000 → S1 2 q = S 2 q ∧ S1 3 q = S 3 q) → (∀ j z, (sNow σ)[j]? = some z → (j < kk → S1 2 (18000 + j) = nI z.1 ∧ S1 3 (18000 + j) = z.2) ∧ (kk ≤ j → S1 2 (18000 + j + 1) = nI z.1 ∧ S1 3 (18000 + j + 1) = z.2)) → RS g M1 y ad S1 V → (∀ q, ¬ rO y ad q → M1 q = M q) → hp g M1 H → va_S (hA g) s.heap H locs → lv_has ls 7 [(6, .int (nI kk)), (5, .int 18000), (4, .int (bI (hasE (sNow σ) kn))), (3, .int (nI i)), (0, .ref y), (1, .int (nI kn)), (2, .int v0)] → W p l e (hR 2 0 0) s m [.ref y, .int k0, .int v0].toArray below meth c H locs 0 0 Q (F0 m 62 ls []) := by
          intro n
          induction n with
          | zero => intro kk M1 S1 H locs ls hn hik hkl hoth hlow hpos; exact absurd hn (by omega)
          | succ n ih =>
            intro kk M1 S1 H locs ls hn hik hkl hoth hlow hpos hRs hF hm hS hl
            refine lv_iload hx hb dX4_put_62 (lv_at hl 0 rfl) ?_
            refine lv_iload_n hx hb dX4_put_64 rfl (lv_at hl 3 rfl) ?_
            refine lv_icmp_le (tgt := 123) hx hb dX4_put_65 (by decide) (fun c_65 => ?_) (fun c_65 => ?_)
            · have c_65 : kk ≤ i := (leN (a := kk) (b := i) rfl rfl (by omega) (by omega)).mp c_65
              have hki : kk = i := by omega
              refine lv_aload_n hx hb dX4_put_123 rfl (lv_at hl 4 rfl) ?_
              refine hr_get EE hm hRs 2 (by decide) wf_X4_88 (v := .ref (ad 2)) rfl dX4_put_124 ?_
              refine lv_iload hx hb dX4_put_127 (lv_at hl 1 rfl) ?_
              refine lv_iload_n hx hb dX4_put_129 rfl (lv_at hl 3 rfl) ?_
              refine lv_iadd hx hb dX4_put_130 ?_
              refine lv_iload_n hx hb dX4_put_131 rfl (lv_at hl 5 rfl) ?_
              refine hr_ast EE hm hS hRs hF 2 (18000 + i) (by decide) (add_n rfl rfl) (by show 18000 + i < 18300; omega) (by decide) dX4_put_132 (fun H locs Mx26 hm hS hRs hF => ?_)
              obtain ⟨Sx27, hSx27⟩ : ∃ z, z = sU S1 2 (18000 + i) (nI kn) := ⟨_, rfl⟩
              rw [← hSx27] at hRs
              refine lv_aload_n hx hb dX4_put_133 rfl (lv_at hl 4 rfl) ?_
              refine hr_get EE hm hRs 3 (by decide) wf_X4_91 (v := .ref (ad 3)) rfl dX4_put_134 ?_
              refine lv_iload hx hb dX4_put_137 (lv_at hl 1 rfl) ?_
              refine lv_iload_n hx hb dX4_put_139 rfl (lv_at hl 3 rfl) ?_
              refine lv_iadd hx hb dX4_put_140 ?_
              refine lv_iload_n hx hb dX4_put_141 rfl (lv_at hl 6 rfl) ?_
              refine hr_ast EE hm hS hRs hF 3 (18000 + i) (by decide) (add_n rfl rfl) (by show 18000 + i < 18300; omega) (by decide) dX4_put_142 (fun H locs Mx28 hm hS hRs hF => ?_)
              obtain ⟨Sx29, hSx29⟩ : ∃ z, z = sU Sx27 3 (18000 + i) v0 := ⟨_, rfl⟩
              rw [← hSx29] at hRs
              refine lv_aload_n hx hb dX4_put_143 rfl (lv_at hl 4 rfl) ?_
              refine hr_get EE hm hRs 4 (by decide) wf_X4_94 (v := .ref (ad 4)) rfl dX4_put_144 ?_
              refine lv_bipush (v := 60) hx hb dX4_put_147 (by decide) ?_
              refine lv_iload hx hb dX4_put_149 (lv_at hl 2 rfl) ?_
              refine lv_if_eq (tgt := 164) hx hb dX4_put_151 (by decide) (fun _ => ?_) (fun c9 => absurd (hth.symm.trans (bI_t c9)) (by decide))
              refine lv_aload_n hx hb dX4_put_164 rfl (lv_at hl 4 rfl) ?_
              refine hr_get EE hm hRs 4 (by decide) wf_X4_94 (v := .ref (ad 4)) rfl dX4_put_165 ?_
              refine lv_bipush (v := 60) hx hb dX4_put_168 (by decide) ?_
              refine hr_ald EE hm hRs 4 60 (by decide) rfl (by decide) (by decide) dX4_put_170 ?_
              refine lv_iconst (v := 1) hx hb dX4_put_171 (by decide) ?_
              refine lv_iadd hx hb dX4_put_172 ?_
              refine hr_ast EE hm hS hRs hF 4 60 (by decide) rfl (by decide) (by decide) dX4_put_173 (fun H locs Mx30 hm hS hRs hF => ?_)
              obtain ⟨Sx31, hSx31⟩ : ∃ z, z = sU Sx29 4 60 ((Sx29 4 60) + 1) := ⟨_, rfl⟩
              rw [← hSx31] at hRs
              refine lv_aload_n hx hb dX4_put_174 rfl (lv_at hl 4 rfl) ?_
              refine lv_iconst (v := 0) hx hb dX4_put_175 (by decide) ?_
              refine hr_put EE hm hS hRs hF (ty := .boolean) (vU V 7 0) 7 (by decide) wf_X4_175 rfl (by decide +kernel) (by decide) (by decide) rfl dX4_put_176 (fun H locs Mx32 hm hS hRs hF => ?_)
              obtain ⟨Vx33, hVx33⟩ : ∃ z, z = vU V 7 0 := ⟨_, rfl⟩
              rw [← hVx33] at hRs
              refine lv_iload hx hb dX4_put_179 (lv_at hl 2 rfl) ?_
              refine lv_if_eq (tgt := 188) hx hb dX4_put_181 (by decide) (fun _ => ?_) (fun c9 => absurd (hth.symm.trans (bI_t c9)) (by decide))
              refine lv_iconst (v := 1) hx hb dX4_put_188 (by decide) ?_
              have hsp := putL_split (v := v0) hgn.1 hfn
              rw [hth] at hsp
              have hz4 : Sx29 4 60 = S 4 60 := by rw [hSx29, sU_o (by decide), hSx27, sU_o (by decide), hoth 4 ⟨by decide, by decide⟩]
              have hsp : putL kn v0 (sNow σ) = (sNow σ).take i ++ (kn, v0) :: (sNow σ).drop i := hsp
              have hln : (putL kn v0 (sNow σ)).length = (sNow σ).length + 1 := by rw [hsp, List.length_append, List.length_cons, List.length_take, List.length_drop]; omega
              have hrw : rowE Sx31 60 (putL kn v0 (sNow σ)) := by
                rw [hsp]
                refine row_ins hil ?_ ?_ (fun j z hz => ?_)
                · rw [← hsp, hln, hSx31, sU_i, hz4, hn4]; exact nI_1 _
                · rw [hSx31, sU_o (by decide), sU_o (by decide), hSx29, sU_o (by decide), sU_i, hSx27, sU_i]; exact ⟨rfl, rfl⟩
                · have hj0 := hpos j z hz
                  refine ⟨fun t => ?_, fun t => ?_⟩
                  · rw [hSx31, sU_o (by decide), sU_o (by decide), hSx29, sU_o (by decide), sU_n (by omega), hSx27, sU_n (by omega), sU_o (by decide)]; exact hj0.1 (by omega)
                  · rw [hSx31, sU_o (by decide), sU_o (by decide), hSx29, sU_o (by decide), sU_n (by omega), hSx27, sU_n (by omega), sU_o (by decide)]; exact hj0.2 (by omega)
              have hg9 : gE (putL kn v0 (sNow σ)) := putL_g hgn hkn (by omega)
              exact ret dX4_put_189 na_i hm hS (Nat.le_of_ble_eq_true rfl) (Nat.le_of_ble_eq_true rfl) (⟨by unfold sPut; simp only [c_4, hcl, hth, if_neg c_42]; rfl, by unfold sPut; simp only [c_4, hcl, hth, if_neg c_42]; exact ⟨Sx31, Vx33, hw.now hRs (by rw [hSx31, sU_o (by decide), hSx29, sU_o (by decide), hSx27, sU_o (by decide), hoth _ ⟨by decide, by decide⟩]) (by rw [hSx31, sU_o (by decide), hSx29, sU_o (by decide), hSx27, sU_o (by decide), hoth _ ⟨by decide, by decide⟩]) (by rw [hSx31, sU_o (by decide), hSx29, sU_o (by decide), hSx27, sU_o (by decide), hoth _ ⟨by decide, by decide⟩]) (by rw [hSx31, sU_o (by decide), hSx29, sU_o (by decide), hSx27, sU_o (by decide), hoth _ ⟨by decide, by decide⟩]) (fun q hq => by rw [hSx31, sU_o (by decide), sU_o (by decide), hSx29, sU_o (by decide), sU_n (by omega), hSx27, sU_n (by omega), sU_o (by decide)]; exact hlow q hq) (fun q hq => by rw [hSx31, sU_n (by omega), hSx29, sU_o (by decide), hSx27, sU_o (by decide), hoth 4 ⟨by decide, by decide⟩]) hrw hg9 (by rw [hVx33]; rfl) (by rw [hVx33]; rfl) (by rw [hVx33]; rfl) (by rw [hVx33]; rfl) (by rw [hVx33]; rfl) (by rw [hVx33]; rfl), hF⟩⟩)
            · have c_65 : ¬ kk ≤ i := fun h9 => c_65 ((leN (a := kk) (b := i) rfl rfl (by omega) (by omega)).mpr h9)
              refine lv_iload hx hb dX4_put_68 (lv_at hl 2 rfl) ?_
              refine lv_if_ne (tgt := 123) hx hb dX4_put_70 (by decide) (fun c9 => absurd (hth.symm.trans (bI_t c9)) (by decide)) (fun _ => ?_)
              obtain ⟨k1, hk1⟩ : ∃ k1, kk = k1 + 1 := ⟨kk - 1, by omega⟩
              subst hk1
              refine lv_aload_n hx hb dX4_put_73 rfl (lv_at hl 4 rfl) ?_
              refine hr_get EE hm hRs 2 (by decide) wf_X4_88 (v := .ref (ad 2)) rfl dX4_put_74 ?_
              refine lv_iload hx hb dX4_put_77 (lv_at hl 1 rfl) ?_
              refine lv_iload hx hb dX4_put_79 (lv_at hl 0 rfl) ?_
              refine lv_iadd hx hb dX4_put_81 ?_
              refine lv_aload_n hx hb dX4_put_82 rfl (lv_at hl 4 rfl) ?_
              refine hr_get EE hm hRs 2 (by decide) wf_X4_88 (v := .ref (ad 2)) rfl dX4_put_83 ?_
              refine lv_iload hx hb dX4_put_86 (lv_at hl 1 rfl) ?_
              refine lv_iload hx hb dX4_put_88 (lv_at hl 0 rfl) ?_
              refine lv_iadd hx hb dX4_put_90 ?_
              refine lv_iconst (v := 1) hx hb dX4_put_91 (by decide) ?_
              refine lv_isub hx hb dX4_put_92 ?_
              refine hr_ald EE hm hRs 2 ((18000 + (k1 + 1)) - 1) (by decide) (sub_n (add_n rfl rfl) rfl (by omega)) (by show (18000 + (k1 + 1)) - 1 < 18300; omega) (by decide) dX4_put_93 ?_
              refine hr_ast EE hm hS hRs hF 2 (18000 + (k1 + 1)) (by decide) (add_n rfl rfl) (by show 18000 + (k1 + 1) < 18300; omega) (by decide) dX4_put_94 (fun H locs Mx34 hm hS hRs hF => ?_)
              obtain ⟨Sx35, hSx35⟩ : ∃ z, z = sU S1 2 (18000 + (k1 + 1)) (S1 2 ((18000 + (k1 + 1)) - 1)) := ⟨_, rfl⟩
              rw [← hSx35] at hRs
              refine lv_aload_n hx hb dX4_put_95 rfl (lv_at hl 4 rfl) ?_
              refine hr_get EE hm hRs 3 (by decide) wf_X4_91 (v := .ref (ad 3)) rfl dX4_put_96 ?_
              refine lv_iload hx hb dX4_put_99 (lv_at hl 1 rfl) ?_
              refine lv_iload hx hb dX4_put_101 (lv_at hl 0 rfl) ?_
              refine lv_iadd hx hb dX4_put_103 ?_
              refine lv_aload_n hx hb dX4_put_104 rfl (lv_at hl 4 rfl) ?_
              refine hr_get EE hm hRs 3 (by decide) wf_X4_91 (v := .ref (ad 3)) rfl dX4_put_105 ?_
              refine lv_iload hx hb dX4_put_108 (lv_at hl 1 rfl) ?_
              refine lv_iload hx hb dX4_put_110 (lv_at hl 0 rfl) ?_
              refine lv_iadd hx hb dX4_put_112 ?_
              refine lv_iconst (v := 1) hx hb dX4_put_113 (by decide) ?_
              refine lv_isub hx hb dX4_put_114 ?_
              refine hr_ald EE hm hRs 3 ((18000 + (k1 + 1)) - 1) (by decide) (sub_n (add_n rfl rfl) rfl (by omega)) (by show (18000 + (k1 + 1)) - 1 < 18300; omega) (by decide) dX4_put_115 ?_
              refine hr_ast EE hm hS hRs hF 3 (18000 + (k1 + 1)) (by decide) (add_n rfl rfl) (by show 18000 + (k1 + 1) < 18300; omega) (by decide) dX4_put_116 (fun H locs Mx36 hm hS hRs hF => ?_)
              obtain ⟨Sx37, hSx37⟩ : ∃ z, z = sU Sx35 3 (18000 + (k1 + 1)) (Sx35 3 ((18000 + (k1 + 1)) - 1)) := ⟨_, rfl⟩
              rw [← hSx37] at hRs
              refine lv_iinc (v := nI k1) (lv' := [(6, .int (nI k1)), (5, .int 18000), (4, .int (bI (hasE (sNow σ) kn))), (3, .int (nI i)), (0, .ref y), (1, .int (nI kn)), (2, .int v0)]) hx hb dX4_put_117 hl (k := 0) rfl (pk_m1 k1) (by decide) rfl (fun ls hl => ?_)
              refine lv_goto (tgt := 62) hx hb dX4_put_120 (by decide) ?_
              refine ih k1 Mx36 Sx37 H locs ls (by omega) (by omega) (by omega) (fun k9 hk9 => ?_) (fun q hq => ?_) (fun j z hz => ?_) hRs hF hm hS (lv_sub hl [0, 1, 2, 3, 4, 5, 6] rfl)
              · rw [hSx37, sU_o hk9.2, hSx35, sU_o hk9.1]; exact hoth k9 hk9
              · rw [hSx37, sU_o (by decide), sU_n (by omega), hSx35, sU_n (by omega), sU_o (by decide)]; exact hlow q hq
              · have hj0 := hpos j z hz
                refine ⟨fun t => ?_, fun t => ?_⟩
                · rw [hSx37, sU_o (by decide), sU_n (by omega), hSx35, sU_n (by omega), sU_o (by decide)]; exact hj0.1 (by omega)
                · by_cases t2 : j = k1
                  · have hz1 := hj0.1 (by omega)
                    subst t2
                    have e1 : 18000 + (j + 1) - 1 = 18000 + j := by omega
                    rw [hSx37, sU_o (by decide), show 18000 + j + 1 = 18000 + (j + 1) by omega, sU_i, hSx35, sU_i, sU_o (by decide), e1]
                    exact hz1
                  · rw [hSx37, sU_o (by decide), sU_n (by omega), hSx35, sU_n (by omega), sU_o (by decide)]; exact hj0.2 (by omega)
        exact lp ((sNow σ).length - i + 1) (sNow σ).length M S H locs ls (by omega) hil (Nat.le_refl _) (fun _ _ => rfl) (fun _ _ => ⟨rfl, rfl⟩) (fun j z hz => ⟨fun _ => hn2 j z hz, fun h => absurd (q_lt hz) (by omega)⟩) hRs hF hm hS (lv_sub hl [0, 1, 2, 3, 4, 5, 6] (by rw [← hn4]; rfl))
      · have c_42 : ((sNow σ).length) = 300 := (eqN (a := (sNow σ).length) (b := 300) hn4 rfl (by omega) (by decide)).mp c_42
        refine lv_bipush (v := (-3)) hx hb dX4_put_45 (by decide) ?_
        exact ret dX4_put_47 na_i hm hS (Nat.le_of_ble_eq_true rfl) (Nat.le_of_ble_eq_true rfl) (⟨by unfold sPut; rw [c_4, hcl, c_29, if_pos c_42]; rfl, by unfold sPut; rw [c_4, hcl, c_29, if_pos c_42]; exact RP.rf hw⟩)
  · have c_4 := bI_f c_4
    refine lv_iconst (v := (-1)) hx hb dX4_put_7 (by decide) ?_
    exact ret dX4_put_8 na_i hm hS (Nat.le_of_ble_eq_true rfl) (Nat.le_of_ble_eq_true rfl) (⟨by unfold sPut; rw [c_4]; rfl, by unfold sPut; rw [c_4]; exact RP.rf hw⟩)
