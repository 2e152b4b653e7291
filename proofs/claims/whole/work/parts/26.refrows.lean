set_option maxHeartbeats 4000000 in
set_option maxRecDepth 100000 in
theorem c_X4_remove (l : Launch) (g : hG) (M : hM) (y : Nat) (ad : Nat → Nat) (S : Nat → Nat → Int32) (V : Nat → Int32) (σ : cSt) (hw : RW g M y ad S V σ) (k0 : Int32) : Ci l g yX4_remove cX4_remove 5 .int 2 0 0 [.ref y, .int k0] M (fun r M9 => r = (sRem σ k0).1 ∧ RP g M y ad M9 (sRem σ k0).2) := by
  obtain ⟨hRs, ⟨hkc, hvg, hgn, hpl, hpk⟩, hk0, hk1, hv6, hrows, hnow, hdv, ⟨kw, hv7, hdn⟩, hv19, hv21, hv22, hv23, hsb⟩ := id hw
  refine hp_startI (by decide) (by exact Nat.le_of_ble_eq_true rfl) ?_
  intro p e s m below meth c Q H locs ls EE hnm ret hm hS hl
  have hx := EE.1
  have hb := EE.2.1
  have hown := EE.2.2.2.1
  have hts := EE.2.2.2.2.1
  have hl : lv_has ls 5 [(0, .ref y), (1, .int k0)] := hl
  have hF : ∀ q, ¬ rO y ad q → M q = M q := fun _ _ => rfl
  refine lv_iload_n hx hb dX4_remove_0 rfl (lv_at hl 1 rfl) ?_
  refine hp_ci (hp_runS (np := 1) (k := 1) (mc := 0) (ms := 0) (As := [.int k0]) (rest := []) EE hm hS (c_X4_isKey l g M k0) ms_X4_isKey wt_X4_isKey wl_X4_182 rfl hl.1 rfl (Nat.le_of_ble_eq_true rfl) dX4_remove_1 ⟨Nat.le_of_ble_eq_true rfl, Nat.le_of_ble_eq_true rfl⟩ ⟨(Nat.le_of_ble_eq_true rfl), (Nat.le_of_ble_eq_true rfl)⟩) hS (fun r1 Mx2 H locs hq3 hm hS => ?_)
  obtain ⟨rfl, h9⟩ := hq3
  rw [h9] at hm
  refine lv_if_ne (tgt := 9) hx hb dX4_remove_4 (by decide) (fun c_4 => ?_) (fun c_4 => ?_)
  · have c_4 := bI_t c_4
    obtain ⟨kn, hkn, hke⟩ := isK_nat c_4
    have hcl : k0.toNatClampNeg = kn := by rw [hke]; exact nI_clamp (by omega)
    have hl : lv_has ls 5 [(0, .ref y), (1, .int (nI kn))] := by rw [← hke]; exact hl
    have hgl := hgn.2.1
    have hn2 : ∀ j z, (sNow σ)[j]? = some z → S 2 (18000 + j) = nI z.1 ∧ S 3 (18000 + j) = z.2 := fun j z hz => hnow.q hz
    have hn4 := hnow.1
    refine lv_aload_n hx hb dX4_remove_9 rfl (lv_at hl 0 rfl) ?_
    refine lv_bipush (v := 60) hx hb dX4_remove_10 (by decide) ?_
    refine lv_iload_n hx hb dX4_remove_12 rfl (lv_at hl 1 rfl) ?_
    refine hp_ci (hp_runV (C := RX4) (T := TX4) (N := 24) (np := 2) (k := 1) (mc := 0) (ms := 0) (As := [.int 60, .int (nI kn)]) (rest := []) EE hm hS (c_X4_find l g M y ad S V 60 (by decide) _ hgn hnow hRs kn hkn) ms_X4_find wi_X4_find ws_X4_find wl_X4_186 hRs.1 rfl rfl hl.1 rfl (Nat.le_of_ble_eq_true rfl) dX4_remove_13 ⟨Nat.le_of_ble_eq_true rfl, Nat.le_of_ble_eq_true rfl⟩ ⟨(Nat.le_of_ble_eq_true rfl), (Nat.le_of_ble_eq_true rfl)⟩) hS (fun r4 Mx5 H locs hq6 hm hS => ?_)
    obtain ⟨⟨i, hri, hfn⟩, h9⟩ := hq6
    rw [h9] at hm
    subst hri
    refine lv_istore_n (lv' := [(2, .int (nI i)), (0, .ref y), (1, .int (nI kn))]) hx hb dX4_remove_16 rfl hl (by decide) rfl (fun ls hl => ?_)
    refine lv_aload_n hx hb dX4_remove_17 rfl (lv_at hl 1 rfl) ?_
    refine lv_bipush (v := 60) hx hb dX4_remove_18 (by decide) ?_
    refine lv_iload_n hx hb dX4_remove_20 rfl (lv_at hl 0 rfl) ?_
    refine lv_iload_n hx hb dX4_remove_21 rfl (lv_at hl 2 rfl) ?_
    refine hp_ci (hp_runV (C := RX4) (T := TX4) (N := 24) (np := 3) (k := 1) (mc := 0) (ms := 0) (As := [.int 60, .int (nI i), .int (nI kn)]) (rest := []) EE hm hS (c_X4_isThere l g M y ad S V 60 (by decide) _ hgn hnow hRs kn hkn i hfn) ms_X4_isThere wi_X4_isThere ws_X4_isThere wl_X4_189 hRs.1 rfl rfl hl.1 rfl (Nat.le_of_ble_eq_true rfl) dX4_remove_22 ⟨Nat.le_of_ble_eq_true rfl, Nat.le_of_ble_eq_true rfl⟩ ⟨(Nat.le_of_ble_eq_true rfl), (Nat.le_of_ble_eq_true rfl)⟩) hS (fun r7 Mx8 H locs hq9 hm hS => ?_)
    obtain ⟨rfl, h9⟩ := hq9
    rw [h9] at hm
    refine lv_if_ne (tgt := 30) hx hb dX4_remove_25 (by decide) (fun c_25 => ?_) (fun c_25 => ?_)
    · have c_25 := bI_t c_25
      have hth : hasE (sNow σ) kn = true := c_25
      obtain ⟨hiE, hEk⟩ := fnd_in hgn.1 hfn hth
      refine lv_sipush (v := 18000) hx hb dX4_remove_30 (by decide) ?_
      refine lv_istore_n (lv' := [(3, .int 18000), (2, .int (nI i)), (0, .ref y), (1, .int (nI kn))]) hx hb dX4_remove_33 rfl hl (by decide) rfl (fun ls hl => ?_)
      refine lv_aload_n hx hb dX4_remove_34 rfl (lv_at hl 2 rfl) ?_
      refine hr_get EE hm hRs 4 (by decide) wf_X4_94 (v := .ref (ad 4)) rfl dX4_remove_35 ?_
      refine lv_bipush (v := 60) hx hb dX4_remove_38 (by decide) ?_
      refine lv_dup2_11 hx hb dX4_remove_40 rfl rfl ?_
      refine hr_ald EE hm hRs 4 60 (by decide) rfl (by decide) (by decide) dX4_remove_41 ?_
      refine lv_iconst (v := 1) hx hb dX4_remove_42 (by decide) ?_
      refine lv_isub hx hb dX4_remove_43 ?_
      refine hr_ast EE hm hS hRs hF 4 60 (by decide) rfl (by decide) (by decide) dX4_remove_44 (fun H locs Mx10 hm hS hRs hF => ?_)
      obtain ⟨Sx11, hSx11⟩ : ∃ z, z = sU S 4 60 ((S 4 60) - 1) := ⟨_, rfl⟩
      rw [← hSx11] at hRs
      have h40 : Sx11 4 60 = nI ((sNow σ).length - 1) := by rw [hSx11, sU_i]; exact sub_n hn4 rfl (by omega)
      refine lv_iload_n hx hb dX4_remove_45 rfl (lv_at hl 1 rfl) ?_
      refine lv_istore (lv' := [(4, .int (nI i)), (3, .int 18000), (2, .int (nI i)), (0, .ref y), (1, .int (nI kn))]) hx hb dX4_remove_46 hl (by decide) rfl (fun ls hl => ?_)
      have lp : ∀ (n kk : Nat) (M1 : hM) (S1 : Nat → Nat → Int32)   (H : Heap) (locs : List Loc) (ls : Array Slot), (sNow σ).length ≤ kk + n → i ≤ kk → kk ≤ (sNow σ).length - 1 → (∀ k9, k9 ≠ 2 ∧ k9 ≠ 3 → S1 k9 = Sx11 k9) → (∀ q, q < 18000 → S1 2 q = S 2 q ∧ S1 3 q = S 3 q) → (∀ j z, (sNow σ)[j]? = some z → (j < i → S1 2 (18000 + j) = nI z.1 ∧ S1 3 (18000 + j) = z.2) ∧ (i < j → j ≤ kk → S1 2 (18000 + j - 1) = nI z.1 ∧ S1 3 (18000 + j - 1) = z.2) ∧ (kk < j → S1 2 (18000 + j) = nI z.1 ∧ S1 3 (18000 + j) = z.2)) → RS g M1 y ad S1 V → (∀ q, ¬ rO y ad q → M1 q = M q) → hp g M1 H → va_S (hA g) s.heap H locs → lv_has ls 5 [(4, .int (nI kk)), (3, .int 18000), (2, .int (nI i)), (0, .ref y), (1, .int (nI kn))] → W p l e (hR 2 0 0) s m [.ref y, .int k0].toArray below meth c H locs 0 0 Q (F0 m 48 ls []) := by
        intro n
        induction n with
        | zero => intro kk M1 S1 H locs ls hn hik hkl hoth hlow hpos; exact absurd hn (by omega)
        | succ n ih =>
          intro kk M1 S1 H locs ls hn hik hkl hoth hlow hpos hRs hF hm hS hl
          have h41 : S1 4 60 = nI ((sNow σ).length - 1) := by rw [hoth 4 ⟨by decide, by decide⟩]; exact h40
          refine lv_iload hx hb dX4_remove_48 (lv_at hl 0 rfl) ?_
          refine lv_aload_n hx hb dX4_remove_50 rfl (lv_at hl 3 rfl) ?_
          refine hr_get EE hm hRs 4 (by decide) wf_X4_94 (v := .ref (ad 4)) rfl dX4_remove_51 ?_
          refine lv_bipush (v := 60) hx hb dX4_remove_54 (by decide) ?_
          refine hr_ald EE hm hRs 4 60 (by decide) rfl (by decide) (by decide) dX4_remove_56 ?_
          refine lv_icmp_ge (tgt := 106) hx hb dX4_remove_57 (by decide) (fun c_57 => ?_) (fun c_57 => ?_)
          · have c_57 : ((sNow σ).length - 1) ≤ kk := (leN (a := (sNow σ).length - 1) (b := kk) h41 rfl (by omega) (by omega)).mp c_57
            refine lv_aload_n hx hb dX4_remove_106 rfl (lv_at hl 3 rfl) ?_
            refine lv_iconst (v := 0) hx hb dX4_remove_107 (by decide) ?_
            refine hr_put EE hm hS hRs hF (ty := .boolean) (vU V 7 0) 7 (by decide) wf_X4_175 rfl (by decide +kernel) (by decide) (by decide) rfl dX4_remove_108 (fun H locs Mx12 hm hS hRs hF => ?_)
            obtain ⟨Vx13, hVx13⟩ : ∃ z, z = vU V 7 0 := ⟨_, rfl⟩
            rw [← hVx13] at hRs
            refine lv_iconst (v := 1) hx hb dX4_remove_111 (by decide) ?_
            have hki : kk = (sNow σ).length - 1 := by omega
            have hsp := remL_split hiE hgn.1 hEk
            have hln : (remL kn (sNow σ)).length = (sNow σ).length - 1 := by rw [hsp, List.length_append, List.length_take, List.length_drop]; omega
            have hrw : rowE S1 60 (remL kn (sNow σ)) := by
              rw [hsp]
              refine row_del hiE ?_ (fun j z hz => ?_)
              · rw [← hsp, hln]; exact h41
              · have hj0 := hpos j z hz
                have hjl := q_lt hz
                exact ⟨hj0.1, fun t => hj0.2.1 t (by omega)⟩
            exact ret dX4_remove_112 na_i hm hS (Nat.le_of_ble_eq_true rfl) (Nat.le_of_ble_eq_true rfl) (⟨by unfold sRem; rw [c_4, hcl, hth]; rfl, by unfold sRem; rw [c_4, hcl, hth]; exact ⟨S1, Vx13, hw.now hRs (by rw [hoth 0 ⟨by decide, by decide⟩, hSx11, sU_o (by decide)]) (by rw [hoth 1 ⟨by decide, by decide⟩, hSx11, sU_o (by decide)]) (by rw [hoth 5 ⟨by decide, by decide⟩, hSx11, sU_o (by decide)]) (by rw [hoth 20 ⟨by decide, by decide⟩, hSx11, sU_o (by decide)]) hlow (fun q hq => by rw [hoth 4 ⟨by decide, by decide⟩, hSx11, sU_n (by omega)]) hrw (remL_g hgn) (by rw [hVx13]; rfl) (by rw [hVx13]; rfl) (by rw [hVx13]; rfl) (by rw [hVx13]; rfl) (by rw [hVx13]; rfl) (by rw [hVx13]; rfl), hF⟩⟩)
          · have c_57 : ¬ ((sNow σ).length - 1) ≤ kk := fun h9 => c_57 ((leN (a := (sNow σ).length - 1) (b := kk) h41 rfl (by omega) (by omega)).mpr h9)
            refine lv_aload_n hx hb dX4_remove_60 rfl (lv_at hl 3 rfl) ?_
            refine hr_get EE hm hRs 2 (by decide) wf_X4_88 (v := .ref (ad 2)) rfl dX4_remove_61 ?_
            refine lv_iload_n hx hb dX4_remove_64 rfl (lv_at hl 1 rfl) ?_
            refine lv_iload hx hb dX4_remove_65 (lv_at hl 0 rfl) ?_
            refine lv_iadd hx hb dX4_remove_67 ?_
            refine lv_aload_n hx hb dX4_remove_68 rfl (lv_at hl 3 rfl) ?_
            refine hr_get EE hm hRs 2 (by decide) wf_X4_88 (v := .ref (ad 2)) rfl dX4_remove_69 ?_
            refine lv_iload_n hx hb dX4_remove_72 rfl (lv_at hl 1 rfl) ?_
            refine lv_iload hx hb dX4_remove_73 (lv_at hl 0 rfl) ?_
            refine lv_iadd hx hb dX4_remove_75 ?_
            refine lv_iconst (v := 1) hx hb dX4_remove_76 (by decide) ?_
            refine lv_iadd hx hb dX4_remove_77 ?_
            refine hr_ald EE hm hRs 2 ((18000 + kk) + 1) (by decide) (add_n (add_n rfl rfl) rfl) (by show (18000 + kk) + 1 < 18300; omega) (by decide) dX4_remove_78 ?_
            refine hr_ast EE hm hS hRs hF 2 (18000 + kk) (by decide) (add_n rfl rfl) (by show 18000 + kk < 18300; omega) (by decide) dX4_remove_79 (fun H locs Mx14 hm hS hRs hF => ?_)
            obtain ⟨Sx15, hSx15⟩ : ∃ z, z = sU S1 2 (18000 + kk) (S1 2 ((18000 + kk) + 1)) := ⟨_, rfl⟩
            rw [← hSx15] at hRs
            refine lv_aload_n hx hb dX4_remove_80 rfl (lv_at hl 3 rfl) ?_
            refine hr_get EE hm hRs 3 (by decide) wf_X4_91 (v := .ref (ad 3)) rfl dX4_remove_81 ?_
            refine lv_iload_n hx hb dX4_remove_84 rfl (lv_at hl 1 rfl) ?_
            refine lv_iload hx hb dX4_remove_85 (lv_at hl 0 rfl) ?_
            refine lv_iadd hx hb dX4_remove_87 ?_
            refine lv_aload_n hx hb dX4_remove_88 rfl (lv_at hl 3 rfl) ?_
            refine hr_get EE hm hRs 3 (by decide) wf_X4_91 (v := .ref (ad 3)) rfl dX4_remove_89 ?_
            refine lv_iload_n hx hb dX4_remove_92 rfl (lv_at hl 1 rfl) ?_
            refine lv_iload hx hb dX4_remove_93 (lv_at hl 0 rfl) ?_
            refine lv_iadd hx hb dX4_remove_95 ?_
            refine lv_iconst (v := 1) hx hb dX4_remove_96 (by decide) ?_
            refine lv_iadd hx hb dX4_remove_97 ?_
            refine hr_ald EE hm hRs 3 ((18000 + kk) + 1) (by decide) (add_n (add_n rfl rfl) rfl) (by show (18000 + kk) + 1 < 18300; omega) (by decide) dX4_remove_98 ?_
            refine hr_ast EE hm hS hRs hF 3 (18000 + kk) (by decide) (add_n rfl rfl) (by show 18000 + kk < 18300; omega) (by decide) dX4_remove_99 (fun H locs Mx16 hm hS hRs hF => ?_)
            obtain ⟨Sx17, hSx17⟩ : ∃ z, z = sU Sx15 3 (18000 + kk) (Sx15 3 ((18000 + kk) + 1)) := ⟨_, rfl⟩
            rw [← hSx17] at hRs
            refine lv_iinc (v := nI (kk + 1)) (lv' := [(4, .int (nI (kk + 1))), (3, .int 18000), (2, .int (nI i)), (0, .ref y), (1, .int (nI kn))]) hx hb dX4_remove_100 hl (k := 0) rfl (inc_n rfl) (by decide) rfl (fun ls hl => ?_)
            refine lv_goto (tgt := 48) hx hb dX4_remove_103 (by decide) ?_
            refine ih (kk + 1) Mx16 Sx17 H locs ls (by omega) (by omega) (by omega) (fun k9 hk9 => ?_) (fun q hq => ?_) (fun j z hz => ?_) hRs hF hm hS (lv_sub hl [0, 1, 2, 3, 4] rfl)
            · rw [hSx17, sU_o hk9.2, hSx15, sU_o hk9.1]; exact hoth k9 hk9
            · rw [hSx17, sU_o (by decide), sU_n (by omega), hSx15, sU_n (by omega), sU_o (by decide)]; exact hlow q hq
            · have hj0 := hpos j z hz
              have hjl := q_lt hz
              refine ⟨fun t => ?_, fun t1 t2 => ?_, fun t => ?_⟩
              · rw [hSx17, sU_o (by decide), sU_n (by omega), hSx15, sU_n (by omega), sU_o (by decide)]; exact hj0.1 t
              · by_cases t3 : j = kk + 1
                · have hz1 := hj0.2.2 (by omega)
                  subst t3
                  have e1 : 18000 + (kk + 1) - 1 = 18000 + kk := by omega
                  rw [e1, hSx17, sU_o (by decide), sU_i, hSx15, sU_i, sU_o (by decide)]
                  exact hz1
                · rw [hSx17, sU_o (by decide), sU_n (by omega), hSx15, sU_n (by omega), sU_o (by decide)]; exact hj0.2.1 t1 (by omega)
              · rw [hSx17, sU_o (by decide), sU_n (by omega), hSx15, sU_n (by omega), sU_o (by decide)]; exact hj0.2.2 (by omega)
      exact lp (sNow σ).length i Mx10 Sx11 H locs ls (by omega) (Nat.le_refl _) (by omega) (fun _ _ => rfl) (fun q hq => by rw [hSx11, sU_o (by decide), sU_o (by decide)]; exact ⟨rfl, rfl⟩) (fun j z hz => ⟨fun _ => by rw [hSx11, sU_o (by decide), sU_o (by decide)]; exact hn2 j z hz, fun h1 h2 => absurd h1 (by omega), fun _ => by rw [hSx11, sU_o (by decide), sU_o (by decide)]; exact hn2 j z hz⟩) hRs hF hm hS (lv_sub hl [0, 1, 2, 3, 4] rfl)
    · have c_25 := bI_f c_25
      refine lv_iconst (v := 0) hx hb dX4_remove_28 (by decide) ?_
      exact ret dX4_remove_29 na_i hm hS (Nat.le_of_ble_eq_true rfl) (Nat.le_of_ble_eq_true rfl) (⟨by unfold sRem; rw [c_4, hcl, c_25]; rfl, by unfold sRem; rw [c_4, hcl, c_25]; exact RP.rf hw⟩)
  · have c_4 := bI_f c_4
    refine lv_iconst (v := (-1)) hx hb dX4_remove_7 (by decide) ?_
    exact ret dX4_remove_8 na_i hm hS (Nat.le_of_ble_eq_true rfl) (Nat.le_of_ble_eq_true rfl) (⟨by unfold sRem; rw [c_4]; rfl, by unfold sRem; rw [c_4]; exact RP.rf hw⟩)
set_option maxHeartbeats 4000000 in
set_option maxRecDepth 100000 in
theorem c_X4_copyRow (l : Launch) (g : hG) (M : hM) (y : Nat) (ad : Nat → Nat) (S : Nat → Nat → Int32) (V : Nat → Int32) (ra rb : Nat) (hra : ra < 61) (hrb : rb < 61) (hab : ra ≠ rb) (E : En) (hg : gE E) (hrow : rowE S ra E) (hRs : RS g M y ad S V) : Cv l g yX4_copyRow cX4_copyRow 4 1 0 0 [.ref y, .int (nI ra), .int (nI rb)] M (fun M9 => ∃ S9, RS g M9 y ad S9 V ∧ (∀ q, ¬ rO y ad q → M9 q = M q) ∧ rowE S9 rb E ∧ (∀ j, j < 8 → S9 5 (8 * rb + j) = S 5 (8 * ra + j)) ∧ (∀ k9, k9 ≠ 2 → k9 ≠ 3 → k9 ≠ 4 → k9 ≠ 5 → S9 k9 = S k9) ∧ (∀ q, (q < 300 * rb ∨ 300 * rb + 300 ≤ q) → S9 2 q = S 2 q ∧ S9 3 q = S 3 q) ∧ (∀ q, q ≠ rb → S9 4 q = S 4 q) ∧ ∀ q, (q < 8 * rb ∨ 8 * rb + 8 ≤ q) → S9 5 q = S 5 q) := by
  have hgl := hg.2.1
  have h4a := hrow.1
  refine hp_startV (by decide) (by exact Nat.le_of_ble_eq_true rfl) ?_
  intro p e s m below meth c Q H locs ls EE hnm ret hm hS hl
  have hx := EE.1
  have hb := EE.2.1
  have hown := EE.2.2.2.1
  have hts := EE.2.2.2.2.1
  have hl : lv_has ls 4 [(0, .ref y), (1, .int (nI ra)), (2, .int (nI rb))] := hl
  have hF : ∀ q, ¬ rO y ad q → M q = M q := fun _ _ => rfl
  refine lv_aload_n hx hb dX4_copyRow_0 rfl (lv_at hl 0 rfl) ?_
  refine hr_get EE hm hRs 4 (by decide) wf_X4_94 (v := .ref (ad 4)) rfl dX4_copyRow_1 ?_
  refine lv_iload_n hx hb dX4_copyRow_4 rfl (lv_at hl 2 rfl) ?_
  refine lv_aload_n hx hb dX4_copyRow_5 rfl (lv_at hl 0 rfl) ?_
  refine hr_get EE hm hRs 4 (by decide) wf_X4_94 (v := .ref (ad 4)) rfl dX4_copyRow_6 ?_
  refine lv_iload_n hx hb dX4_copyRow_9 rfl (lv_at hl 1 rfl) ?_
  refine hr_ald EE hm hRs 4 ra (by decide) rfl (by show ra < 61; omega) (by decide) dX4_copyRow_10 ?_
  refine hr_ast EE hm hS hRs hF 4 rb (by decide) rfl (by show rb < 61; omega) (by decide) dX4_copyRow_11 (fun H locs Mx1 hm hS hRs hF => ?_)
  obtain ⟨Sx2, hSx2⟩ : ∃ z, z = sU S 4 rb (S 4 ra) := ⟨_, rfl⟩
  rw [← hSx2] at hRs
  have h40 : ∀ q, q ≠ rb → Sx2 4 q = S 4 q := fun q hq => by rw [hSx2, sU_n hq]
  have h4b : Sx2 4 rb = nI E.length := by rw [hSx2, sU_i]; exact h4a
  refine lv_iconst (v := 0) hx hb dX4_copyRow_12 (by decide) ?_
  refine lv_istore_n (lv' := [(3, .int 0), (0, .ref y), (1, .int (nI ra)), (2, .int (nI rb))]) hx hb dX4_copyRow_13 rfl hl (by decide) rfl (fun ls hl => ?_)
  have lp : ∀ (n i : Nat) (M1 : hM) (S1 : Nat → Nat → Int32)   (H : Heap) (locs : List Loc) (ls : Array Slot), E.length + 1 ≤ i + n → i ≤ E.length → (∀ k9, k9 ≠ 2 ∧ k9 ≠ 3 → S1 k9 = Sx2 k9) → (∀ q, (q < 300 * rb ∨ 300 * rb + 300 ≤ q) → S1 2 q = S 2 q ∧ S1 3 q = S 3 q) → (∀ j z, E[j]? = some z → j < i → S1 2 (300 * rb + j) = nI z.1 ∧ S1 3 (300 * rb + j) = z.2) → RS g M1 y ad S1 V → (∀ q, ¬ rO y ad q → M1 q = M q) → hp g M1 H → va_S (hA g) s.heap H locs → lv_has ls 4 [(3, .int (nI i)), (0, .ref y), (1, .int (nI ra)), (2, .int (nI rb))] → W p l e (hR 1 0 0) s m [.ref y, .int (nI ra), .int (nI rb)].toArray below meth c H locs 0 0 Q (F0 m 14 ls []) := by
    intro n
    induction n with
    | zero => intro i M1 S1 H locs ls hn hi hoth hlow hdone; exact absurd hn (by omega)
    | succ n ih =>
      intro i M1 S1 H locs ls hn hi hoth hlow hdone hRs hF hm hS hl
      have h41 : S1 4 ra = nI E.length := by rw [hoth 4 ⟨by decide, by decide⟩, h40 ra hab]; exact h4a
      refine lv_iload_n hx hb dX4_copyRow_14 rfl (lv_at hl 0 rfl) ?_
      refine lv_aload_n hx hb dX4_copyRow_15 rfl (lv_at hl 1 rfl) ?_
      refine hr_get EE hm hRs 4 (by decide) wf_X4_94 (v := .ref (ad 4)) rfl dX4_copyRow_16 ?_
      refine lv_iload_n hx hb dX4_copyRow_19 rfl (lv_at hl 2 rfl) ?_
      refine hr_ald EE hm hRs 4 ra (by decide) rfl (by show ra < 61; omega) (by decide) dX4_copyRow_20 ?_
      refine lv_icmp_ge (tgt := 78) hx hb dX4_copyRow_21 (by decide) (fun c_21 => ?_) (fun c_21 => ?_)
      · have c_21 : E.length ≤ i := (leN (a := E.length) (b := i) h41 rfl (by omega) (by omega)).mp c_21
        refine lv_iconst (v := 0) hx hb dX4_copyRow_78 (by decide) ?_
        refine lv_istore_n (lv' := [(3, .int 0), (0, .ref y), (1, .int (nI ra)), (2, .int (nI rb))]) hx hb dX4_copyRow_79 rfl hl (by decide) rfl (fun ls hl => ?_)
        have lp2 : ∀ (n u : Nat) (M2 : hM) (S2 : Nat → Nat → Int32)   (H : Heap) (locs : List Loc) (ls : Array Slot), 9 ≤ u + n → u ≤ 8 → (∀ k9, k9 ≠ 5 → S2 k9 = S1 k9) → (∀ q, (q < 8 * rb ∨ 8 * rb + 8 ≤ q) → S2 5 q = S1 5 q) → (∀ j, j < u → S2 5 (8 * rb + j) = S1 5 (8 * ra + j)) → RS g M2 y ad S2 V → (∀ q, ¬ rO y ad q → M2 q = M q) → hp g M2 H → va_S (hA g) s.heap H locs → lv_has ls 4 [(3, .int (nI u)), (0, .ref y), (1, .int (nI ra)), (2, .int (nI rb))] → W p l e (hR 1 0 0) s m [.ref y, .int (nI ra), .int (nI rb)].toArray below meth c H locs 0 0 Q (F0 m 80 ls []) := by
          intro n
          induction n with
          | zero => intro u M2 S2 H locs ls hn2 hu hoth2 hlow2 hd2; exact absurd hn2 (by omega)
          | succ n ih =>
            intro u M2 S2 H locs ls hn2 hu hoth2 hlow2 hd2 hRs hF hm hS hl
            refine lv_iload_n hx hb dX4_copyRow_80 rfl (lv_at hl 0 rfl) ?_
            refine lv_bipush (v := 8) hx hb dX4_copyRow_81 (by decide) ?_
            refine lv_icmp_ge (tgt := 114) hx hb dX4_copyRow_83 (by decide) (fun c_83 => ?_) (fun c_83 => ?_)
            · have c_83 : 8 ≤ u := (leN (a := 8) (b := u) rfl rfl (by decide) (by omega)).mp c_83
              have hx5 : S1 5 = S 5 := by rw [hoth 5 ⟨by decide, by decide⟩, hSx2, sU_o (by decide)]
              exact ret dX4_copyRow_114 hm hS (Nat.le_of_ble_eq_true rfl) (Nat.le_of_ble_eq_true rfl) (⟨S2, hRs, hF, ⟨by rw [hoth2 4 (by decide), hoth 4 ⟨by decide, by decide⟩]; exact h4b, fun j hj => by
                rw [hoth2 2 (by decide), hoth2 3 (by decide)]; exact hdone j _ (List.getElem?_eq_getElem hj) (by omega)⟩, fun j hj => by rw [hd2 j (by omega), hx5], (fun k9 h1 h2 h3 h4 => by rw [hoth2 k9 h4, hoth k9 ⟨h1, h2⟩, hSx2, sU_o h3]), (fun q hq => by rw [hoth2 2 (by decide), hoth2 3 (by decide)]; exact hlow q hq), (fun q hq => by rw [hoth2 4 (by decide), hoth 4 ⟨by decide, by decide⟩]; exact h40 q hq), fun q hq => by rw [hlow2 q hq, hx5]⟩)
            · have c_83 : ¬ 8 ≤ u := fun h9 => c_83 ((leN (a := 8) (b := u) rfl rfl (by decide) (by omega)).mpr h9)
              refine lv_aload_n hx hb dX4_copyRow_86 rfl (lv_at hl 1 rfl) ?_
              refine hr_get EE hm hRs 5 (by decide) wf_X4_97 (v := .ref (ad 5)) rfl dX4_copyRow_87 ?_
              refine lv_bipush (v := 8) hx hb dX4_copyRow_90 (by decide) ?_
              refine lv_iload_n hx hb dX4_copyRow_92 rfl (lv_at hl 3 rfl) ?_
              refine lv_imul hx hb dX4_copyRow_93 ?_
              refine lv_iload_n hx hb dX4_copyRow_94 rfl (lv_at hl 0 rfl) ?_
              refine lv_iadd hx hb dX4_copyRow_95 ?_
              refine lv_aload_n hx hb dX4_copyRow_96 rfl (lv_at hl 1 rfl) ?_
              refine hr_get EE hm hRs 5 (by decide) wf_X4_97 (v := .ref (ad 5)) rfl dX4_copyRow_97 ?_
              refine lv_bipush (v := 8) hx hb dX4_copyRow_100 (by decide) ?_
              refine lv_iload_n hx hb dX4_copyRow_102 rfl (lv_at hl 2 rfl) ?_
              refine lv_imul hx hb dX4_copyRow_103 ?_
              refine lv_iload_n hx hb dX4_copyRow_104 rfl (lv_at hl 0 rfl) ?_
              refine lv_iadd hx hb dX4_copyRow_105 ?_
              refine hr_ald EE hm hRs 5 ((8 * ra) + u) (by decide) (add_n (mul_n rfl rfl) rfl) (by show (8 * ra) + u < 488; omega) (by decide) dX4_copyRow_106 ?_
              refine hr_ast EE hm hS hRs hF 5 ((8 * rb) + u) (by decide) (add_n (mul_n rfl rfl) rfl) (by show (8 * rb) + u < 488; omega) (by decide) dX4_copyRow_107 (fun H locs Mx3 hm hS hRs hF => ?_)
              obtain ⟨Sx4, hSx4⟩ : ∃ z, z = sU S2 5 ((8 * rb) + u) (S2 5 ((8 * ra) + u)) := ⟨_, rfl⟩
              rw [← hSx4] at hRs
              refine lv_iinc (v := nI (u + 1)) (lv' := [(3, .int (nI (u + 1))), (0, .ref y), (1, .int (nI ra)), (2, .int (nI rb))]) hx hb dX4_copyRow_108 hl (k := 0) rfl (inc_n rfl) (by decide) rfl (fun ls hl => ?_)
              refine lv_goto (tgt := 80) hx hb dX4_copyRow_111 (by decide) ?_
              refine ih (u + 1) Mx3 Sx4 H locs ls (by omega) (by omega) (fun k9 hk9 => by rw [hSx4, sU_o hk9]; exact hoth2 k9 hk9) (fun q hq => by rw [hSx4, sU_n (by omega)]; exact hlow2 q hq) (fun j hj => ?_) hRs hF hm hS (lv_sub hl [0, 1, 2, 3] rfl)
              by_cases t : j = u
              · subst t; rw [hSx4, sU_i]; exact hlow2 _ (by omega)
              · rw [hSx4, sU_n (by omega)]; exact hd2 j (by omega)
        exact lp2 9 0 M1 S1 H locs ls (by omega) (by omega) (fun _ _ => rfl) (fun _ _ => rfl) (fun j h => absurd h (Nat.not_lt_zero j)) hRs hF hm hS (lv_sub hl [0, 1, 2, 3] rfl)
      · have c_21 : ¬ E.length ≤ i := fun h9 => c_21 ((leN (a := E.length) (b := i) h41 rfl (by omega) (by omega)).mpr h9)
        refine lv_aload_n hx hb dX4_copyRow_24 rfl (lv_at hl 1 rfl) ?_
        refine hr_get EE hm hRs 2 (by decide) wf_X4_88 (v := .ref (ad 2)) rfl dX4_copyRow_25 ?_
        refine lv_sipush (v := 300) hx hb dX4_copyRow_28 (by decide) ?_
        refine lv_iload_n hx hb dX4_copyRow_31 rfl (lv_at hl 3 rfl) ?_
        refine lv_imul hx hb dX4_copyRow_32 ?_
        refine lv_iload_n hx hb dX4_copyRow_33 rfl (lv_at hl 0 rfl) ?_
        refine lv_iadd hx hb dX4_copyRow_34 ?_
        refine lv_aload_n hx hb dX4_copyRow_35 rfl (lv_at hl 1 rfl) ?_
        refine hr_get EE hm hRs 2 (by decide) wf_X4_88 (v := .ref (ad 2)) rfl dX4_copyRow_36 ?_
        refine lv_sipush (v := 300) hx hb dX4_copyRow_39 (by decide) ?_
        refine lv_iload_n hx hb dX4_copyRow_42 rfl (lv_at hl 2 rfl) ?_
        refine lv_imul hx hb dX4_copyRow_43 ?_
        refine lv_iload_n hx hb dX4_copyRow_44 rfl (lv_at hl 0 rfl) ?_
        refine lv_iadd hx hb dX4_copyRow_45 ?_
        refine hr_ald EE hm hRs 2 ((300 * ra) + i) (by decide) (add_n (mul_n rfl rfl) rfl) (by show (300 * ra) + i < 18300; omega) (by decide) dX4_copyRow_46 ?_
        refine hr_ast EE hm hS hRs hF 2 ((300 * rb) + i) (by decide) (add_n (mul_n rfl rfl) rfl) (by show (300 * rb) + i < 18300; omega) (by decide) dX4_copyRow_47 (fun H locs Mx5 hm hS hRs hF => ?_)
        obtain ⟨Sx6, hSx6⟩ : ∃ z, z = sU S1 2 ((300 * rb) + i) (S1 2 ((300 * ra) + i)) := ⟨_, rfl⟩
        rw [← hSx6] at hRs
        refine lv_aload_n hx hb dX4_copyRow_48 rfl (lv_at hl 1 rfl) ?_
        refine hr_get EE hm hRs 3 (by decide) wf_X4_91 (v := .ref (ad 3)) rfl dX4_copyRow_49 ?_
        refine lv_sipush (v := 300) hx hb dX4_copyRow_52 (by decide) ?_
        refine lv_iload_n hx hb dX4_copyRow_55 rfl (lv_at hl 3 rfl) ?_
        refine lv_imul hx hb dX4_copyRow_56 ?_
        refine lv_iload_n hx hb dX4_copyRow_57 rfl (lv_at hl 0 rfl) ?_
        refine lv_iadd hx hb dX4_copyRow_58 ?_
        refine lv_aload_n hx hb dX4_copyRow_59 rfl (lv_at hl 1 rfl) ?_
        refine hr_get EE hm hRs 3 (by decide) wf_X4_91 (v := .ref (ad 3)) rfl dX4_copyRow_60 ?_
        refine lv_sipush (v := 300) hx hb dX4_copyRow_63 (by decide) ?_
        refine lv_iload_n hx hb dX4_copyRow_66 rfl (lv_at hl 2 rfl) ?_
        refine lv_imul hx hb dX4_copyRow_67 ?_
        refine lv_iload_n hx hb dX4_copyRow_68 rfl (lv_at hl 0 rfl) ?_
        refine lv_iadd hx hb dX4_copyRow_69 ?_
        refine hr_ald EE hm hRs 3 ((300 * ra) + i) (by decide) (add_n (mul_n rfl rfl) rfl) (by show (300 * ra) + i < 18300; omega) (by decide) dX4_copyRow_70 ?_
        refine hr_ast EE hm hS hRs hF 3 ((300 * rb) + i) (by decide) (add_n (mul_n rfl rfl) rfl) (by show (300 * rb) + i < 18300; omega) (by decide) dX4_copyRow_71 (fun H locs Mx7 hm hS hRs hF => ?_)
        obtain ⟨Sx8, hSx8⟩ : ∃ z, z = sU Sx6 3 ((300 * rb) + i) (Sx6 3 ((300 * ra) + i)) := ⟨_, rfl⟩
        rw [← hSx8] at hRs
        refine lv_iinc (v := nI (i + 1)) (lv' := [(3, .int (nI (i + 1))), (0, .ref y), (1, .int (nI ra)), (2, .int (nI rb))]) hx hb dX4_copyRow_72 hl (k := 0) rfl (inc_n rfl) (by decide) rfl (fun ls hl => ?_)
        refine lv_goto (tgt := 14) hx hb dX4_copyRow_75 (by decide) ?_
        refine ih (i + 1) Mx7 Sx8 H locs ls (by omega) (by omega) (fun k9 hk9 => ?_) (fun q hq => ?_) (fun j z hz hji => ?_) hRs hF hm hS (lv_sub hl [0, 1, 2, 3] rfl)
        · rw [hSx8, sU_o hk9.2, hSx6, sU_o hk9.1]; exact hoth k9 hk9
        · rw [hSx8, sU_o (by decide), sU_n (by omega), hSx6, sU_n (by omega), sU_o (by decide)]; exact hlow q hq
        · by_cases t : j = i
          · subst t
            have hz1 := hrow.q hz
            have hz2 := hlow (300 * ra + j) (by omega)
            rw [hSx8, sU_o (by decide), sU_i, hSx6, sU_i, sU_o (by decide), hz2.1, hz2.2]
            exact hz1
          · rw [hSx8, sU_o (by decide), sU_n (by omega), hSx6, sU_n (by omega), sU_o (by decide)]; exact hdone j z hz (by omega)
  exact lp (E.length + 1) 0 Mx1 Sx2 H locs ls (by omega) (by omega) (fun _ _ => rfl) (fun q _ => by rw [hSx2, sU_o (by decide), sU_o (by decide)]; exact ⟨rfl, rfl⟩) (fun j z _ h => absurd h (Nat.not_lt_zero j)) hRs hF hm hS (lv_sub hl [0, 1, 2, 3] rfl)
set_option maxHeartbeats 4000000 in
set_option maxRecDepth 100000 in
theorem c_X4_back (l : Launch) (g : hG) (M : hM) (y : Nat) (ad : Nat → Nat) (S : Nat → Nat → Int32) (V : Nat → Int32) (σ : cSt) (hw : RW g M y ad S V σ) (v0 : Int32) : Ci l g yX4_back cX4_back 2 .int 2 0 0 [.ref y, .int v0] M (fun r M9 => r = (sBack σ v0).1 ∧ RP g M y ad M9 (sBack σ v0).2) := by
  obtain ⟨hRs, ⟨hkc, hvg, hgn, hpl, hpk⟩, hk0, hk1, hv6, hrows, hnow, hdv, ⟨kw, hv7, hdn⟩, hv19, hv21, hv22, hv23, hsb⟩ := id hw
  refine hp_startI (by decide) (by exact Nat.le_of_ble_eq_true rfl) ?_
  intro p e s m below meth c Q H locs ls EE hnm ret hm hS hl
  have hx := EE.1
  have hb := EE.2.1
  have hown := EE.2.2.2.1
  have hts := EE.2.2.2.2.1
  have hl : lv_has ls 2 [(0, .ref y), (1, .int v0)] := hl
  have hF : ∀ q, ¬ rO y ad q → M q = M q := fun _ _ => rfl
  refine lv_iload_n hx hb dX4_back_0 rfl (lv_at hl 1 rfl) ?_
  refine lv_if_lt (tgt := 12) hx hb dX4_back_1 (by decide) (fun c_1 => ?_) (fun c_1 => ?_)
  · refine lv_iconst (v := (-1)) hx hb dX4_back_12 (by decide) ?_
    exact ret dX4_back_13 na_i hm hS (Nat.le_of_ble_eq_true rfl) (Nat.le_of_ble_eq_true rfl) (⟨by unfold sBack; first | (rw [decide_eq_false (Int32.not_le.mpr c_1), Bool.and_false]; rfl) | (rw [hv6] at c_9; rw [isV_b (Int32.not_lt.mp c_9)]; rfl), by unfold sBack; first | (rw [decide_eq_false (Int32.not_le.mpr c_1), Bool.and_false]; exact RP.rf hw) | (rw [hv6] at c_9; rw [isV_b (Int32.not_lt.mp c_9)]; exact RP.rf hw)⟩)
  · refine lv_iload_n hx hb dX4_back_4 rfl (lv_at hl 1 rfl) ?_
    refine lv_aload_n hx hb dX4_back_5 rfl (lv_at hl 0 rfl) ?_
    refine hr_get EE hm hRs 6 (by decide) wf_X4_134 (v := .int (V 6)) rfl dX4_back_6 ?_
    refine lv_icmp_lt (tgt := 14) hx hb dX4_back_9 (by decide) (fun c_9 => ?_) (fun c_9 => ?_)
    · rw [hv6] at c_9
      obtain ⟨j0, hj0, hje⟩ := nI_of c_1
      have hjk : j0 < sKc σ := (nI_ltI hj0 (by omega)).mp (hje ▸ c_9)
      have hiv : isV σ v0 = true := isV_c (fun q => c_1 (Int32.lt_trans q (by decide))) (Int32.not_le.mpr c_9)
      have h0v : 0 ≤ v0 := i_nlt0 c_1
      have hmv : mapV σ v0 = sVs σ j0 := by unfold mapV; rw [if_pos h0v, hje, nI_clamp hj0]
      have hl : lv_has ls 2 [(0, .ref y), (1, .int (nI j0))] := by rw [← hje]; exact hl
      refine lv_aload_n hx hb dX4_back_14 rfl (lv_at hl 0 rfl) ?_
      refine lv_iload_n hx hb dX4_back_15 rfl (lv_at hl 1 rfl) ?_
      refine lv_bipush (v := 60) hx hb dX4_back_16 (by decide) ?_
      refine hp_cv (hp_runV (C := RX4) (T := TX4) (N := 24) (np := 2) (k := 1) (mc := 0) (ms := 0) (As := [.int (nI j0), .int 60]) (rest := []) EE hm hS (c_X4_copyRow l g M y ad S V j0 60 (by omega) (by decide) (by omega) (sVs σ j0) (hvg j0 hjk) (hrows j0 hjk) hRs) ms_X4_copyRow wi_X4_copyRow ws_X4_copyRow wl_X4_205 hRs.1 rfl rfl hl.1 rfl (Nat.le_of_ble_eq_true rfl) dX4_back_18 ⟨Nat.le_of_ble_eq_true rfl, Nat.le_of_ble_eq_true rfl⟩ ⟨(Nat.le_of_ble_eq_true rfl), (Nat.le_of_ble_eq_true rfl)⟩) hS (fun Mx1 H locs hq2 hm hS => ?_)
      obtain ⟨S9, hRs, hF9, hE9, hd9, ho9, hlo9, h49, h59⟩ := hq2
      have hF : ∀ q, ¬ rO y ad q → Mx1 q = M q := hF9
      refine lv_aload_n hx hb dX4_back_21 rfl (lv_at hl 0 rfl) ?_
      refine lv_iconst (v := 1) hx hb dX4_back_22 (by decide) ?_
      refine hr_put EE hm hS hRs hF (ty := .boolean) (vU V 7 1) 7 (by decide) wf_X4_175 rfl (by decide +kernel) (by decide) (by decide) rfl dX4_back_23 (fun H locs Mx3 hm hS hRs hF => ?_)
      obtain ⟨Vx4, hVx4⟩ : ∃ z, z = vU V 7 1 := ⟨_, rfl⟩
      rw [← hVx4] at hRs
      refine lv_aload_n hx hb dX4_back_26 rfl (lv_at hl 0 rfl) ?_
      refine hr_get EE hm hRs 4 (by decide) wf_X4_94 (v := .ref (ad 4)) rfl dX4_back_27 ?_
      refine lv_bipush (v := 60) hx hb dX4_back_30 (by decide) ?_
      refine hr_ald EE hm hRs 4 60 (by decide) rfl (by decide) (by decide) dX4_back_32 ?_
      have hrr : ∀ j, j < sKc σ → rowE S9 j (sVs σ j) := fun j hj => ⟨by rw [h49 j (by omega)]; exact (hrows j hj).1, fun i hi => by
        have hl9 := (hvg j hj).2.1
        rw [(hlo9 (300 * j + i) (by omega)).1, (hlo9 (300 * j + i) (by omega)).2]
        exact (hrows j hj).2 i hi⟩
      exact ret dX4_back_33 na_i hm hS (Nat.le_of_ble_eq_true rfl) (Nat.le_of_ble_eq_true rfl) (⟨by unfold sBack; rw [hiv, decide_eq_true h0v, hmv]; exact hE9.1, by
        unfold sBack
        rw [hiv, decide_eq_true h0v, hmv]
        exact ⟨S9, Vx4, ⟨hRs, ⟨hkc, hvg, hvg j0 hjk, hpl, hpk⟩, fun j hj => by rw [ho9 0 (by decide) (by decide) (by decide) (by decide)]; exact hk0 j hj, fun j hj => by rw [ho9 1 (by decide) (by decide) (by decide) (by decide)]; exact hk1 j hj, (by rw [hVx4]; exact hv6), hrr, hE9, fun j hj i hi => by
          have hj2 : j < sKc σ := hj
          rw [h59 (8 * j + i) (by omega)]; exact hdv j hj i hi, ⟨true, (by rw [hVx4]; rfl), fun _ i hi => by rw [hd9 i hi]; exact hdv j0 hjk i hi⟩, (by rw [hVx4]; exact hv19), (by rw [hVx4]; exact hv21), (by rw [hVx4]; exact hv22), (by rw [hVx4]; exact hv23), fun i hi j hj => by rw [ho9 20 (by decide) (by decide) (by decide) (by decide)]; exact hsb i hi j hj⟩, hF⟩⟩)
    · refine lv_iconst (v := (-1)) hx hb dX4_back_12 (by decide) ?_
      exact ret dX4_back_13 na_i hm hS (Nat.le_of_ble_eq_true rfl) (Nat.le_of_ble_eq_true rfl) (⟨by unfold sBack; first | (rw [decide_eq_false (Int32.not_le.mpr c_1), Bool.and_false]; rfl) | (rw [hv6] at c_9; rw [isV_b (Int32.not_lt.mp c_9)]; rfl), by unfold sBack; first | (rw [decide_eq_false (Int32.not_le.mpr c_1), Bool.and_false]; exact RP.rf hw) | (rw [hv6] at c_9; rw [isV_b (Int32.not_lt.mp c_9)]; exact RP.rf hw)⟩)
