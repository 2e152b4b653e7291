theorem sgl_flat (E : En) : (E.map (fun z => [z])).flatten = E := by
  induction E with
  | nil => rfl
  | cons z t ih => rw [List.map_cons, List.flatten_cons, ih]; rfl
theorem take_q {E : En} {i : Nat} {z : Nat × Int32} (h : E[i]? = some z) : E.take (i + 1) = E.take i ++ [z] := by
  rw [List.take_add_one, h]; rfl
set_option maxHeartbeats 4000000 in
set_option maxRecDepth 100000 in
theorem c_X4_begin (l : Launch) (g : hG) (M : hM) (y : Nat) (ad : Nat → Nat) (S : Nat → Nat → Int32) (V : Nat → Int32) (hRs : RS g M y ad S V) (hk0 : ∀ j, j < 64 → S 0 j = kRound j) (hk1 : ∀ j, j < 8 → S 1 j = kStart j) (r0 : Nat) (hr0 : r0 < 61) (E : En) (hg : gE E) (hrow : rowE S r0 E) : Cv l g yX4_begin cX4_begin 5 5 0 0 [.ref y, .int (nI r0)] M (fun M9 => ∃ S9 V9, RS g M9 y ad S9 V9 ∧ (∀ q, ¬ rO y ad q → M9 q = M q) ∧ (∀ k9, (k9 < 8 ∨ 14 < k9) → S9 k9 = S k9) ∧ V9 = vU V 15 (S 4 r0) ∧ LVL S9 0 0 (300 * r0) (E.map (fun z => [z]))) := by
  have hgl := hg.2.1
  have hr4 := hrow.1
  refine hp_startV (by decide) (by exact Nat.le_of_ble_eq_true rfl) ?_
  intro p e s m below meth c Q H locs ls EE hnm ret hm hS hl
  have hx := EE.1
  have hb := EE.2.1
  have hown := EE.2.2.2.1
  have hts := EE.2.2.2.2.1
  have hl : lv_has ls 5 [(0, .ref y), (1, .int (nI r0))] := hl
  have hF : ∀ q, ¬ rO y ad q → M q = M q := fun _ _ => rfl
  refine lv_aload_n hx hb dX4_begin_0 rfl (lv_at hl 0 rfl) ?_
  refine lv_aload_n hx hb dX4_begin_1 rfl (lv_at hl 0 rfl) ?_
  refine hr_get EE hm hRs 4 (by decide) wf_X4_94 (v := .ref (ad 4)) rfl dX4_begin_2 ?_
  refine lv_iload_n hx hb dX4_begin_5 rfl (lv_at hl 1 rfl) ?_
  refine hr_ald EE hm hRs 4 r0 (by decide) rfl (by show r0 < 61; omega) (by decide) dX4_begin_6 ?_
  refine hr_put EE hm hS hRs hF (ty := .int) (vU V 15 (S 4 r0)) 15 (by decide) wf_X4_149 rfl (by decide +kernel) rfl rfl rfl dX4_begin_7 (fun H locs Mx1 hm hS hRs hF => ?_)
  obtain ⟨Vx2, hVx2⟩ : ∃ zz9, zz9 = vU V 15 (S 4 r0) := ⟨_, rfl⟩
  rw [← hVx2] at hRs
  refine lv_iconst (v := 0) hx hb dX4_begin_10 (by decide) ?_
  refine lv_istore_n (lv' := [(2, .int 0), (0, .ref y), (1, .int (nI r0))]) hx hb dX4_begin_11 rfl hl (by decide) rfl (fun ls hl => ?_)
  have lp : ∀ (n i : Nat) (M1 : hM) (S1 : Nat → Nat → Int32)   (H : Heap) (locs : List Loc) (ls : Array Slot), E.length + 1 ≤ i + n → i ≤ E.length → (∀ k9, (k9 < 8 ∨ 14 < k9) → S1 k9 = S k9) → LVL S1 0 0 (300 * r0) ((E.take i).map (fun z => [z])) → RS g M1 y ad S1 Vx2 → (∀ q, ¬ rO y ad q → M1 q = M q) → hp g M1 H → va_S (hA g) s.heap H locs → lv_has ls 5 [(2, .int (nI i)), (0, .ref y), (1, .int (nI r0))] → W p l e (hR 5 0 0) s m [.ref y, .int (nI r0)].toArray below meth c H locs 0 0 Q (F0 m 12 ls []) := by
    intro n
    induction n with
    | zero => intro i M1 S1 H locs ls hn hi hoth hlv; exact absurd hn (by omega)
    | succ n ih =>
      intro i M1 S1 H locs ls hn hi hoth hlv hRs hF hm hS hl
      refine lv_iload_n hx hb dX4_begin_12 rfl (lv_at hl 0 rfl) ?_
      refine lv_aload_n hx hb dX4_begin_13 rfl (lv_at hl 1 rfl) ?_
      refine hr_get EE hm hRs 15 (by decide) wf_X4_149 (v := .int (S 4 r0)) (by rw [hVx2]; rfl) dX4_begin_14 ?_
      refine lv_icmp_ge (tgt := 118) hx hb dX4_begin_17 (by decide) (fun c_17 => ?_) (fun c_17 => ?_)
      · have c_17 : E.length ≤ i := (leN (a := E.length) (b := i) hr4 rfl (by omega) (by omega)).mp c_17
        exact ret dX4_begin_118 hm hS (Nat.le_of_ble_eq_true rfl) (Nat.le_of_ble_eq_true rfl) (⟨S1, Vx2, hRs, hF, hoth, hVx2, by rw [show i = E.length by omega, List.take_length] at hlv; exact hlv⟩)
      · have c_17 : ¬ E.length ≤ i := fun h9 => c_17 ((leN (a := E.length) (b := i) hr4 rfl (by omega) (by omega)).mpr h9)
        obtain ⟨z, hz⟩ : ∃ z, E[i]? = some z := ⟨_, List.getElem?_eq_getElem (by omega)⟩
        have hzr := hrow.q hz
        have hzk := hg.2.2 z (List.mem_of_getElem? hz)
        refine lv_aload_n hx hb dX4_begin_20 rfl (lv_at hl 1 rfl) ?_
        refine hr_get EE hm hRs 2 (by decide) wf_X4_88 (v := .ref (ad 2)) rfl dX4_begin_21 ?_
        refine lv_sipush (v := 300) hx hb dX4_begin_24 (by decide) ?_
        refine lv_iload_n hx hb dX4_begin_27 rfl (lv_at hl 2 rfl) ?_
        refine lv_imul hx hb dX4_begin_28 ?_
        refine lv_iload_n hx hb dX4_begin_29 rfl (lv_at hl 0 rfl) ?_
        refine lv_iadd hx hb dX4_begin_30 ?_
        refine hr_ald EE hm hRs 2 ((300 * r0) + i) (by decide) (add_n (mul_n rfl rfl) rfl) (by show (300 * r0) + i < 18300; omega) (by decide) dX4_begin_31 ?_
        rw [hoth 2 (by decide), hzr.1]
        refine lv_istore_n (lv' := [(3, .int (nI z.1)), (2, .int (nI i)), (0, .ref y), (1, .int (nI r0))]) hx hb dX4_begin_32 rfl hl (by decide) rfl (fun ls hl => ?_)
        refine lv_aload_n hx hb dX4_begin_33 rfl (lv_at hl 2 rfl) ?_
        refine hr_get EE hm hRs 11 (by decide) wf_X4_109 (v := .ref (ad 11)) rfl dX4_begin_34 ?_
        refine lv_iload_n hx hb dX4_begin_37 rfl (lv_at hl 1 rfl) ?_
        refine lv_iload_n hx hb dX4_begin_38 rfl (lv_at hl 0 rfl) ?_
        refine hr_ast EE hm hS hRs hF 11 i (by decide) rfl (by show i < 300; omega) (by decide) dX4_begin_39 (fun H locs Mx3 hm hS hRs hF => ?_)
        obtain ⟨Sx4, hSx4⟩ : ∃ zz9, zz9 = sU S1 11 i (nI z.1) := ⟨_, rfl⟩
        rw [← hSx4] at hRs
        refine lv_aload_n hx hb dX4_begin_40 rfl (lv_at hl 2 rfl) ?_
        refine hr_get EE hm hRs 12 (by decide) wf_X4_112 (v := .ref (ad 12)) rfl dX4_begin_41 ?_
        refine lv_iload_n hx hb dX4_begin_44 rfl (lv_at hl 1 rfl) ?_
        refine lv_iconst (v := 1) hx hb dX4_begin_45 (by decide) ?_
        refine hr_ast EE hm hS hRs hF 12 i (by decide) rfl (by show i < 300; omega) (by decide) dX4_begin_46 (fun H locs Mx5 hm hS hRs hF => ?_)
        obtain ⟨Sx6, hSx6⟩ : ∃ zz9, zz9 = sU Sx4 12 i 1 := ⟨_, rfl⟩
        rw [← hSx6] at hRs
        refine lv_aload_n hx hb dX4_begin_47 rfl (lv_at hl 2 rfl) ?_
        refine hr_get EE hm hRs 13 (by decide) wf_X4_115 (v := .ref (ad 13)) rfl dX4_begin_48 ?_
        refine lv_iload_n hx hb dX4_begin_51 rfl (lv_at hl 1 rfl) ?_
        refine lv_sipush (v := 300) hx hb dX4_begin_52 (by decide) ?_
        refine lv_iload_n hx hb dX4_begin_55 rfl (lv_at hl 3 rfl) ?_
        refine lv_imul hx hb dX4_begin_56 ?_
        refine lv_iload_n hx hb dX4_begin_57 rfl (lv_at hl 1 rfl) ?_
        refine lv_iadd hx hb dX4_begin_58 ?_
        refine hr_ast EE hm hS hRs hF 13 i (by decide) rfl (by show i < 300; omega) (by decide) dX4_begin_59 (fun H locs Mx7 hm hS hRs hF => ?_)
        obtain ⟨Sx8, hSx8⟩ : ∃ zz9, zz9 = sU Sx6 13 i ((300 * (nI r0)) + (nI i)) := ⟨_, rfl⟩
        rw [← hSx8] at hRs
        refine lv_aload_n hx hb dX4_begin_60 rfl (lv_at hl 2 rfl) ?_
        refine lv_iload_n hx hb dX4_begin_61 rfl (lv_at hl 0 rfl) ?_
        refine lv_aload_n hx hb dX4_begin_62 rfl (lv_at hl 2 rfl) ?_
        refine hr_get EE hm hRs 3 (by decide) wf_X4_91 (v := .ref (ad 3)) rfl dX4_begin_63 ?_
        refine lv_sipush (v := 300) hx hb dX4_begin_66 (by decide) ?_
        refine lv_iload_n hx hb dX4_begin_69 rfl (lv_at hl 3 rfl) ?_
        refine lv_imul hx hb dX4_begin_70 ?_
        refine lv_iload_n hx hb dX4_begin_71 rfl (lv_at hl 1 rfl) ?_
        refine lv_iadd hx hb dX4_begin_72 ?_
        refine hr_ald EE hm hRs 3 ((300 * r0) + i) (by decide) (add_n (mul_n rfl rfl) rfl) (by show (300 * r0) + i < 18300; omega) (by decide) dX4_begin_73 ?_
        have hzv : Sx8 3 (300 * r0 + i) = z.2 := by rw [hSx8, sU_o (by decide), hSx6, sU_o (by decide), hSx4, sU_o (by decide), hoth 3 (by decide)]; exact hzr.2
        rw [hzv]
        have hoA : ∀ k9, (k9 < 8 ∨ 14 < k9) → Sx8 k9 = S k9 := fun k9 h9 => by rw [hSx8, sU_o (by omega), hSx6, sU_o (by omega), hSx4, sU_o (by omega)]; exact hoth k9 h9
        refine hp_cv (hp_runV (C := RX4) (T := TX4) (N := 24) (np := 2) (k := 4) (mc := 0) (ms := 0) (As := [.int (nI z.1), .int z.2]) (rest := []) EE hm hS (c_X4_leaf l g Mx7 y ad Sx8 Vx2 hRs (fun j hj => by rw [hoA 0 (by decide)]; exact hk0 j hj) (fun j hj => by rw [hoA 1 (by decide)]; exact hk1 j hj) z.1 hzk z.2) ms_X4_leaf wi_X4_leaf ws_X4_leaf wl_X4_152 hRs.1 rfl rfl hl.1 rfl (Nat.le_of_ble_eq_true rfl) dX4_begin_74 ⟨Nat.le_of_ble_eq_true rfl, Nat.le_of_ble_eq_true rfl⟩ ⟨(Nat.le_of_ble_eq_true rfl), (Nat.le_of_ble_eq_true rfl)⟩) hS (fun Mx9 H locs hq10 hm hS => ?_)
        obtain ⟨S7, hRs, hF7, ho7, hh7⟩ := hq10
        have hF : ∀ q, ¬ rO y ad q → Mx9 q = M q := fun q hq => (hF7 q hq).trans (hF q hq)
        refine lv_iconst (v := 0) hx hb dX4_begin_77 (by decide) ?_
        refine lv_istore (lv' := [(4, .int 0), (3, .int (nI z.1)), (2, .int (nI i)), (0, .ref y), (1, .int (nI r0))]) hx hb dX4_begin_78 hl (by decide) rfl (fun ls hl => ?_)
        have lp2 : ∀ (n u : Nat) (M2 : hM) (S2 : Nat → Nat → Int32)   (H : Heap) (locs : List Loc) (ls : Array Slot), 9 ≤ u + n → u ≤ 8 → (∀ k9, k9 ≠ 14 → S2 k9 = S7 k9) → (∀ q, (q < 8 * i ∨ 8 * i + 8 ≤ q) → S2 14 q = S7 14 q) → (∀ j, j < u → S2 14 (8 * i + j) = hLeaf (nI z.1) z.2 j) → RS g M2 y ad S2 Vx2 → (∀ q, ¬ rO y ad q → M2 q = M q) → hp g M2 H → va_S (hA g) s.heap H locs → lv_has ls 5 [(4, .int (nI u)), (2, .int (nI i)), (0, .ref y), (1, .int (nI r0))] → W p l e (hR 5 0 0) s m [.ref y, .int (nI r0)].toArray below meth c H locs 0 0 Q (F0 m 80 ls []) := by
          intro n
          induction n with
          | zero => intro u M2 S2 H locs ls hn2 hu hoth2 hlow2 hd2; exact absurd hn2 (by omega)
          | succ n ih2 =>
            intro u M2 S2 H locs ls hn2 hu hoth2 hlow2 hd2 hRs hF hm hS hl
            refine lv_iload hx hb dX4_begin_80 (lv_at hl 0 rfl) ?_
            refine lv_bipush (v := 8) hx hb dX4_begin_82 (by decide) ?_
            refine lv_icmp_ge (tgt := 112) hx hb dX4_begin_84 (by decide) (fun c_84 => ?_) (fun c_84 => ?_)
            · have c_84 : 8 ≤ u := (leN (a := 8) (b := u) rfl rfl (by decide) (by omega)).mp c_84
              have hAt : ∀ q, q ≠ i → Sx8 11 q = S1 11 q ∧ Sx8 12 q = S1 12 q ∧ Sx8 13 q = S1 13 q := fun q hq => by
                rw [hSx8, sU_o (by decide), sU_o (by decide), sU_n hq, hSx6, sU_o (by decide), sU_n hq, sU_o (by decide), hSx4, sU_n hq, sU_o (by decide), sU_o (by decide)]
                exact ⟨rfl, rfl, rfl⟩
              have hAi : Sx8 11 i = nI z.1 ∧ Sx8 12 i = 1 ∧ Sx8 13 i = nI (300 * r0 + i) := by
                rw [hSx8, sU_o (by decide), sU_o (by decide), sU_i, hSx6, sU_o (by decide), sU_i, hSx4, sU_i]
                exact ⟨rfl, rfl, add_n (mul_n rfl rfl) rfl⟩
              have hA14 : ∀ q, Sx8 14 q = S1 14 q := fun q => by rw [hSx8, sU_o (by decide), hSx6, sU_o (by decide), hSx4, sU_o (by decide)]
              have hS2 : ∀ k9, k9 ≠ 14 → k9 ≠ 8 → k9 ≠ 9 → k9 ≠ 10 → S2 k9 = Sx8 k9 := fun k9 h14 h8 h9 h10 => by rw [hoth2 k9 h14, ho7 k9 h8 h9 h10]
              have hlv2 : LVL S2 0 0 (300 * r0) ((E.take (i + 1)).map (fun z => [z])) := by
                rw [take_q hz, List.map_append, LVL_app]
                have hl : ((E.take i).map (fun z => [z])).length = i := by rw [List.length_map, List.length_take]; omega
                have hfl : ((E.take i).map (fun z => [z])).flatten.length = i := by rw [sgl_flat, List.length_take]; omega
                refine ⟨LVL_fr _ _ _ (fun q h1 h2 => ?_) hlv, ⟨?_, trivial⟩⟩
                · rw [hl] at h2
                  have hq := hAt q (by omega)
                  rw [hS2 11 (by decide) (by decide) (by decide) (by decide), hS2 12 (by decide) (by decide) (by decide) (by decide), hS2 13 (by decide) (by decide) (by decide) (by decide)]
                  exact ⟨hq.1, hq.2.1, hq.2.2, fun j hj => by rw [hlow2 _ (by omega), ho7 14 (by decide) (by decide) (by decide), hA14]⟩
                · rw [hl, hfl, Nat.zero_add, hS2 11 (by decide) (by decide) (by decide) (by decide), hS2 12 (by decide) (by decide) (by decide) (by decide), hS2 13 (by decide) (by decide) (by decide) (by decide)]
                  refine ⟨by rw [hAi.1]; show nI z.1 = nI (z.1 / 2 ^ 0); rw [Nat.pow_zero, Nat.div_one], hAi.2.1, hAi.2.2, fun j hj => ?_⟩
                  rw [hd2 j (by omega)]
                  show _ = dgF 0 [(z.1, z.2)] j
                  rw [dgF_one]
              refine lv_iinc (v := nI (i + 1)) (lv' := [(2, .int (nI (i + 1))), (4, .int (nI u)), (0, .ref y), (1, .int (nI r0))]) hx hb dX4_begin_112 hl (k := 1) rfl (inc_n rfl) (by decide) rfl (fun ls hl => ?_)
              refine lv_goto (tgt := 12) hx hb dX4_begin_115 (by decide) ?_
              exact ih (i + 1) M2 S2 H locs ls (by omega) (by omega) (fun k9 h9 => by rw [hS2 k9 (by omega) (by omega) (by omega) (by omega)]; exact hoA k9 h9) hlv2 hRs hF hm hS (lv_sub hl [0, 2, 3] rfl)
            · have c_84 : ¬ 8 ≤ u := fun h9 => c_84 ((leN (a := 8) (b := u) rfl rfl (by decide) (by omega)).mpr h9)
              refine lv_aload_n hx hb dX4_begin_87 rfl (lv_at hl 2 rfl) ?_
              refine hr_get EE hm hRs 14 (by decide) wf_X4_118 (v := .ref (ad 14)) rfl dX4_begin_88 ?_
              refine lv_bipush (v := 8) hx hb dX4_begin_91 (by decide) ?_
              refine lv_iload_n hx hb dX4_begin_93 rfl (lv_at hl 1 rfl) ?_
              refine lv_imul hx hb dX4_begin_94 ?_
              refine lv_iload hx hb dX4_begin_95 (lv_at hl 0 rfl) ?_
              refine lv_iadd hx hb dX4_begin_97 ?_
              refine lv_aload_n hx hb dX4_begin_98 rfl (lv_at hl 2 rfl) ?_
              refine hr_get EE hm hRs 10 (by decide) wf_X4_106 (v := .ref (ad 10)) rfl dX4_begin_99 ?_
              refine lv_iload hx hb dX4_begin_102 (lv_at hl 0 rfl) ?_
              refine hr_ald EE hm hRs 10 u (by decide) rfl (by show u < 8; omega) (by decide) dX4_begin_104 ?_
              refine hr_ast EE hm hS hRs hF 14 ((8 * i) + u) (by decide) (add_n (mul_n rfl rfl) rfl) (by show (8 * i) + u < 2400; omega) (by decide) dX4_begin_105 (fun H locs Mx11 hm hS hRs hF => ?_)
              obtain ⟨Sx12, hSx12⟩ : ∃ zz9, zz9 = sU S2 14 ((8 * i) + u) (S2 10 u) := ⟨_, rfl⟩
              rw [← hSx12] at hRs
              refine lv_iinc (v := nI (u + 1)) (lv' := [(4, .int (nI (u + 1))), (2, .int (nI i)), (0, .ref y), (1, .int (nI r0))]) hx hb dX4_begin_106 hl (k := 0) rfl (inc_n rfl) (by decide) rfl (fun ls hl => ?_)
              refine lv_goto (tgt := 80) hx hb dX4_begin_109 (by decide) ?_
              refine ih2 (u + 1) Mx11 Sx12 H locs ls (by omega) (by omega) (fun k9 hk9 => by rw [hSx12, sU_o hk9]; exact hoth2 k9 hk9) (fun q hq => by rw [hSx12, sU_n (by omega)]; exact hlow2 q hq) (fun j hj => ?_) hRs hF hm hS (lv_sub hl [0, 1, 2, 3] rfl)
              by_cases t : j = u
              · subst t; rw [hSx12, sU_i, hoth2 10 (by decide)]; exact hh7 j (by omega)
              · rw [hSx12, sU_n (by omega)]; exact hd2 j (by omega)
        exact lp2 9 0 Mx9 S7 H locs ls (by omega) (by omega) (fun _ _ => rfl) (fun _ _ => rfl) (fun j h => absurd h (Nat.not_lt_zero j)) hRs hF hm hS (lv_sub hl [0, 2, 3, 4] rfl)
  exact lp (E.length + 1) 0 Mx1 S H locs ls (by omega) (by omega) (fun _ _ => rfl) trivial hRs hF hm hS (lv_sub hl [0, 1, 2] rfl)
set_option maxHeartbeats 4000000 in
set_option maxRecDepth 100000 in
theorem c_X4_copyNode (l : Launch) (g : hG) (M : hM) (y : Nat) (ad : Nat → Nat) (S : Nat → Nat → Int32) (V : Nat → Int32) (hRs : RS g M y ad S V) (fn tn : Nat) (hft : tn ≤ fn) (hfn : fn < 300) : Cv l g yX4_copyNode cX4_copyNode 4 1 0 0 [.ref y, .int (nI fn), .int (nI tn)] M (fun M9 => ∃ S9, RS g M9 y ad S9 V ∧ (∀ q, ¬ rO y ad q → M9 q = M q) ∧ (∀ k9, (k9 < 11 ∨ 14 < k9) → S9 k9 = S k9) ∧ (∀ q, q ≠ tn → S9 11 q = S 11 q ∧ S9 12 q = S 12 q ∧ S9 13 q = S 13 q) ∧ (∀ q, (q < 8 * tn ∨ 8 * tn + 8 ≤ q) → S9 14 q = S 14 q) ∧ S9 11 tn = S 11 fn >>> ((1 : Int32) &&& 31) ∧ S9 12 tn = S 12 fn ∧ S9 13 tn = S 13 fn ∧ ∀ j, j < 8 → S9 14 (8 * tn + j) = S 14 (8 * fn + j)) := by
  refine hp_startV (by decide) (by exact Nat.le_of_ble_eq_true rfl) ?_
  intro p e s m below meth c Q H locs ls EE hnm ret hm hS hl
  have hx := EE.1
  have hb := EE.2.1
  have hown := EE.2.2.2.1
  have hts := EE.2.2.2.2.1
  have hl : lv_has ls 4 [(0, .ref y), (1, .int (nI fn)), (2, .int (nI tn))] := hl
  have hF : ∀ q, ¬ rO y ad q → M q = M q := fun _ _ => rfl
  refine lv_aload_n hx hb dX4_copyNode_0 rfl (lv_at hl 0 rfl) ?_
  refine hr_get EE hm hRs 11 (by decide) wf_X4_109 (v := .ref (ad 11)) rfl dX4_copyNode_1 ?_
  refine lv_iload_n hx hb dX4_copyNode_4 rfl (lv_at hl 2 rfl) ?_
  refine lv_aload_n hx hb dX4_copyNode_5 rfl (lv_at hl 0 rfl) ?_
  refine hr_get EE hm hRs 11 (by decide) wf_X4_109 (v := .ref (ad 11)) rfl dX4_copyNode_6 ?_
  refine lv_iload_n hx hb dX4_copyNode_9 rfl (lv_at hl 1 rfl) ?_
  refine hr_ald EE hm hRs 11 fn (by decide) rfl (by show fn < 300; omega) (by decide) dX4_copyNode_10 ?_
  refine lv_iconst (v := 1) hx hb dX4_copyNode_11 (by decide) ?_
  refine lv_ishr hx hb dX4_copyNode_12 ?_
  refine hr_ast EE hm hS hRs hF 11 tn (by decide) rfl (by show tn < 300; omega) (by decide) dX4_copyNode_13 (fun H locs Mx1 hm hS hRs hF => ?_)
  obtain ⟨Sx2, hSx2⟩ : ∃ zz9, zz9 = sU S 11 tn ((S 11 fn) >>> (1 &&& 31)) := ⟨_, rfl⟩
  rw [← hSx2] at hRs
  refine lv_aload_n hx hb dX4_copyNode_14 rfl (lv_at hl 0 rfl) ?_
  refine hr_get EE hm hRs 12 (by decide) wf_X4_112 (v := .ref (ad 12)) rfl dX4_copyNode_15 ?_
  refine lv_iload_n hx hb dX4_copyNode_18 rfl (lv_at hl 2 rfl) ?_
  refine lv_aload_n hx hb dX4_copyNode_19 rfl (lv_at hl 0 rfl) ?_
  refine hr_get EE hm hRs 12 (by decide) wf_X4_112 (v := .ref (ad 12)) rfl dX4_copyNode_20 ?_
  refine lv_iload_n hx hb dX4_copyNode_23 rfl (lv_at hl 1 rfl) ?_
  refine hr_ald EE hm hRs 12 fn (by decide) rfl (by show fn < 300; omega) (by decide) dX4_copyNode_24 ?_
  refine hr_ast EE hm hS hRs hF 12 tn (by decide) rfl (by show tn < 300; omega) (by decide) dX4_copyNode_25 (fun H locs Mx3 hm hS hRs hF => ?_)
  obtain ⟨Sx4, hSx4⟩ : ∃ zz9, zz9 = sU Sx2 12 tn (Sx2 12 fn) := ⟨_, rfl⟩
  rw [← hSx4] at hRs
  refine lv_aload_n hx hb dX4_copyNode_26 rfl (lv_at hl 0 rfl) ?_
  refine hr_get EE hm hRs 13 (by decide) wf_X4_115 (v := .ref (ad 13)) rfl dX4_copyNode_27 ?_
  refine lv_iload_n hx hb dX4_copyNode_30 rfl (lv_at hl 2 rfl) ?_
  refine lv_aload_n hx hb dX4_copyNode_31 rfl (lv_at hl 0 rfl) ?_
  refine hr_get EE hm hRs 13 (by decide) wf_X4_115 (v := .ref (ad 13)) rfl dX4_copyNode_32 ?_
  refine lv_iload_n hx hb dX4_copyNode_35 rfl (lv_at hl 1 rfl) ?_
  refine hr_ald EE hm hRs 13 fn (by decide) rfl (by show fn < 300; omega) (by decide) dX4_copyNode_36 ?_
  refine hr_ast EE hm hS hRs hF 13 tn (by decide) rfl (by show tn < 300; omega) (by decide) dX4_copyNode_37 (fun H locs Mx5 hm hS hRs hF => ?_)
  obtain ⟨Sx6, hSx6⟩ : ∃ zz9, zz9 = sU Sx4 13 tn (Sx4 13 fn) := ⟨_, rfl⟩
  rw [← hSx6] at hRs
  have hAt : ∀ q, q ≠ tn → Sx6 11 q = S 11 q ∧ Sx6 12 q = S 12 q ∧ Sx6 13 q = S 13 q := fun q hq => by
    rw [hSx6, sU_o (by decide), sU_o (by decide), sU_n hq, hSx4, sU_o (by decide), sU_n hq, sU_o (by decide), hSx2, sU_n hq, sU_o (by decide), sU_o (by decide)]
    exact ⟨rfl, rfl, rfl⟩
  have hAi : Sx6 11 tn = S 11 fn >>> ((1 : Int32) &&& 31) ∧ Sx6 12 tn = S 12 fn ∧ Sx6 13 tn = S 13 fn := by
    rw [hSx6, sU_o (by decide), sU_o (by decide), sU_i, hSx4, sU_o (by decide), sU_i, sU_o (by decide), hSx2, sU_i, sU_o (by decide), sU_o (by decide)]
    exact ⟨rfl, rfl, rfl⟩
  have hAo : ∀ k9, (k9 < 11 ∨ 13 < k9) → Sx6 k9 = S k9 := fun k9 h9 => by rw [hSx6, sU_o (by omega), hSx4, sU_o (by omega), hSx2, sU_o (by omega)]
  refine lv_iconst (v := 0) hx hb dX4_copyNode_38 (by decide) ?_
  refine lv_istore_n (lv' := [(3, .int 0), (0, .ref y), (1, .int (nI fn)), (2, .int (nI tn))]) hx hb dX4_copyNode_39 rfl hl (by decide) rfl (fun ls hl => ?_)
  have lp : ∀ (n u : Nat) (M1 : hM) (S1 : Nat → Nat → Int32)   (H : Heap) (locs : List Loc) (ls : Array Slot), 9 ≤ u + n → u ≤ 8 → (∀ k9, k9 ≠ 14 → S1 k9 = Sx6 k9) → (∀ q, (q < 8 * tn ∨ 8 * tn + u ≤ q) → S1 14 q = S 14 q) → (∀ j, j < u → S1 14 (8 * tn + j) = S 14 (8 * fn + j)) → RS g M1 y ad S1 V → (∀ q, ¬ rO y ad q → M1 q = M q) → hp g M1 H → va_S (hA g) s.heap H locs → lv_has ls 4 [(3, .int (nI u)), (0, .ref y), (1, .int (nI fn)), (2, .int (nI tn))] → W p l e (hR 1 0 0) s m [.ref y, .int (nI fn), .int (nI tn)].toArray below meth c H locs 0 0 Q (F0 m 40 ls []) := by
    intro n
    induction n with
    | zero => intro u M1 S1 H locs ls hn hu hoth hlow hd; exact absurd hn (by omega)
    | succ n ih =>
      intro u M1 S1 H locs ls hn hu hoth hlow hd hRs hF hm hS hl
      refine lv_iload_n hx hb dX4_copyNode_40 rfl (lv_at hl 0 rfl) ?_
      refine lv_bipush (v := 8) hx hb dX4_copyNode_41 (by decide) ?_
      refine lv_icmp_ge (tgt := 74) hx hb dX4_copyNode_43 (by decide) (fun c_43 => ?_) (fun c_43 => ?_)
      · have c_43 : 8 ≤ u := (leN (a := 8) (b := u) rfl rfl (by decide) (by omega)).mp c_43
        exact ret dX4_copyNode_74 hm hS (Nat.le_of_ble_eq_true rfl) (Nat.le_of_ble_eq_true rfl) (⟨S1, hRs, hF, (fun k9 h9 => by rw [hoth k9 (by omega)]; exact hAo k9 (by omega)), (fun q hq => by rw [hoth 11 (by decide), hoth 12 (by decide), hoth 13 (by decide)]; exact hAt q hq), (fun q hq => hlow q (by omega)), (by rw [hoth 11 (by decide)]; exact hAi.1), (by rw [hoth 12 (by decide)]; exact hAi.2.1), (by rw [hoth 13 (by decide)]; exact hAi.2.2), fun j hj => hd j (by omega)⟩)
      · have c_43 : ¬ 8 ≤ u := fun h9 => c_43 ((leN (a := 8) (b := u) rfl rfl (by decide) (by omega)).mpr h9)
        refine lv_aload_n hx hb dX4_copyNode_46 rfl (lv_at hl 1 rfl) ?_
        refine hr_get EE hm hRs 14 (by decide) wf_X4_118 (v := .ref (ad 14)) rfl dX4_copyNode_47 ?_
        refine lv_bipush (v := 8) hx hb dX4_copyNode_50 (by decide) ?_
        refine lv_iload_n hx hb dX4_copyNode_52 rfl (lv_at hl 3 rfl) ?_
        refine lv_imul hx hb dX4_copyNode_53 ?_
        refine lv_iload_n hx hb dX4_copyNode_54 rfl (lv_at hl 0 rfl) ?_
        refine lv_iadd hx hb dX4_copyNode_55 ?_
        refine lv_aload_n hx hb dX4_copyNode_56 rfl (lv_at hl 1 rfl) ?_
        refine hr_get EE hm hRs 14 (by decide) wf_X4_118 (v := .ref (ad 14)) rfl dX4_copyNode_57 ?_
        refine lv_bipush (v := 8) hx hb dX4_copyNode_60 (by decide) ?_
        refine lv_iload_n hx hb dX4_copyNode_62 rfl (lv_at hl 2 rfl) ?_
        refine lv_imul hx hb dX4_copyNode_63 ?_
        refine lv_iload_n hx hb dX4_copyNode_64 rfl (lv_at hl 0 rfl) ?_
        refine lv_iadd hx hb dX4_copyNode_65 ?_
        refine hr_ald EE hm hRs 14 ((8 * fn) + u) (by decide) (add_n (mul_n rfl rfl) rfl) (by show (8 * fn) + u < 2400; omega) (by decide) dX4_copyNode_66 ?_
        refine hr_ast EE hm hS hRs hF 14 ((8 * tn) + u) (by decide) (add_n (mul_n rfl rfl) rfl) (by show (8 * tn) + u < 2400; omega) (by decide) dX4_copyNode_67 (fun H locs Mx7 hm hS hRs hF => ?_)
        obtain ⟨Sx8, hSx8⟩ : ∃ zz9, zz9 = sU S1 14 ((8 * tn) + u) (S1 14 ((8 * fn) + u)) := ⟨_, rfl⟩
        rw [← hSx8] at hRs
        refine lv_iinc (v := nI (u + 1)) (lv' := [(3, .int (nI (u + 1))), (0, .ref y), (1, .int (nI fn)), (2, .int (nI tn))]) hx hb dX4_copyNode_68 hl (k := 0) rfl (inc_n rfl) (by decide) rfl (fun ls hl => ?_)
        refine lv_goto (tgt := 40) hx hb dX4_copyNode_71 (by decide) ?_
        refine ih (u + 1) Mx7 Sx8 H locs ls (by omega) (by omega) (fun k9 hk9 => by rw [hSx8, sU_o hk9]; exact hoth k9 hk9) (fun q hq => by rw [hSx8, sU_n (by omega)]; exact hlow q (by omega)) (fun j hj => ?_) hRs hF hm hS (lv_sub hl [0, 1, 2, 3] rfl)
        by_cases t : j = u
        · subst t; rw [hSx8, sU_i]; exact hlow _ (by omega)
        · rw [hSx8, sU_n (by omega)]; exact hd j (by omega)
  exact lp 9 0 Mx5 Sx6 H locs ls (by omega) (by omega) (fun _ _ => rfl) (fun q _ => by rw [hAo 14 (by decide)]) (fun j h => absurd h (Nat.not_lt_zero j)) hRs hF hm hS (lv_sub hl [0, 1, 2, 3] rfl)
