set_option maxHeartbeats 4000000 in
set_option maxRecDepth 100000 in
theorem c_X3_digestOf (l : Launch) (g : hG) (N : gT) (h nm ms sc sa : Nat) : ∀ (n : Nat) (M : hM) (Z : gT) (fm fs fa : Nat → Int32) (ro : Option Nat) (E : En) (d : Nat) (hW : WF g M N Z) (hH : HS g M h nm ms sc sa fm fs fa) (hZ1 : Z ms = none) (hZ2 : Z sc = none) (hZ3 : Z sa = none) (hr : rt N ro n E) (hd : d + n = 16), Cq l g yX3_digestOf cX3_digestOf 6 ((.array .int)) (5 + n) (udT n M ro) (8 * (udT n M ro)) [va_rf ro, .int (nI d), .ref h] M (fun r M9 => ∃ Z9 fm9 fs9 fa9 b f, r = some b ∧ WF g M9 N Z9 ∧ HS g M9 h nm ms sc sa fm9 fs9 fa9 ∧ M9 b = some (aI g 8 f) ∧ (∀ j, j < 8 → f j = dgF n E j) ∧ (b = nm ∨ Z9 b ≠ none) ∧ dgR M N Z M9 Z9 n E ms sc sa (udT n M ro)) := by
  intro n
  induction n with
  | zero =>
    intro M Z fm fs fa ro E d hW hH hZ1 hZ2 hZ3 hr hd
    cases ro with
    | none =>
      have hE : E = [] := hr
      have hH0 := hH
      obtain ⟨e_h, e_ms, e_sc, e_sa, ⟨fn, e_nm, hz⟩, n_1, n_2, n_3, n_4, n_5, n_6⟩ := hH
      have nh1 : h ≠ ms := ne_lk e_h e_ms (by simp)
      have nh2 : h ≠ sc := ne_lk e_h e_sc (by simp)
      have nh3 : h ≠ sa := ne_lk e_h e_sa (by simp)
      show Cq l g yX3_digestOf cX3_digestOf 6 ((.array .int)) 5 (udT 0 M none) (8 * (udT 0 M none)) [.null, .int (nI d), .ref h] M (fun r M9 => ∃ Z9 fm9 fs9 fa9 b f, r = some b ∧ WF g M9 N Z9 ∧ HS g M9 h nm ms sc sa fm9 fs9 fa9 ∧ M9 b = some (aI g 8 f) ∧ (∀ j, j < 8 → f j = dgF 0 E j) ∧ (b = nm ∨ Z9 b ≠ none) ∧ dgR M N Z M9 Z9 0 E ms sc sa (udT 0 M none))
      refine hp_startQ (by decide) (by exact Nat.le_of_ble_eq_true rfl) (by first | exact Or.inl ⟨_, rfl⟩ | exact Or.inr ⟨_, rfl⟩) ?_
      intro p e s m below meth c Q H locs ls EE hnm ret hm hS hl
      have hx := EE.1
      have hb := EE.2.1
      have hown := EE.2.2.2.1
      have hts := EE.2.2.2.2.1
      have hl : lv_has ls 6 [(0, .null), (1, .int (nI d)), (2, .ref h)] := hl
      refine lv_aload_nN hx hb dX3_digestOf_0 rfl (lv_at hl 0 rfl) ?_
      refine lv_ifnullN (tgt := 10) hx hb dX3_digestOf_1 (by decide) ?_
      refine lv_aload_n hx hb dX3_digestOf_10 rfl (lv_at hl 2 rfl) ?_
      refine hp_get (C := RX0) (T := TX0) (N := 4) (v := .ref nm) EE hm e_h inh0 rfl 0 (by decide) wf_X3_148 rfl dX3_digestOf_11 ?_
      exact ret (v := some nm) dX3_digestOf_14 hm hS (Nat.zero_le _) (Nat.zero_le _) (⟨Z, fm, fs, fa, nm, fn, rfl, hW, hH0, e_nm, fun j hj => by rw [hE, dgF_nil, hz j hj], Or.inl rfl, by rw [udT_none]; exact dgR.rf⟩)
    | some a =>
      have hH0 := hH
      obtain ⟨e_h, e_ms, e_sc, e_sa, ⟨fn, e_nm, hz⟩, n_1, n_2, n_3, n_4, n_5, n_6⟩ := hH
      have nh1 : h ≠ ms := ne_lk e_h e_ms (by simp)
      have nh2 : h ≠ sc := ne_lk e_h e_sc (by simp)
      have nh3 : h ≠ sa := ne_lk e_h e_sa (by simp)
      obtain ⟨n0, hN, hne, hn2⟩ := hr
      have hr0 : rt N (some a) 0 E := ⟨n0, hN, hne, hn2⟩
      obtain ⟨ky, vl, z, o, dg, e_a, hdg, hlen, hcase⟩ := hW.1 a n0 E hN
      have hua : under N 0 E a := ⟨n0, E, hN, fun _ h => h, fun q => by rw [hn2 q]; exact Nat.le_refl _⟩
      have na1 : a ≠ ms := ne_lk e_a e_ms (by simp)
      have na2 : a ≠ sc := ne_lk e_a e_sc (by simp)
      have na3 : a ≠ sa := ne_lk e_a e_sa (by simp)
      show Cq l g yX3_digestOf cX3_digestOf 6 ((.array .int)) 5 (udT 0 M (some a)) (8 * (udT 0 M (some a))) [.ref a, .int (nI d), .ref h] M (fun r M9 => ∃ Z9 fm9 fs9 fa9 b f, r = some b ∧ WF g M9 N Z9 ∧ HS g M9 h nm ms sc sa fm9 fs9 fa9 ∧ M9 b = some (aI g 8 f) ∧ (∀ j, j < 8 → f j = dgF 0 E j) ∧ (b = nm ∨ Z9 b ≠ none) ∧ dgR M N Z M9 Z9 0 E ms sc sa (udT 0 M (some a)))
      refine hp_startQ (by decide) (by exact Nat.le_of_ble_eq_true rfl) (by first | exact Or.inl ⟨_, rfl⟩ | exact Or.inr ⟨_, rfl⟩) ?_
      intro p e s m below meth c Q H locs ls EE hnm ret hm hS hl
      have hx := EE.1
      have hb := EE.2.1
      have hown := EE.2.2.2.1
      have hts := EE.2.2.2.2.1
      have hl : lv_has ls 6 [(0, .ref a), (1, .int (nI d)), (2, .ref h)] := hl
      refine lv_aload_n hx hb dX3_digestOf_0 rfl (lv_at hl 0 rfl) ?_
      refine lv_ifnull hx hb dX3_digestOf_1 ?_
      refine lv_iload_n hx hb dX3_digestOf_4 rfl (lv_at hl 1 rfl) ?_
      refine lv_bipush (v := 16) hx hb dX3_digestOf_5 (by decide) ?_
      refine lv_icmp_le (tgt := 15) hx hb dX3_digestOf_7 (by decide) (fun c_7 => ?_) (fun c_7 => ?_)
      · have c_7 : d ≤ 16 := (nI_leI (a := d) (b := 16) (by omega) (by decide)).mp c_7
        refine lv_aload_n hx hb dX3_digestOf_15 rfl (lv_at hl 0 rfl) ?_
        refine hp_get (C := RX1) (T := TX1) (N := 6) (v := va_rf dg) EE hm e_a inh1 rfl 5 (by decide) wf_X3_151 rfl dX3_digestOf_16 ?_
        refine hq_ifnonnull (tgt := 91) hx hb dX3_digestOf_19 (by decide) (fun b0 hz9 => ?_) (fun hz9 => ?_)
        · rw [hz9] at e_a
          have e_a : M a = some (.inr (1, [.int (nI E.length), .int ky, .int vl, va_rf z, va_rf o, .ref b0])) := e_a
          obtain ⟨f0, e_b0, hf0⟩ := hW.2 b0 n0 E (hdg b0 hz9)
          have hu : udT 0 M (some a) = 0 := by
            show (if und M a then _ else 0) = 0
            rw [und_f e_a]; rfl
          have hdn : dgF n0 E = dgF 0 E := by
            rcases hcase with ⟨k, h1, -⟩ | ⟨n9, -, -, h2, -⟩
            · rw [h1, dgF_one, dgF_one]
            · rw [hn2 h2]
          refine lv_aload_n hx hb dX3_digestOf_91 rfl (lv_at hl 0 rfl) ?_
          refine hp_get (C := RX1) (T := TX1) (N := 6) (v := .ref b0) EE hm e_a inh1 rfl 5 (by decide) wf_X3_151 rfl dX3_digestOf_92 ?_
          exact ret (v := some b0) dX3_digestOf_95 hm hS (by omega) (by omega) (⟨Z, fm, fs, fa, b0, f0, rfl, hW, hH0, e_b0, fun j hj => by rw [hf0 j hj, hdn], Or.inr (by rw [hdg b0 hz9]; exact fun z9 => by cases z9), by rw [hu]; exact dgR.rf⟩)
        · rw [hz9] at e_a
          have e_a : M a = some (.inr (1, [.int (nI E.length), .int ky, .int vl, va_rf z, va_rf o, .null])) := e_a
          have hut := und_t e_a
          have hu0 : udT 0 M (some a) = 1 := by
            show (if und M a then _ else 0) = _
            rw [hut, if_pos rfl]
          have o_ms := e_ms
          have o_sc := e_sc
          have o_sa := e_sa
          have o_nm := e_nm
          have o_a := e_a
          have o_h := e_h
          refine lv_bipush (v := 8) hx hb dX3_digestOf_22 (by decide) ?_
          refine hp_newa (N' := 8) EE hm hS warr (by decide) (by decide) (by decide) (by show 0 + 1 ≤ udT 0 M (some a); omega) (by show 0 + 8 ≤ 8 * (udT 0 M (some a)); omega) dX3_digestOf_24 (fun q1 H hq1 hm hS => ?_)
          obtain ⟨Mx2, hMx2⟩ : ∃ Mz, Mz = hm_up M q1 (aI g 8 (fun _ => 0)) := ⟨_, rfl⟩
          have hm : hp g Mx2 H := by rw [hMx2]; exact hm
          have e_h : Mx2 h = some (.inr (0, [.ref nm, .ref ms, .ref sc, .ref sa])) := by rw [hMx2]; exact up_at (ne_new hq1 e_h) e_h
          have e_nm : Mx2 nm = some (aI g 8 fn) := by rw [hMx2]; exact up_at (ne_new hq1 e_nm) e_nm
          have e_ms : Mx2 ms = some (aI g 32 fm) := by rw [hMx2]; exact up_at (ne_new hq1 e_ms) e_ms
          have e_sc : Mx2 sc = some (aI g 64 fs) := by rw [hMx2]; exact up_at (ne_new hq1 e_sc) e_sc
          have e_sa : Mx2 sa = some (aI g 8 fa) := by rw [hMx2]; exact up_at (ne_new hq1 e_sa) e_sa
          have e_a : Mx2 a = some (.inr (1, [.int (nI E.length), .int ky, .int vl, va_rf z, va_rf o, .null])) := by rw [hMx2]; exact up_at (ne_new hq1 e_a) e_a
          have e_q1 : Mx2 q1 = some (aI g 8 (fun _ => 0)) := by rw [hMx2]; exact up_eq
          have t_ms : q1 ≠ ms := Ne.symm (ne_new hq1 o_ms)
          have t_sc : q1 ≠ sc := Ne.symm (ne_new hq1 o_sc)
          have t_sa : q1 ≠ sa := Ne.symm (ne_new hq1 o_sa)
          have t_nm : q1 ≠ nm := Ne.symm (ne_new hq1 o_nm)
          have t_a : q1 ≠ a := Ne.symm (ne_new hq1 o_a)
          have t_h : q1 ≠ h := Ne.symm (ne_new hq1 o_h)
          have hm1f : ∀ x, x ≠ q1 → Mx2 x = M x := fun x hx => by rw [hMx2, up_ne hx]
          have hW1 : WF g Mx2 N Z := hW.mono (fun x e9 h9 => by rw [hMx2]; exact up_at (ne_new hq1 h9) h9)
          have hZq : Z q1 = none := by
            cases h8 : Z q1 with
            | none => rfl
            | some y => obtain ⟨f8, h81, -⟩ := hW.2 _ _ _ h8; rw [hq1] at h81; cases h81
          have o_qq := e_q1
          have m1_ms : Mx2 ms ≠ none := by rw [e_ms]; exact fun z9 => by cases z9
          have m1_sc : Mx2 sc ≠ none := by rw [e_sc]; exact fun z9 => by cases z9
          have m1_sa : Mx2 sa ≠ none := by rw [e_sa]; exact fun z9 => by cases z9
          refine lv_astore_n (lv' := [(3, .ref q1), (0, .ref a), (1, .int (nI d)), (2, .ref h)]) hx hb dX3_digestOf_26 rfl hl (by decide) rfl (fun ls hl => ?_)
          refine lv_aload_n hx hb dX3_digestOf_27 rfl (lv_at hl 1 rfl) ?_
          refine hp_get (C := RX1) (T := TX1) (N := 6) (v := .int (nI E.length)) EE hm e_a inh1 rfl 0 (by decide) wf_X3_132 rfl dX3_digestOf_28 ?_
          refine lv_iconst (v := 1) hx hb dX3_digestOf_31 (by decide) ?_
          refine lv_icmp_ne (tgt := 51) hx hb dX3_digestOf_32 (by decide) (fun c_32 => ?_) (fun c_32 => ?_)
          · have c_32 : ¬ E.length = 1 := fun h9 => c_32 ((nI_eq (a := E.length) (b := 1) (by omega) (by decide)).mpr h9)
            rcases hcase with ⟨k9, h1, -⟩ | ⟨n9, h1, -, h2, -⟩
            · exact absurd (by rw [h1]; rfl) c_32
            · exact absurd (hn2 h2) (by omega)
          · have c_32 : E.length = 1 := (nI_eq (a := E.length) (b := 1) (by omega) (by decide)).mp c_32
            obtain ⟨k9, hE, hky, hk9, hz0, ho0⟩ : ∃ k9, E = [(k9, vl)] ∧ ky = nI k9 ∧ k9 < 65536 ∧ z = none ∧ o = none := by
              rcases hcase with h | ⟨n9, -, -, h2, -⟩
              · exact h
              · omega
            refine lv_aload_n hx hb dX3_digestOf_35 rfl (lv_at hl 3 rfl) ?_
            refine lv_aload_n hx hb dX3_digestOf_36 rfl (lv_at hl 1 rfl) ?_
            refine hp_get (C := RX1) (T := TX1) (N := 6) (v := .int ky) EE hm e_a inh1 rfl 1 (by decide) wf_X3_105 rfl dX3_digestOf_37 ?_
            refine lv_aload_n hx hb dX3_digestOf_40 rfl (lv_at hl 1 rfl) ?_
            refine hp_get (C := RX1) (T := TX1) (N := 6) (v := .int vl) EE hm e_a inh1 rfl 2 (by decide) wf_X3_73 rfl dX3_digestOf_41 ?_
            refine lv_aload_n hx hb dX3_digestOf_44 rfl (lv_at hl 0 rfl) ?_
            refine hp_cv (hp_runV (C := RX0) (T := TX0) (N := 4) (np := 3) (k := 4) (mc := 0) (ms := 0) (As := [.int ky, .int vl, .ref q1]) (rest := []) EE hm hS (c_X0_hashEntry l g Mx2 h nm ms sc sa fm fs fa ⟨e_h, e_ms, e_sc, e_sa, ⟨fn, e_nm, hz⟩, n_1, n_2, n_3, n_4, n_5, n_6⟩ q1 _ e_q1 t_ms t_sc t_sa t_nm ky vl) ms_X0_hashEntry wi_X0_hashEntry ws_X0_hashEntry wl_X3_154 e_h rfl rfl hl.1 rfl (Nat.le_of_ble_eq_true rfl) dX3_digestOf_45 ⟨Nat.le_of_ble_eq_true rfl, Nat.le_of_ble_eq_true rfl⟩ ⟨(by show 0 + 1 + 0 ≤ udT 0 M (some a); omega), (by show 0 + 8 + 0 ≤ 8 * (udT 0 M (some a)); omega)⟩) hS (fun Mx3 H locs hq4 hm hS => ?_)
            have k1 := e_ms
            have k2 := e_sc
            have k3 := e_sa
            have kq := e_q1
            have ka := e_a
            obtain ⟨fm5, fs5, fa5, f5, hH5, e_t5, hfr5, hf5⟩ := hq4
            have e_a : Mx3 a = some (.inr (1, [.int (nI E.length), .int ky, .int vl, va_rf z, va_rf o, .null])) := (hfr5 a na1 na2 na3 (Ne.symm t_a)).trans e_a
            have e_q1 := e_t5
            obtain ⟨e_h, e_ms, e_sc, e_sa, ⟨fn, e_nm, hz⟩, n_1, n_2, n_3, n_4, n_5, n_6⟩ := hH5
            refine lv_goto (tgt := 86) hx hb dX3_digestOf_48 (by decide) ?_
            refine lv_aload_n hx hb dX3_digestOf_86 rfl (lv_at hl 1 rfl) ?_
            refine lv_aload_n hx hb dX3_digestOf_87 rfl (lv_at hl 0 rfl) ?_
            refine hp_put (C := RX1) (T := TX1) (N := 6) (v := .ref q1) (ty := .array .int) EE hm hS e_a inh1 tyX1 tyX1_ok nmX1 rfl 5 (by decide) wf_X3_151 rfl (by decide +kernel) rfl rfl (Nat.le_of_ble_eq_true rfl) dX3_digestOf_88 (fun H locs hm hS => ?_)
            obtain ⟨Mx5, hMx5⟩ : ∃ Mz, Mz = hm_up Mx3 a (.inr (1, [.int (nI E.length), .int ky, .int vl, va_rf z, va_rf o, .ref q1])) := ⟨_, rfl⟩
            have hm : hp g Mx5 H := by rw [hMx5]; exact hm
            have e_h : Mx5 h = some (.inr (0, [.ref nm, .ref ms, .ref sc, .ref sa])) := by rw [hMx5]; exact up_at (ne_lk e_h e_a (by simp)) e_h
            have e_nm : Mx5 nm = some (aI g 8 fn) := by rw [hMx5]; exact up_at (ne_lk e_nm e_a (by simp)) e_nm
            have e_ms : Mx5 ms = some (aI g 32 fm5) := by rw [hMx5]; exact up_at (Ne.symm na1) e_ms
            have e_sc : Mx5 sc = some (aI g 64 fs5) := by rw [hMx5]; exact up_at (Ne.symm na2) e_sc
            have e_sa : Mx5 sa = some (aI g 8 fa5) := by rw [hMx5]; exact up_at (Ne.symm na3) e_sa
            have e_q1 : Mx5 q1 = some (aI g 8 f5) := by rw [hMx5]; exact up_at t_a e_q1
            have e_a : Mx5 a = some (.inr (1, [.int (nI E.length), .int ky, .int vl, va_rf z, va_rf o, .ref q1])) := by rw [hMx5]; exact up_eq
            refine lv_aload_n hx hb dX3_digestOf_91 rfl (lv_at hl 1 rfl) ?_
            refine hp_get (C := RX1) (T := TX1) (N := 6) (v := .ref q1) EE hm e_a inh1 rfl 5 (by decide) wf_X3_151 rfl dX3_digestOf_92 ?_
            have hf6 : ∀ j, j < 8 → f5 j = dgF n0 E j := fun j hj => by rw [hf5 j hj, hE, dgF_one, hky]
            obtain ⟨Z9, hW9, hZ9, hR9⟩ := dig_fin (n0 := n0) (m := 0) (u := 0) hW1 dgR.rf hq1 (fun x hx => hm1f x hx) o_qq hZq hN hua ka e_a e_q1 hf6 (fun x a1 a2 a3 a4 a5 => by rw [hMx5, up_ne a5]; exact hfr5 x a1 a2 a3 a4) k1 k2 k3 e_ms e_sc e_sa hZ1 hZ2 hZ3 m1_ms m1_sc m1_sa kq
            have hu : udT 0 M (some a) = 0 + 1 := by rw [hu0]
            have hfj : ∀ j, j < 8 → f5 j = dgF 0 E j := fun j hj => by
              rw [hf6 j hj]
              rcases hcase with ⟨k, h1, -⟩ | ⟨n9, -, -, h2, -⟩
              · rw [h1, dgF_one, dgF_one]
              · rw [hn2 h2]
            exact ret (v := some q1) dX3_digestOf_95 hm hS (by omega) (by omega) (⟨Z9, _, _, _, q1, f5, rfl, hW9, ⟨e_h, e_ms, e_sc, e_sa, ⟨fn, e_nm, hz⟩, n_1, n_2, n_3, n_4, n_5, n_6⟩, e_q1, hfj, Or.inr hZ9, by rw [hu]; exact hR9⟩)
      · have c_7 : ¬ d ≤ 16 := fun h9 => c_7 ((nI_leI (a := d) (b := 16) (by omega) (by decide)).mpr h9)
        exact absurd (by omega) c_7
  | succ n ih =>
    intro M Z fm fs fa ro E d hW hH hZ1 hZ2 hZ3 hr hd
    cases ro with
    | none =>
      have hE : E = [] := hr
      have hH0 := hH
      obtain ⟨e_h, e_ms, e_sc, e_sa, ⟨fn, e_nm, hz⟩, n_1, n_2, n_3, n_4, n_5, n_6⟩ := hH
      have nh1 : h ≠ ms := ne_lk e_h e_ms (by simp)
      have nh2 : h ≠ sc := ne_lk e_h e_sc (by simp)
      have nh3 : h ≠ sa := ne_lk e_h e_sa (by simp)
      show Cq l g yX3_digestOf cX3_digestOf 6 ((.array .int)) (5 + (n + 1)) (udT (n + 1) M none) (8 * (udT (n + 1) M none)) [.null, .int (nI d), .ref h] M (fun r M9 => ∃ Z9 fm9 fs9 fa9 b f, r = some b ∧ WF g M9 N Z9 ∧ HS g M9 h nm ms sc sa fm9 fs9 fa9 ∧ M9 b = some (aI g 8 f) ∧ (∀ j, j < 8 → f j = dgF (n + 1) E j) ∧ (b = nm ∨ Z9 b ≠ none) ∧ dgR M N Z M9 Z9 (n + 1) E ms sc sa (udT (n + 1) M none))
      refine hp_startQ (by decide) (by exact Nat.le_of_ble_eq_true rfl) (by first | exact Or.inl ⟨_, rfl⟩ | exact Or.inr ⟨_, rfl⟩) ?_
      intro p e s m below meth c Q H locs ls EE hnm ret hm hS hl
      have hx := EE.1
      have hb := EE.2.1
      have hown := EE.2.2.2.1
      have hts := EE.2.2.2.2.1
      have hl : lv_has ls 6 [(0, .null), (1, .int (nI d)), (2, .ref h)] := hl
      refine lv_aload_nN hx hb dX3_digestOf_0 rfl (lv_at hl 0 rfl) ?_
      refine lv_ifnullN (tgt := 10) hx hb dX3_digestOf_1 (by decide) ?_
      refine lv_aload_n hx hb dX3_digestOf_10 rfl (lv_at hl 2 rfl) ?_
      refine hp_get (C := RX0) (T := TX0) (N := 4) (v := .ref nm) EE hm e_h inh0 rfl 0 (by decide) wf_X3_148 rfl dX3_digestOf_11 ?_
      exact ret (v := some nm) dX3_digestOf_14 hm hS (Nat.zero_le _) (Nat.zero_le _) (⟨Z, fm, fs, fa, nm, fn, rfl, hW, hH0, e_nm, fun j hj => by rw [hE, dgF_nil, hz j hj], Or.inl rfl, by rw [udT_none]; exact dgR.rf⟩)
    | some a =>
      have hH0 := hH
      obtain ⟨e_h, e_ms, e_sc, e_sa, ⟨fn, e_nm, hz⟩, n_1, n_2, n_3, n_4, n_5, n_6⟩ := hH
      have nh1 : h ≠ ms := ne_lk e_h e_ms (by simp)
      have nh2 : h ≠ sc := ne_lk e_h e_sc (by simp)
      have nh3 : h ≠ sa := ne_lk e_h e_sa (by simp)
      obtain ⟨n0, hN, hne, hn2⟩ := hr
      have hr0 : rt N (some a) (n + 1) E := ⟨n0, hN, hne, hn2⟩
      obtain ⟨ky, vl, z, o, dg, e_a, hdg, hlen, hcase⟩ := hW.1 a n0 E hN
      have hua : under N (n + 1) E a := ⟨n0, E, hN, fun _ h => h, fun q => by rw [hn2 q]; exact Nat.le_refl _⟩
      have na1 : a ≠ ms := ne_lk e_a e_ms (by simp)
      have na2 : a ≠ sc := ne_lk e_a e_sc (by simp)
      have na3 : a ≠ sa := ne_lk e_a e_sa (by simp)
      show Cq l g yX3_digestOf cX3_digestOf 6 ((.array .int)) (5 + (n + 1)) (udT (n + 1) M (some a)) (8 * (udT (n + 1) M (some a))) [.ref a, .int (nI d), .ref h] M (fun r M9 => ∃ Z9 fm9 fs9 fa9 b f, r = some b ∧ WF g M9 N Z9 ∧ HS g M9 h nm ms sc sa fm9 fs9 fa9 ∧ M9 b = some (aI g 8 f) ∧ (∀ j, j < 8 → f j = dgF (n + 1) E j) ∧ (b = nm ∨ Z9 b ≠ none) ∧ dgR M N Z M9 Z9 (n + 1) E ms sc sa (udT (n + 1) M (some a)))
      refine hp_startQ (by decide) (by exact Nat.le_of_ble_eq_true rfl) (by first | exact Or.inl ⟨_, rfl⟩ | exact Or.inr ⟨_, rfl⟩) ?_
      intro p e s m below meth c Q H locs ls EE hnm ret hm hS hl
      have hx := EE.1
      have hb := EE.2.1
      have hown := EE.2.2.2.1
      have hts := EE.2.2.2.2.1
      have hl : lv_has ls 6 [(0, .ref a), (1, .int (nI d)), (2, .ref h)] := hl
      refine lv_aload_n hx hb dX3_digestOf_0 rfl (lv_at hl 0 rfl) ?_
      refine lv_ifnull hx hb dX3_digestOf_1 ?_
      refine lv_iload_n hx hb dX3_digestOf_4 rfl (lv_at hl 1 rfl) ?_
      refine lv_bipush (v := 16) hx hb dX3_digestOf_5 (by decide) ?_
      refine lv_icmp_le (tgt := 15) hx hb dX3_digestOf_7 (by decide) (fun c_7 => ?_) (fun c_7 => ?_)
      · have c_7 : d ≤ 16 := (nI_leI (a := d) (b := 16) (by omega) (by decide)).mp c_7
        refine lv_aload_n hx hb dX3_digestOf_15 rfl (lv_at hl 0 rfl) ?_
        refine hp_get (C := RX1) (T := TX1) (N := 6) (v := va_rf dg) EE hm e_a inh1 rfl 5 (by decide) wf_X3_151 rfl dX3_digestOf_16 ?_
        refine hq_ifnonnull (tgt := 91) hx hb dX3_digestOf_19 (by decide) (fun b0 hz9 => ?_) (fun hz9 => ?_)
        · rw [hz9] at e_a
          have e_a : M a = some (.inr (1, [.int (nI E.length), .int ky, .int vl, va_rf z, va_rf o, .ref b0])) := e_a
          obtain ⟨f0, e_b0, hf0⟩ := hW.2 b0 n0 E (hdg b0 hz9)
          have hu : udT (n + 1) M (some a) = 0 := by
            show (if und M a then _ else 0) = 0
            rw [und_f e_a]; rfl
          have hdn : dgF n0 E = dgF (n + 1) E := by
            rcases hcase with ⟨k, h1, -⟩ | ⟨n9, -, -, h2, -⟩
            · rw [h1, dgF_one, dgF_one]
            · rw [hn2 h2]
          refine lv_aload_n hx hb dX3_digestOf_91 rfl (lv_at hl 0 rfl) ?_
          refine hp_get (C := RX1) (T := TX1) (N := 6) (v := .ref b0) EE hm e_a inh1 rfl 5 (by decide) wf_X3_151 rfl dX3_digestOf_92 ?_
          exact ret (v := some b0) dX3_digestOf_95 hm hS (by omega) (by omega) (⟨Z, fm, fs, fa, b0, f0, rfl, hW, hH0, e_b0, fun j hj => by rw [hf0 j hj, hdn], Or.inr (by rw [hdg b0 hz9]; exact fun z9 => by cases z9), by rw [hu]; exact dgR.rf⟩)
        · rw [hz9] at e_a
          have e_a : M a = some (.inr (1, [.int (nI E.length), .int ky, .int vl, va_rf z, va_rf o, .null])) := e_a
          have hut := und_t e_a
          have hu0 : udT (n + 1) M (some a) = 1 + udT n M z + udT n M o := by
            show (if und M a then _ else 0) = _
            rw [hut, if_pos rfl, lf_3 e_a, lf_4 e_a]
          have o_ms := e_ms
          have o_sc := e_sc
          have o_sa := e_sa
          have o_nm := e_nm
          have o_a := e_a
          have o_h := e_h
          refine lv_bipush (v := 8) hx hb dX3_digestOf_22 (by decide) ?_
          refine hp_newa (N' := 8) EE hm hS warr (by decide) (by decide) (by decide) (by show 0 + 1 ≤ udT (n + 1) M (some a); omega) (by show 0 + 8 ≤ 8 * (udT (n + 1) M (some a)); omega) dX3_digestOf_24 (fun q1 H hq1 hm hS => ?_)
          obtain ⟨Mx2, hMx2⟩ : ∃ Mz, Mz = hm_up M q1 (aI g 8 (fun _ => 0)) := ⟨_, rfl⟩
          have hm : hp g Mx2 H := by rw [hMx2]; exact hm
          have e_h : Mx2 h = some (.inr (0, [.ref nm, .ref ms, .ref sc, .ref sa])) := by rw [hMx2]; exact up_at (ne_new hq1 e_h) e_h
          have e_nm : Mx2 nm = some (aI g 8 fn) := by rw [hMx2]; exact up_at (ne_new hq1 e_nm) e_nm
          have e_ms : Mx2 ms = some (aI g 32 fm) := by rw [hMx2]; exact up_at (ne_new hq1 e_ms) e_ms
          have e_sc : Mx2 sc = some (aI g 64 fs) := by rw [hMx2]; exact up_at (ne_new hq1 e_sc) e_sc
          have e_sa : Mx2 sa = some (aI g 8 fa) := by rw [hMx2]; exact up_at (ne_new hq1 e_sa) e_sa
          have e_a : Mx2 a = some (.inr (1, [.int (nI E.length), .int ky, .int vl, va_rf z, va_rf o, .null])) := by rw [hMx2]; exact up_at (ne_new hq1 e_a) e_a
          have e_q1 : Mx2 q1 = some (aI g 8 (fun _ => 0)) := by rw [hMx2]; exact up_eq
          have t_ms : q1 ≠ ms := Ne.symm (ne_new hq1 o_ms)
          have t_sc : q1 ≠ sc := Ne.symm (ne_new hq1 o_sc)
          have t_sa : q1 ≠ sa := Ne.symm (ne_new hq1 o_sa)
          have t_nm : q1 ≠ nm := Ne.symm (ne_new hq1 o_nm)
          have t_a : q1 ≠ a := Ne.symm (ne_new hq1 o_a)
          have t_h : q1 ≠ h := Ne.symm (ne_new hq1 o_h)
          have hm1f : ∀ x, x ≠ q1 → Mx2 x = M x := fun x hx => by rw [hMx2, up_ne hx]
          have hW1 : WF g Mx2 N Z := hW.mono (fun x e9 h9 => by rw [hMx2]; exact up_at (ne_new hq1 h9) h9)
          have hZq : Z q1 = none := by
            cases h8 : Z q1 with
            | none => rfl
            | some y => obtain ⟨f8, h81, -⟩ := hW.2 _ _ _ h8; rw [hq1] at h81; cases h81
          have o_qq := e_q1
          have m1_ms : Mx2 ms ≠ none := by rw [e_ms]; exact fun z9 => by cases z9
          have m1_sc : Mx2 sc ≠ none := by rw [e_sc]; exact fun z9 => by cases z9
          have m1_sa : Mx2 sa ≠ none := by rw [e_sa]; exact fun z9 => by cases z9
          refine lv_astore_n (lv' := [(3, .ref q1), (0, .ref a), (1, .int (nI d)), (2, .ref h)]) hx hb dX3_digestOf_26 rfl hl (by decide) rfl (fun ls hl => ?_)
          refine lv_aload_n hx hb dX3_digestOf_27 rfl (lv_at hl 1 rfl) ?_
          refine hp_get (C := RX1) (T := TX1) (N := 6) (v := .int (nI E.length)) EE hm e_a inh1 rfl 0 (by decide) wf_X3_132 rfl dX3_digestOf_28 ?_
          refine lv_iconst (v := 1) hx hb dX3_digestOf_31 (by decide) ?_
          refine lv_icmp_ne (tgt := 51) hx hb dX3_digestOf_32 (by decide) (fun c_32 => ?_) (fun c_32 => ?_)
          · have c_32 : ¬ E.length = 1 := fun h9 => c_32 ((nI_eq (a := E.length) (b := 1) (by omega) (by decide)).mpr h9)
            obtain ⟨n9, hn9, hn16, h2, hrz, hro⟩ : ∃ n9, n0 = n9 + 1 ∧ n9 < 16 ∧ 2 ≤ E.length ∧ rt N z n9 (spl n9 false E) ∧ rt N o n9 (spl n9 true E) := by
              rcases hcase with ⟨k9, h1, -⟩ | h
              · exact absurd (by rw [h1]; rfl) c_32
              · exact h
            have hnn : n9 = n := by have := hn2 h2; omega
            rw [hnn] at hrz hro
            have huz : ∀ q, under N n (spl n false E) q → under N (n + 1) E q := fun q hq => hq.up (fun x hx => (spl_mem.mp hx).1) (Nat.le_succ n)
            have huo : ∀ q, under N n (spl n true E) q → under N (n + 1) E q := fun q hq => hq.up (fun x hx => (spl_mem.mp hx).1) (Nat.le_succ n)
            have hu1 : udT n Mx2 z = udT n M z := udT_eq hW n z _ hrz (fun q8 hq8 => hm1f q8 (fun t8 => by obtain ⟨n8, E8, h81, -⟩ := hq8; rw [t8] at h81; exact absurd rfl (nd_ne hW1 h81 o_qq)))
            refine lv_aload_n hx hb dX3_digestOf_51 rfl (lv_at hl 1 rfl) ?_
            refine hp_get (C := RX1) (T := TX1) (N := 6) (v := va_rf z) EE hm e_a inh1 rfl 3 (by decide) wf_X3_135 rfl dX3_digestOf_52 ?_
            refine lv_iload_n hx hb dX3_digestOf_55 rfl (lv_at hl 2 rfl) ?_
            refine lv_iconst (v := 1) hx hb dX3_digestOf_56 (by decide) ?_
            refine lv_iadd hx hb dX3_digestOf_57 ?_
            rw [nI_1 d]
            refine lv_aload_n hx hb dX3_digestOf_58 rfl (lv_at hl 3 rfl) ?_
            refine hp_cq (hp_runS (np := 3) (k := 5 + n) (mc := udT n Mx2 z) (ms := 8 * udT n Mx2 z) (As := [va_rf z, .int (nI (d + 1)), .ref h]) (rest := []) EE hm hS (ih Mx2 Z fm fs fa z _ (d + 1) hW1 ⟨e_h, e_ms, e_sc, e_sa, ⟨fn, e_nm, hz⟩, n_1, n_2, n_3, n_4, n_5, n_6⟩ hZ1 hZ2 hZ3 hrz (by omega)) ms_X3_digestOf wt_X3_digestOf wl_X3_79 rfl hl.1 rfl (Nat.le_of_ble_eq_true rfl) dX3_digestOf_59 ⟨by show 5 + n + 1 ≤ 5 + (n + 1); omega, by show 8 + (6 + 11) + 100 * (5 + n) ≤ 100 * (5 + (n + 1)); omega⟩ ⟨(by show 0 + 1 + udT n Mx2 z ≤ udT (n + 1) M (some a); omega), (by show 0 + 8 + 8 * udT n Mx2 z ≤ 8 * (udT (n + 1) M (some a)); omega)⟩) hS (fun r3 Mx4 H locs hq5 hm hS => ?_)
            obtain ⟨Z2, fm2, fs2, fa2, b2, f2, hrb2, hW2, hH2, e_b2, hf2, hbz2, hR2⟩ := hq5
            subst hrb2
            have hna2 : ¬ under N n (spl n false E) a := fun ⟨n8, E8, h81, h82, h83⟩ => by rw [hN] at h81; cases h81; have := h83 h2; omega
            have e_a : Mx4 a = some (.inr (1, [.int (nI E.length), .int ky, .int vl, va_rf z, va_rf o, .null])) := hR2.2.2.1 a _ e_a na1 na2 na3 hna2
            have hnq2 : ¬ under N n (spl n false E) q1 := fun ⟨n8, E8, h81, _⟩ => absurd rfl (nd_ne hW1 h81 e_q1)
            have e_q1 : Mx4 q1 = some (aI g 8 (fun _ => 0)) := hR2.2.2.1 q1 _ e_q1 t_ms t_sc t_sa hnq2
            obtain ⟨e_h, e_ms, e_sc, e_sa, ⟨fn, e_nm, hz⟩, n_1, n_2, n_3, n_4, n_5, n_6⟩ := hH2
            have z2_ms : Z2 ms = none := by
              cases h8 : Z2 ms with
              | none => rfl
              | some y => exact absurd (hR2.2.1 ms (by rw [h8]; exact fun z9 => by cases z9) hZ1) m1_ms
            have z2_sc : Z2 sc = none := by
              cases h8 : Z2 sc with
              | none => rfl
              | some y => exact absurd (hR2.2.1 sc (by rw [h8]; exact fun z9 => by cases z9) hZ2) m1_sc
            have z2_sa : Z2 sa = none := by
              cases h8 : Z2 sa with
              | none => rfl
              | some y => exact absurd (hR2.2.1 sa (by rw [h8]; exact fun z9 => by cases z9) hZ3) m1_sa
            have hu2 : udT n Mx4 o = udT n M o := udT_eq hW n o _ hro (fun q8 hq8 => by
              obtain ⟨n8, E8, h81, h82, h83⟩ := hq8
              have hx1 : q8 ≠ q1 := fun t8 => by rw [t8] at h81; exact absurd rfl (nd_ne hW1 h81 o_qq)
              obtain ⟨ky8, vl8, z8, o8, dg8, h84, -, -, h85⟩ := hW.1 q8 n8 E8 h81
              have hne8 : E8 ≠ [] := by rcases h85 with ⟨k8, h86, -⟩ | ⟨m8, -, -, h86, -⟩ <;> intro h87 <;> rw [h87] at h86 <;> simp at h86
              rw [hR2.2.2.1 q8 _ ((hm1f q8 hx1).trans h84) (nd_ne hW h81 o_ms) (nd_ne hW h81 o_sc) (nd_ne hW h81 o_sa) (fun ⟨n7, E7, h71, h72, _⟩ => by
                rw [h81] at h71; cases h71
                obtain ⟨x8, hx8⟩ := List.exists_mem_of_ne_nil E8 hne8
                have := (spl_mem.mp (h72 x8 hx8)).2
                rw [(spl_mem.mp (h82 x8 hx8)).2] at this
                cases this), h84])
            refine lv_astore (lv' := [(4, .ref b2), (3, .ref q1), (0, .ref a), (1, .int (nI d)), (2, .ref h)]) hx hb dX3_digestOf_62 hl (by decide) rfl (fun ls hl => ?_)
            have k2ms := e_ms
            refine lv_aload_n hx hb dX3_digestOf_64 rfl (lv_at hl 2 rfl) ?_
            refine hp_get (C := RX1) (T := TX1) (N := 6) (v := va_rf o) EE hm e_a inh1 rfl 4 (by decide) wf_X3_138 rfl dX3_digestOf_65 ?_
            refine lv_iload_n hx hb dX3_digestOf_68 rfl (lv_at hl 3 rfl) ?_
            refine lv_iconst (v := 1) hx hb dX3_digestOf_69 (by decide) ?_
            refine lv_iadd hx hb dX3_digestOf_70 ?_
            rw [nI_1 d]
            refine lv_aload_n hx hb dX3_digestOf_71 rfl (lv_at hl 4 rfl) ?_
            refine hp_cq (hp_runS (np := 3) (k := 5 + n) (mc := udT n Mx4 o) (ms := 8 * udT n Mx4 o) (As := [va_rf o, .int (nI (d + 1)), .ref h]) (rest := []) EE hm hS (ih Mx4 Z2 fm2 fs2 fa2 o _ (d + 1) hW2 ⟨e_h, e_ms, e_sc, e_sa, ⟨fn, e_nm, hz⟩, n_1, n_2, n_3, n_4, n_5, n_6⟩ z2_ms z2_sc z2_sa hro (by omega)) ms_X3_digestOf wt_X3_digestOf wl_X3_79 rfl hl.1 rfl (Nat.le_of_ble_eq_true rfl) dX3_digestOf_72 ⟨by show 5 + n + 1 ≤ 5 + (n + 1); omega, by show 8 + (6 + 11) + 100 * (5 + n) ≤ 100 * (5 + (n + 1)); omega⟩ ⟨(by show 0 + 1 + (udT n Mx2 z) + udT n Mx4 o ≤ udT (n + 1) M (some a); omega), (by show 0 + 8 + (8 * udT n Mx2 z) + 8 * udT n Mx4 o ≤ 8 * (udT (n + 1) M (some a)); omega)⟩) hS (fun r6 Mx7 H locs hq8 hm hS => ?_)
            obtain ⟨Z3, fm3, fs3, fa3, b3, f3, hrb3, hW3, hH3, e_b3, hf3, hbz3, hR3⟩ := hq8
            subst hrb3
            have hna3 : ¬ under N n (spl n true E) a := fun ⟨n8, E8, h81, h82, h83⟩ => by rw [hN] at h81; cases h81; have := h83 h2; omega
            have e_a : Mx7 a = some (.inr (1, [.int (nI E.length), .int ky, .int vl, va_rf z, va_rf o, .null])) := hR3.2.2.1 a _ e_a na1 na2 na3 hna3
            have hnq3 : ¬ under N n (spl n true E) q1 := fun ⟨n8, E8, h81, _⟩ => absurd rfl (nd_ne hW2 h81 e_q1)
            have e_q1 : Mx7 q1 = some (aI g 8 (fun _ => 0)) := hR3.2.2.1 q1 _ e_q1 t_ms t_sc t_sa hnq3
            have hb2n : ∀ w9, (Z2 w9 = none ∧ w9 ≠ nm) → b2 ≠ w9 := fun w9 h8 h7 => hbz2.elim (fun h6 => h8.2 (h7 ▸ h6)) (fun h6 => h6 (h7 ▸ h8.1))
            have hnb : ¬ under N n (spl n true E) b2 := fun ⟨n8, E8, h81, _⟩ => absurd rfl (nd_ne hW2 h81 e_b2)
            have e_b2 : Mx7 b2 = some (aI g 8 f2) := hR3.2.2.1 b2 _ e_b2 (hb2n ms ⟨z2_ms, Ne.symm n_4⟩) (hb2n sc ⟨z2_sc, Ne.symm n_5⟩) (hb2n sa ⟨z2_sa, Ne.symm n_6⟩) hnb
            obtain ⟨e_h, e_ms, e_sc, e_sa, ⟨fn, e_nm, hz⟩, n_1, n_2, n_3, n_4, n_5, n_6⟩ := hH3
            refine lv_astore (lv' := [(5, .ref b3), (4, .ref b2), (3, .ref q1), (0, .ref a), (1, .int (nI d)), (2, .ref h)]) hx hb dX3_digestOf_75 hl (by decide) rfl (fun ls hl => ?_)
            refine lv_aload_n hx hb dX3_digestOf_77 rfl (lv_at hl 5 rfl) ?_
            refine lv_aload hx hb dX3_digestOf_78 (lv_at hl 1 rfl) ?_
            refine lv_aload hx hb dX3_digestOf_80 (lv_at hl 0 rfl) ?_
            refine lv_aload_n hx hb dX3_digestOf_82 rfl (lv_at hl 2 rfl) ?_
            refine hp_cv (hp_runV (C := RX0) (T := TX0) (N := 4) (np := 3) (k := 4) (mc := 0) (ms := 0) (As := [.ref b2, .ref b3, .ref q1]) (rest := []) EE hm hS (c_X0_hashPair l g Mx7 h nm ms sc sa fm3 fs3 fa3 ⟨e_h, e_ms, e_sc, e_sa, ⟨fn, e_nm, hz⟩, n_1, n_2, n_3, n_4, n_5, n_6⟩ q1 _ e_q1 t_ms t_sc t_sa t_nm b2 b3 f2 f3 e_b2 e_b3 (hb2n ms ⟨z2_ms, Ne.symm n_4⟩) (hbz3.elim (fun h6 => h6 ▸ n_4) (fun h6 h7 => h6 (by
              rw [h7]
              cases h8 : Z3 ms with
              | none => rfl
              | some y => exact absurd (hR3.2.1 ms (by rw [h8]; exact fun z9 => by cases z9) z2_ms) (by rw [k2ms]; exact fun z9 => by cases z9))))) ms_X0_hashPair wi_X0_hashPair ws_X0_hashPair wl_X3_158 e_h rfl rfl hl.1 rfl (Nat.le_of_ble_eq_true rfl) dX3_digestOf_83 ⟨by show 4 + 1 ≤ 5 + (n + 1); omega, by show 8 + (6 + 11) + 100 * (4) ≤ 100 * (5 + (n + 1)); omega⟩ ⟨(by show 0 + 1 + (udT n Mx2 z) + (udT n Mx4 o) + 0 ≤ udT (n + 1) M (some a); omega), (by show 0 + 8 + (8 * udT n Mx2 z) + (8 * udT n Mx4 o) + 0 ≤ 8 * (udT (n + 1) M (some a)); omega)⟩) hS (fun Mx9 H locs hq10 hm hS => ?_)
            have k1 := e_ms
            have k2 := e_sc
            have k3 := e_sa
            have kq := e_q1
            have ka := e_a
            obtain ⟨fm5, fs5, fa5, f5, hH5, e_t5, hfr5, hf5⟩ := hq10
            have e_a : Mx9 a = some (.inr (1, [.int (nI E.length), .int ky, .int vl, va_rf z, va_rf o, .null])) := (hfr5 a na1 na2 na3 (Ne.symm t_a)).trans e_a
            have e_q1 := e_t5
            obtain ⟨e_h, e_ms, e_sc, e_sa, ⟨fn, e_nm, hz⟩, n_1, n_2, n_3, n_4, n_5, n_6⟩ := hH5
            refine lv_aload_n hx hb dX3_digestOf_86 rfl (lv_at hl 3 rfl) ?_
            refine lv_aload_n hx hb dX3_digestOf_87 rfl (lv_at hl 2 rfl) ?_
            refine hp_put (C := RX1) (T := TX1) (N := 6) (v := .ref q1) (ty := .array .int) EE hm hS e_a inh1 tyX1 tyX1_ok nmX1 rfl 5 (by decide) wf_X3_151 rfl (by decide +kernel) rfl rfl (Nat.le_of_ble_eq_true rfl) dX3_digestOf_88 (fun H locs hm hS => ?_)
            obtain ⟨Mx11, hMx11⟩ : ∃ Mz, Mz = hm_up Mx9 a (.inr (1, [.int (nI E.length), .int ky, .int vl, va_rf z, va_rf o, .ref q1])) := ⟨_, rfl⟩
            have hm : hp g Mx11 H := by rw [hMx11]; exact hm
            have e_h : Mx11 h = some (.inr (0, [.ref nm, .ref ms, .ref sc, .ref sa])) := by rw [hMx11]; exact up_at (ne_lk e_h e_a (by simp)) e_h
            have e_nm : Mx11 nm = some (aI g 8 fn) := by rw [hMx11]; exact up_at (ne_lk e_nm e_a (by simp)) e_nm
            have e_ms : Mx11 ms = some (aI g 32 fm5) := by rw [hMx11]; exact up_at (Ne.symm na1) e_ms
            have e_sc : Mx11 sc = some (aI g 64 fs5) := by rw [hMx11]; exact up_at (Ne.symm na2) e_sc
            have e_sa : Mx11 sa = some (aI g 8 fa5) := by rw [hMx11]; exact up_at (Ne.symm na3) e_sa
            have e_q1 : Mx11 q1 = some (aI g 8 f5) := by rw [hMx11]; exact up_at t_a e_q1
            have e_a : Mx11 a = some (.inr (1, [.int (nI E.length), .int ky, .int vl, va_rf z, va_rf o, .ref q1])) := by rw [hMx11]; exact up_eq
            refine lv_aload_n hx hb dX3_digestOf_91 rfl (lv_at hl 3 rfl) ?_
            refine hp_get (C := RX1) (T := TX1) (N := 6) (v := .ref q1) EE hm e_a inh1 rfl 5 (by decide) wf_X3_151 rfl dX3_digestOf_92 ?_
            have hf6 : ∀ j, j < 8 → f5 j = dgF n0 E j := fun j hj => by rw [hf5 j hj, hn9, hnn, dgF_two h2]; exact hPair_w hf2 hf3 hj
            obtain ⟨Z9, hW9, hZ9, hR9⟩ := dig_fin (n0 := n0) (m := n + 1) hW3 (hR2.tr hR3 huz huo) hq1 (fun x hx => hm1f x hx) o_qq hZq hN hua ka e_a e_q1 hf6 (fun x a1 a2 a3 a4 a5 => by rw [hMx11, up_ne a5]; exact hfr5 x a1 a2 a3 a4) k1 k2 k3 e_ms e_sc e_sa hZ1 hZ2 hZ3 m1_ms m1_sc m1_sa kq
            have hu : udT (n + 1) M (some a) = (udT n Mx2 z + udT n Mx4 o) + 1 := by rw [hu0, hu1, hu2]; omega
            have hfj : ∀ j, j < 8 → f5 j = dgF (n + 1) E j := fun j hj => by
              rw [hf6 j hj]
              rcases hcase with ⟨k, h1, -⟩ | ⟨n9, -, -, h2, -⟩
              · rw [h1, dgF_one, dgF_one]
              · rw [hn2 h2]
            exact ret (v := some q1) dX3_digestOf_95 hm hS (by omega) (by omega) (⟨Z9, _, _, _, q1, f5, rfl, hW9, ⟨e_h, e_ms, e_sc, e_sa, ⟨fn, e_nm, hz⟩, n_1, n_2, n_3, n_4, n_5, n_6⟩, e_q1, hfj, Or.inr hZ9, by rw [hu]; exact hR9⟩)
          · have c_32 : E.length = 1 := (nI_eq (a := E.length) (b := 1) (by omega) (by decide)).mp c_32
            obtain ⟨k9, hE, hky, hk9, hz0, ho0⟩ : ∃ k9, E = [(k9, vl)] ∧ ky = nI k9 ∧ k9 < 65536 ∧ z = none ∧ o = none := by
              rcases hcase with h | ⟨n9, -, -, h2, -⟩
              · exact h
              · omega
            refine lv_aload_n hx hb dX3_digestOf_35 rfl (lv_at hl 3 rfl) ?_
            refine lv_aload_n hx hb dX3_digestOf_36 rfl (lv_at hl 1 rfl) ?_
            refine hp_get (C := RX1) (T := TX1) (N := 6) (v := .int ky) EE hm e_a inh1 rfl 1 (by decide) wf_X3_105 rfl dX3_digestOf_37 ?_
            refine lv_aload_n hx hb dX3_digestOf_40 rfl (lv_at hl 1 rfl) ?_
            refine hp_get (C := RX1) (T := TX1) (N := 6) (v := .int vl) EE hm e_a inh1 rfl 2 (by decide) wf_X3_73 rfl dX3_digestOf_41 ?_
            refine lv_aload_n hx hb dX3_digestOf_44 rfl (lv_at hl 0 rfl) ?_
            refine hp_cv (hp_runV (C := RX0) (T := TX0) (N := 4) (np := 3) (k := 4) (mc := 0) (ms := 0) (As := [.int ky, .int vl, .ref q1]) (rest := []) EE hm hS (c_X0_hashEntry l g Mx2 h nm ms sc sa fm fs fa ⟨e_h, e_ms, e_sc, e_sa, ⟨fn, e_nm, hz⟩, n_1, n_2, n_3, n_4, n_5, n_6⟩ q1 _ e_q1 t_ms t_sc t_sa t_nm ky vl) ms_X0_hashEntry wi_X0_hashEntry ws_X0_hashEntry wl_X3_154 e_h rfl rfl hl.1 rfl (Nat.le_of_ble_eq_true rfl) dX3_digestOf_45 ⟨by show 4 + 1 ≤ 5 + (n + 1); omega, by show 8 + (4 + 11) + 100 * (4) ≤ 100 * (5 + (n + 1)); omega⟩ ⟨(by show 0 + 1 + 0 ≤ udT (n + 1) M (some a); omega), (by show 0 + 8 + 0 ≤ 8 * (udT (n + 1) M (some a)); omega)⟩) hS (fun Mx12 H locs hq13 hm hS => ?_)
            have k1 := e_ms
            have k2 := e_sc
            have k3 := e_sa
            have kq := e_q1
            have ka := e_a
            obtain ⟨fm5, fs5, fa5, f5, hH5, e_t5, hfr5, hf5⟩ := hq13
            have e_a : Mx12 a = some (.inr (1, [.int (nI E.length), .int ky, .int vl, va_rf z, va_rf o, .null])) := (hfr5 a na1 na2 na3 (Ne.symm t_a)).trans e_a
            have e_q1 := e_t5
            obtain ⟨e_h, e_ms, e_sc, e_sa, ⟨fn, e_nm, hz⟩, n_1, n_2, n_3, n_4, n_5, n_6⟩ := hH5
            refine lv_goto (tgt := 86) hx hb dX3_digestOf_48 (by decide) ?_
            refine lv_aload_n hx hb dX3_digestOf_86 rfl (lv_at hl 1 rfl) ?_
            refine lv_aload_n hx hb dX3_digestOf_87 rfl (lv_at hl 0 rfl) ?_
            refine hp_put (C := RX1) (T := TX1) (N := 6) (v := .ref q1) (ty := .array .int) EE hm hS e_a inh1 tyX1 tyX1_ok nmX1 rfl 5 (by decide) wf_X3_151 rfl (by decide +kernel) rfl rfl (Nat.le_of_ble_eq_true rfl) dX3_digestOf_88 (fun H locs hm hS => ?_)
            obtain ⟨Mx14, hMx14⟩ : ∃ Mz, Mz = hm_up Mx12 a (.inr (1, [.int (nI E.length), .int ky, .int vl, va_rf z, va_rf o, .ref q1])) := ⟨_, rfl⟩
            have hm : hp g Mx14 H := by rw [hMx14]; exact hm
            have e_h : Mx14 h = some (.inr (0, [.ref nm, .ref ms, .ref sc, .ref sa])) := by rw [hMx14]; exact up_at (ne_lk e_h e_a (by simp)) e_h
            have e_nm : Mx14 nm = some (aI g 8 fn) := by rw [hMx14]; exact up_at (ne_lk e_nm e_a (by simp)) e_nm
            have e_ms : Mx14 ms = some (aI g 32 fm5) := by rw [hMx14]; exact up_at (Ne.symm na1) e_ms
            have e_sc : Mx14 sc = some (aI g 64 fs5) := by rw [hMx14]; exact up_at (Ne.symm na2) e_sc
            have e_sa : Mx14 sa = some (aI g 8 fa5) := by rw [hMx14]; exact up_at (Ne.symm na3) e_sa
            have e_q1 : Mx14 q1 = some (aI g 8 f5) := by rw [hMx14]; exact up_at t_a e_q1
            have e_a : Mx14 a = some (.inr (1, [.int (nI E.length), .int ky, .int vl, va_rf z, va_rf o, .ref q1])) := by rw [hMx14]; exact up_eq
            refine lv_aload_n hx hb dX3_digestOf_91 rfl (lv_at hl 1 rfl) ?_
            refine hp_get (C := RX1) (T := TX1) (N := 6) (v := .ref q1) EE hm e_a inh1 rfl 5 (by decide) wf_X3_151 rfl dX3_digestOf_92 ?_
            have hf6 : ∀ j, j < 8 → f5 j = dgF n0 E j := fun j hj => by rw [hf5 j hj, hE, dgF_one, hky]
            obtain ⟨Z9, hW9, hZ9, hR9⟩ := dig_fin (n0 := n0) (m := (n + 1)) (u := 0) hW1 dgR.rf hq1 (fun x hx => hm1f x hx) o_qq hZq hN hua ka e_a e_q1 hf6 (fun x a1 a2 a3 a4 a5 => by rw [hMx14, up_ne a5]; exact hfr5 x a1 a2 a3 a4) k1 k2 k3 e_ms e_sc e_sa hZ1 hZ2 hZ3 m1_ms m1_sc m1_sa kq
            have hu : udT (n + 1) M (some a) = 0 + 1 := by rw [hu0, hz0, ho0, udT_none]
            have hfj : ∀ j, j < 8 → f5 j = dgF (n + 1) E j := fun j hj => by
              rw [hf6 j hj]
              rcases hcase with ⟨k, h1, -⟩ | ⟨n9, -, -, h2, -⟩
              · rw [h1, dgF_one, dgF_one]
              · rw [hn2 h2]
            exact ret (v := some q1) dX3_digestOf_95 hm hS (by omega) (by omega) (⟨Z9, _, _, _, q1, f5, rfl, hW9, ⟨e_h, e_ms, e_sc, e_sa, ⟨fn, e_nm, hz⟩, n_1, n_2, n_3, n_4, n_5, n_6⟩, e_q1, hfj, Or.inr hZ9, by rw [hu]; exact hR9⟩)
      · have c_7 : ¬ d ≤ 16 := fun h9 => c_7 ((nI_leI (a := d) (b := 16) (by omega) (by decide)).mpr h9)
        exact absurd (by omega) c_7
