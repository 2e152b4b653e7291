/-- the words of an entry's message, of a pair's -/
def wLeaf (k v : Int32) : Nat → Int32 := fun j => if j = 0 then (k <<< ((8 : Int32) &&& 31)) ||| ush v 24 else if j = 1 then (v <<< ((8 : Int32) &&& 31)) ||| 128 else if j = 15 then 56 else 0
def hLeaf (k v : Int32) : Nat → Int32 := shaB kStart (wLeaf k v)
def pv1 (z : Nat → Int32) : Nat → Int32
  | 0 => 1
  | k + 1 => z k
def pv2 (z o : Nat → Int32) : Nat → Int32
  | 0 => z 7
  | k + 1 => o k
def mp (z o : Nat → Int32) : Nat → Int32 := fun j => if j < 8 then (pv1 z j <<< ((24 : Int32) &&& 31)) ||| ush (z j) 8 else if j < 16 then (pv2 z o (j - 8) <<< ((24 : Int32) &&& 31)) ||| ush (o (j - 8)) 8 else if j = 16 then (o 7 <<< ((24 : Int32) &&& 31)) ||| 8388608 else if j = 31 then 520 else 0
def hPair (z o : Nat → Int32) : Nat → Int32 := shaB (shaB kStart (mp z o)) (fun t => mp z o (16 + t))
set_option maxHeartbeats 4000000 in
set_option maxRecDepth 100000 in
theorem c_X0_hashEntry (l : Launch) (g : hG) (M : hM) (h nm ms sc sa : Nat) (fm fs fa : Nat → Int32) (hH : HS g M h nm ms sc sa fm fs fa) (t : Nat) (ft : Nat → Int32) (e_t : M t = some (aI g 8 ft)) (t_1 : t ≠ ms) (t_2 : t ≠ sc) (t_3 : t ≠ sa) (t_4 : t ≠ nm) (k0 v0 : Int32) : Cv l g yX0_hashEntry cX0_hashEntry 4 4 0 0 [.ref h, .int k0, .int v0, .ref t] M (fun M9 => ∃ fm9 fs9 fa9 f9, HS g M9 h nm ms sc sa fm9 fs9 fa9 ∧ M9 t = some (aI g 8 f9) ∧ (∀ q, q ≠ ms → q ≠ sc → q ≠ sa → q ≠ t → M9 q = M q) ∧ ∀ j, j < 8 → f9 j = hLeaf k0 v0 j) := by
  obtain ⟨e_h, e_ms, e_sc, e_sa, ⟨fn, e_nm, hz⟩, n_1, n_2, n_3, n_4, n_5, n_6⟩ := hH
  have nh1 : h ≠ ms := ne_lk e_h e_ms (by simp)
  have nh2 : h ≠ sc := ne_lk e_h e_sc (by simp)
  have nh3 : h ≠ sa := ne_lk e_h e_sa (by simp)
  refine hp_startV (by decide) (by exact Nat.le_of_ble_eq_true rfl) ?_
  intro p e s m below meth c Q H locs ls E hnm ret hm hS hl
  have hx := E.1
  have hb := E.2.1
  have hown := E.2.2.2.1
  have hts := E.2.2.2.2.1
  have hl : lv_has ls 4 [(0, .ref h), (1, .int k0), (2, .int v0), (3, .ref t)] := hl
  have hgF : ∀ q, q ≠ ms → q ≠ sc → q ≠ sa → q ≠ t → M q = M q := fun _ _ _ _ _ => rfl
  refine lv_aload_n hx hb dX0_hashEntry_0 rfl (lv_at hl 0 rfl) ?_
  refine hp_cv (hp_runV (C := RX0) (T := TX0) (N := 4) (np := 0) (k := 1) (mc := 0) (ms := 0) (As := ([] : List Value)) (rest := []) E hm hS (c_X0_clearMessage l g M h nm ms sc sa fm fs fa ⟨e_h, e_ms, e_sc, e_sa, ⟨fn, e_nm, hz⟩, n_1, n_2, n_3, n_4, n_5, n_6⟩) ms_X0_clearMessage wi_X0_clearMessage ws_X0_clearMessage wl_X0_24 e_h rfl rfl hl.1 rfl (Nat.le_of_ble_eq_true rfl) dX0_hashEntry_1 ⟨Nat.le_of_ble_eq_true rfl, Nat.le_of_ble_eq_true rfl⟩ ⟨(Nat.le_of_ble_eq_true rfl), (Nat.le_of_ble_eq_true rfl)⟩) hS (fun Mx1 H locs hq2 hm hS => ?_)
  obtain ⟨fz0, e_x, hfrx, hzx⟩ := hq2
  have e_ms0 := e_ms
  have e_h_ : Mx1 h = some (.inr (0, [.ref nm, .ref ms, .ref sc, .ref sa])) := (hfrx h nh1).trans e_h
  have e_sc_ : Mx1 sc = some (aI g 64 fs) := (hfrx sc (Ne.symm n_1)).trans e_sc
  have e_sa_ : Mx1 sa = some (aI g 8 fa) := (hfrx sa (Ne.symm n_2)).trans e_sa
  have e_nm_ : Mx1 nm = some (aI g 8 fn) := (hfrx nm n_4).trans e_nm
  have e_t_ : Mx1 t = some (aI g 8 ft) := (hfrx t t_1).trans e_t
  have e_h := e_h_
  have e_sc := e_sc_
  have e_sa := e_sa_
  have e_nm := e_nm_
  have e_t := e_t_
  have e_ms := e_x
  have hgF : ∀ q, q ≠ ms → q ≠ sc → q ≠ sa → q ≠ t → Mx1 q = M q := fun q a1 a2 a3 a4 => (hfrx q a1).trans (hgF q a1 a2 a3 a4)
  refine lv_aload_n hx hb dX0_hashEntry_4 rfl (lv_at hl 0 rfl) ?_
  refine hp_get (C := RX0) (T := TX0) (N := 4) (v := .ref ms) E hm e_h inh0 rfl 1 (by decide) wf_X0_15 rfl dX0_hashEntry_5 ?_
  refine lv_iconst (v := 0) hx hb dX0_hashEntry_8 (by decide) ?_
  refine lv_iload_n hx hb dX0_hashEntry_9 rfl (lv_at hl 1 rfl) ?_
  refine lv_bipush (v := 8) hx hb dX0_hashEntry_10 (by decide) ?_
  refine lv_ishl hx hb dX0_hashEntry_12 ?_
  refine lv_iload_n hx hb dX0_hashEntry_13 rfl (lv_at hl 2 rfl) ?_
  refine lv_bipush (v := 24) hx hb dX0_hashEntry_14 (by decide) ?_
  refine lv_iushr (v := ush v0 24) hx hb dX0_hashEntry_16 rfl ?_
  refine lv_ior hx hb dX0_hashEntry_17 ?_
  refine hp_iastN E hm hS e_ms 0 rfl (by decide) (by decide) dX0_hashEntry_18 (fun H locs hm hS => ?_)
  obtain ⟨Mx3, hMx3⟩ : ∃ Mz, Mz = hm_up Mx1 ms (aI g 32 (upd fz0 0 ((k0 <<< (8 &&& 31)) ||| (ush v0 24)))) := ⟨_, rfl⟩
  have hm : hp g Mx3 H := by rw [hMx3]; exact hm
  have e_h : Mx3 h = some (.inr (0, [.ref nm, .ref ms, .ref sc, .ref sa])) := by rw [hMx3]; exact up_at nh1 e_h
  have e_sc : Mx3 sc = some (aI g 64 fs) := by rw [hMx3]; exact up_at (Ne.symm n_1) e_sc
  have e_sa : Mx3 sa = some (aI g 8 fa) := by rw [hMx3]; exact up_at (Ne.symm n_2) e_sa
  have e_nm : Mx3 nm = some (aI g 8 fn) := by rw [hMx3]; exact up_at n_4 e_nm
  have e_t : Mx3 t = some (aI g 8 ft) := by rw [hMx3]; exact up_at t_1 e_t
  have e_ms : Mx3 ms = some (aI g 32 (upd fz0 0 ((k0 <<< (8 &&& 31)) ||| (ush v0 24)))) := by rw [hMx3]; exact up_eq
  refine lv_aload_n hx hb dX0_hashEntry_19 rfl (lv_at hl 0 rfl) ?_
  refine hp_get (C := RX0) (T := TX0) (N := 4) (v := .ref ms) E hm e_h inh0 rfl 1 (by decide) wf_X0_15 rfl dX0_hashEntry_20 ?_
  refine lv_iconst (v := 1) hx hb dX0_hashEntry_23 (by decide) ?_
  refine lv_iload_n hx hb dX0_hashEntry_24 rfl (lv_at hl 2 rfl) ?_
  refine lv_bipush (v := 8) hx hb dX0_hashEntry_25 (by decide) ?_
  refine lv_ishl hx hb dX0_hashEntry_27 ?_
  refine lv_sipush (v := 128) hx hb dX0_hashEntry_28 (by decide) ?_
  refine lv_ior hx hb dX0_hashEntry_31 ?_
  refine hp_iastN E hm hS e_ms 1 rfl (by decide) (by decide) dX0_hashEntry_32 (fun H locs hm hS => ?_)
  obtain ⟨Mx4, hMx4⟩ : ∃ Mz, Mz = hm_up Mx3 ms (aI g 32 (upd (upd fz0 0 ((k0 <<< (8 &&& 31)) ||| (ush v0 24))) 1 ((v0 <<< (8 &&& 31)) ||| 128))) := ⟨_, rfl⟩
  have hm : hp g Mx4 H := by rw [hMx4]; exact hm
  have e_h : Mx4 h = some (.inr (0, [.ref nm, .ref ms, .ref sc, .ref sa])) := by rw [hMx4]; exact up_at nh1 e_h
  have e_sc : Mx4 sc = some (aI g 64 fs) := by rw [hMx4]; exact up_at (Ne.symm n_1) e_sc
  have e_sa : Mx4 sa = some (aI g 8 fa) := by rw [hMx4]; exact up_at (Ne.symm n_2) e_sa
  have e_nm : Mx4 nm = some (aI g 8 fn) := by rw [hMx4]; exact up_at n_4 e_nm
  have e_t : Mx4 t = some (aI g 8 ft) := by rw [hMx4]; exact up_at t_1 e_t
  have e_ms : Mx4 ms = some (aI g 32 (upd (upd fz0 0 ((k0 <<< (8 &&& 31)) ||| (ush v0 24))) 1 ((v0 <<< (8 &&& 31)) ||| 128))) := by rw [hMx4]; exact up_eq
  refine lv_aload_n hx hb dX0_hashEntry_33 rfl (lv_at hl 0 rfl) ?_
  refine hp_get (C := RX0) (T := TX0) (N := 4) (v := .ref ms) E hm e_h inh0 rfl 1 (by decide) wf_X0_15 rfl dX0_hashEntry_34 ?_
  refine lv_bipush (v := 15) hx hb dX0_hashEntry_37 (by decide) ?_
  refine lv_bipush (v := 56) hx hb dX0_hashEntry_39 (by decide) ?_
  refine hp_iastN E hm hS e_ms 15 rfl (by decide) (by decide) dX0_hashEntry_41 (fun H locs hm hS => ?_)
  obtain ⟨Mx5, hMx5⟩ : ∃ Mz, Mz = hm_up Mx4 ms (aI g 32 (upd (upd (upd fz0 0 ((k0 <<< (8 &&& 31)) ||| (ush v0 24))) 1 ((v0 <<< (8 &&& 31)) ||| 128)) 15 56)) := ⟨_, rfl⟩
  have hm : hp g Mx5 H := by rw [hMx5]; exact hm
  have e_h : Mx5 h = some (.inr (0, [.ref nm, .ref ms, .ref sc, .ref sa])) := by rw [hMx5]; exact up_at nh1 e_h
  have e_sc : Mx5 sc = some (aI g 64 fs) := by rw [hMx5]; exact up_at (Ne.symm n_1) e_sc
  have e_sa : Mx5 sa = some (aI g 8 fa) := by rw [hMx5]; exact up_at (Ne.symm n_2) e_sa
  have e_nm : Mx5 nm = some (aI g 8 fn) := by rw [hMx5]; exact up_at n_4 e_nm
  have e_t : Mx5 t = some (aI g 8 ft) := by rw [hMx5]; exact up_at t_1 e_t
  have e_ms : Mx5 ms = some (aI g 32 (upd (upd (upd fz0 0 ((k0 <<< (8 &&& 31)) ||| (ush v0 24))) 1 ((v0 <<< (8 &&& 31)) ||| 128)) 15 56)) := by rw [hMx5]; exact up_eq
  have hgF : ∀ q, q ≠ ms → q ≠ sc → q ≠ sa → q ≠ t → Mx5 q = M q := fun q a1 a2 a3 a4 => by rw [hMx5, up_ne a1, hMx4, up_ne a1, hMx3, up_ne a1]; exact hgF q a1 a2 a3 a4
  obtain ⟨fmm, hfmm⟩ : ∃ z, z = upd (upd (upd fz0 0 ((k0 <<< (8 &&& 31)) ||| (ush v0 24))) 1 ((v0 <<< (8 &&& 31)) ||| 128)) 15 56 := ⟨_, rfl⟩
  rw [← hfmm] at e_ms
  refine lv_aload_n hx hb dX0_hashEntry_42 rfl (lv_at hl 0 rfl) ?_
  refine hp_cv (hp_runV (C := RX0) (T := TX0) (N := 4) (np := 0) (k := 2) (mc := 0) (ms := 0) (As := ([] : List Value)) (rest := []) E hm hS (c_X0_start l g Mx5 h nm ms sc sa fmm fs fa ⟨e_h, e_ms, e_sc, e_sa, ⟨fn, e_nm, hz⟩, n_1, n_2, n_3, n_4, n_5, n_6⟩) ms_X0_start wi_X0_start ws_X0_start wl_X0_27 e_h rfl rfl hl.1 rfl (Nat.le_of_ble_eq_true rfl) dX0_hashEntry_43 ⟨Nat.le_of_ble_eq_true rfl, Nat.le_of_ble_eq_true rfl⟩ ⟨(Nat.le_of_ble_eq_true rfl), (Nat.le_of_ble_eq_true rfl)⟩) hS (fun Mx6 H locs hq7 hm hS => ?_)
  obtain ⟨fa0, e_x, hfry, hsy⟩ := hq7
  have e_h_ : Mx6 h = some (.inr (0, [.ref nm, .ref ms, .ref sc, .ref sa])) := (hfry h nh3).trans e_h
  have e_sc_ : Mx6 sc = some (aI g 64 fs) := (hfry sc n_3).trans e_sc
  have e_nm_ : Mx6 nm = some (aI g 8 fn) := (hfry nm n_6).trans e_nm
  have e_t_ : Mx6 t = some (aI g 8 ft) := (hfry t t_3).trans e_t
  have e_ms_ : Mx6 ms = some (aI g 32 fmm) := (hfry ms n_2).trans e_ms
  have e_h := e_h_
  have e_sc := e_sc_
  have e_nm := e_nm_
  have e_t := e_t_
  have e_ms := e_ms_
  have e_sa := e_x
  have hgF : ∀ q, q ≠ ms → q ≠ sc → q ≠ sa → q ≠ t → Mx6 q = M q := fun q a1 a2 a3 a4 => (hfry q a3).trans (hgF q a1 a2 a3 a4)
  refine lv_aload_n hx hb dX0_hashEntry_46 rfl (lv_at hl 0 rfl) ?_
  refine lv_iconst (v := 0) hx hb dX0_hashEntry_47 (by decide) ?_
  refine hp_cv (hp_runV (C := RX0) (T := TX0) (N := 4) (np := 1) (k := 3) (mc := 0) (ms := 0) (As := [.int 0]) (rest := []) E hm hS (c_X0_compress l g Mx6 h nm ms sc sa fmm fs fa0 ⟨e_h, e_ms, e_sc, e_sa, ⟨fn, e_nm, hz⟩, n_1, n_2, n_3, n_4, n_5, n_6⟩ 0 (by omega)) ms_X0_compress wi_X0_compress ws_X0_compress wl_X0_30 e_h rfl rfl hl.1 rfl (Nat.le_of_ble_eq_true rfl) dX0_hashEntry_48 ⟨Nat.le_of_ble_eq_true rfl, Nat.le_of_ble_eq_true rfl⟩ ⟨(Nat.le_of_ble_eq_true rfl), (Nat.le_of_ble_eq_true rfl)⟩) hS (fun Mx8 H locs hq9 hm hS => ?_)
  obtain ⟨fs1, fa1, e_x, e_y, hc1_f, hc1⟩ := hq9
  have e_h_ : Mx8 h = some (.inr (0, [.ref nm, .ref ms, .ref sc, .ref sa])) := (hc1_f h nh2 nh3).trans e_h
  have e_nm_ : Mx8 nm = some (aI g 8 fn) := (hc1_f nm n_5 n_6).trans e_nm
  have e_t_ : Mx8 t = some (aI g 8 ft) := (hc1_f t t_2 t_3).trans e_t
  have e_ms_ : Mx8 ms = some (aI g 32 fmm) := (hc1_f ms n_1 n_2).trans e_ms
  have e_h := e_h_
  have e_nm := e_nm_
  have e_t := e_t_
  have e_ms := e_ms_
  have e_sc := e_x
  have e_sa := e_y
  have hgF : ∀ q, q ≠ ms → q ≠ sc → q ≠ sa → q ≠ t → Mx8 q = M q := fun q a1 a2 a3 a4 => (hc1_f q a2 a3).trans (hgF q a1 a2 a3 a4)
  refine lv_aload_n hx hb dX0_hashEntry_51 rfl (lv_at hl 0 rfl) ?_
  refine hp_get (C := RX0) (T := TX0) (N := 4) (v := .ref sa) E hm e_h inh0 rfl 3 (by decide) wf_X0_21 rfl dX0_hashEntry_52 ?_
  refine lv_aload_n hx hb dX0_hashEntry_55 rfl (lv_at hl 3 rfl) ?_
  refine hp_cv (hp_runN (np := 2) (k := 1) (mc := 0) (ms := 0) (As := [.ref sa, .ref t]) (rest := []) E hm hS (c_X3_copyWords l g Mx8 sa t fa1 ft e_sa e_t (Ne.symm t_3)) ms_X3_copyWords wt_X3_copyWords E.2.2.2.2.2.2.2.2.2.2.2.2.2.2.1 rfl hl.1 rfl (Nat.le_of_ble_eq_true rfl) dX0_hashEntry_56 ⟨Nat.le_of_ble_eq_true rfl, Nat.le_of_ble_eq_true rfl⟩ ⟨(Nat.le_of_ble_eq_true rfl), (Nat.le_of_ble_eq_true rfl)⟩) hS (fun Mx10 H locs hq11 hm hS => ?_)
  obtain ⟨f7, e_x, hfrz, hcp⟩ := hq11
  have e_h_ : Mx10 h = some (.inr (0, [.ref nm, .ref ms, .ref sc, .ref sa])) := (hfrz h (ne_lk e_h e_t (by simp))).trans e_h
  have e_nm_ : Mx10 nm = some (aI g 8 fn) := (hfrz nm (Ne.symm t_4)).trans e_nm
  have e_ms_ : Mx10 ms = some (aI g 32 fmm) := (hfrz ms (Ne.symm t_1)).trans e_ms
  have e_sc_ : Mx10 sc = some (aI g 64 fs1) := (hfrz sc (Ne.symm t_2)).trans e_sc
  have e_sa_ : Mx10 sa = some (aI g 8 fa1) := (hfrz sa (Ne.symm t_3)).trans e_sa
  have e_h := e_h_
  have e_nm := e_nm_
  have e_ms := e_ms_
  have e_sc := e_sc_
  have e_sa := e_sa_
  have e_t := e_x
  have hgF : ∀ q, q ≠ ms → q ≠ sc → q ≠ sa → q ≠ t → Mx10 q = M q := fun q a1 a2 a3 a4 => (hfrz q a4).trans (hgF q a1 a2 a3 a4)
  have hw : ∀ j, j < 16 → fmm (0 + j) = wLeaf k0 v0 j := by
    intro j hj
    rw [Nat.zero_add, hfmm]
    unfold wLeaf
    by_cases h15 : j = 15
    · subst h15; simp [upd]
    · rw [pk_un h15]
      by_cases h1 : j = 1
      · subst h1; simp [upd]
      · rw [pk_un h1]
        by_cases h0 : j = 0
        · subst h0; simp [upd]
        · rw [pk_un h0, hzx j (by omega), if_neg h0, if_neg h1, if_neg h15]
  exact ret dX0_hashEntry_59 hm hS (Nat.le_of_ble_eq_true rfl) (Nat.le_of_ble_eq_true rfl) (⟨_, _, _, _, ⟨e_h, e_ms, e_sc, e_sa, ⟨fn, e_nm, hz⟩, n_1, n_2, n_3, n_4, n_5, n_6⟩, e_t, hgF, fun j hj => by rw [hcp j hj, hc1 j hj]; exact shaB_w (fun i hi => hsy i hi) hw hj⟩)
set_option maxHeartbeats 4000000 in
set_option maxRecDepth 100000 in
theorem c_X0_hashPair (l : Launch) (g : hG) (M : hM) (h nm ms sc sa : Nat) (fm fs fa : Nat → Int32) (hH : HS g M h nm ms sc sa fm fs fa) (t : Nat) (ft : Nat → Int32) (e_t : M t = some (aI g 8 ft)) (t_1 : t ≠ ms) (t_2 : t ≠ sc) (t_3 : t ≠ sa) (t_4 : t ≠ nm) (z o : Nat) (fz fo : Nat → Int32) (e_z : M z = some (aI g 8 fz)) (e_o : M o = some (aI g 8 fo)) (z_1 : z ≠ ms) (o_1 : o ≠ ms) : Cv l g yX0_hashPair cX0_hashPair 6 4 0 0 [.ref h, .ref z, .ref o, .ref t] M (fun M9 => ∃ fm9 fs9 fa9 f9, HS g M9 h nm ms sc sa fm9 fs9 fa9 ∧ M9 t = some (aI g 8 f9) ∧ (∀ q, q ≠ ms → q ≠ sc → q ≠ sa → q ≠ t → M9 q = M q) ∧ ∀ j, j < 8 → f9 j = hPair fz fo j) := by
  obtain ⟨e_h, e_ms, e_sc, e_sa, ⟨fn, e_nm, hz⟩, n_1, n_2, n_3, n_4, n_5, n_6⟩ := hH
  have nh1 : h ≠ ms := ne_lk e_h e_ms (by simp)
  have nh2 : h ≠ sc := ne_lk e_h e_sc (by simp)
  have nh3 : h ≠ sa := ne_lk e_h e_sa (by simp)
  refine hp_startV (by decide) (by exact Nat.le_of_ble_eq_true rfl) ?_
  intro p e s m below meth c Q H locs ls E hnm ret hm hS hl
  have hx := E.1
  have hb := E.2.1
  have hown := E.2.2.2.1
  have hts := E.2.2.2.2.1
  have hl : lv_has ls 6 [(0, .ref h), (1, .ref z), (2, .ref o), (3, .ref t)] := hl
  have hgF : ∀ q, q ≠ ms → q ≠ sc → q ≠ sa → q ≠ t → M q = M q := fun _ _ _ _ _ => rfl
  refine lv_aload_n hx hb dX0_hashPair_0 rfl (lv_at hl 0 rfl) ?_
  refine hp_cv (hp_runV (C := RX0) (T := TX0) (N := 4) (np := 0) (k := 1) (mc := 0) (ms := 0) (As := ([] : List Value)) (rest := []) E hm hS (c_X0_clearMessage l g M h nm ms sc sa fm fs fa ⟨e_h, e_ms, e_sc, e_sa, ⟨fn, e_nm, hz⟩, n_1, n_2, n_3, n_4, n_5, n_6⟩) ms_X0_clearMessage wi_X0_clearMessage ws_X0_clearMessage wl_X0_24 e_h rfl rfl hl.1 rfl (Nat.le_of_ble_eq_true rfl) dX0_hashPair_1 ⟨Nat.le_of_ble_eq_true rfl, Nat.le_of_ble_eq_true rfl⟩ ⟨(Nat.le_of_ble_eq_true rfl), (Nat.le_of_ble_eq_true rfl)⟩) hS (fun Mx1 H locs hq2 hm hS => ?_)
  obtain ⟨fz0, e_x, hfrx, hzx⟩ := hq2
  have e_ms0 := e_ms
  have e_h_ : Mx1 h = some (.inr (0, [.ref nm, .ref ms, .ref sc, .ref sa])) := (hfrx h nh1).trans e_h
  have e_sc_ : Mx1 sc = some (aI g 64 fs) := (hfrx sc (Ne.symm n_1)).trans e_sc
  have e_sa_ : Mx1 sa = some (aI g 8 fa) := (hfrx sa (Ne.symm n_2)).trans e_sa
  have e_nm_ : Mx1 nm = some (aI g 8 fn) := (hfrx nm n_4).trans e_nm
  have e_t_ : Mx1 t = some (aI g 8 ft) := (hfrx t t_1).trans e_t
  have e_z_ : Mx1 z = some (aI g 8 fz) := (hfrx z z_1).trans e_z
  have e_o_ : Mx1 o = some (aI g 8 fo) := (hfrx o o_1).trans e_o
  have e_h := e_h_
  have e_sc := e_sc_
  have e_sa := e_sa_
  have e_nm := e_nm_
  have e_t := e_t_
  have e_z := e_z_
  have e_o := e_o_
  have e_ms := e_x
  have hgF : ∀ q, q ≠ ms → q ≠ sc → q ≠ sa → q ≠ t → Mx1 q = M q := fun q a1 a2 a3 a4 => (hfrx q a1).trans (hgF q a1 a2 a3 a4)
  refine lv_iconst (v := 1) hx hb dX0_hashPair_4 (by decide) ?_
  refine lv_istore (lv' := [(4, .int 1), (0, .ref h), (1, .ref z), (2, .ref o), (3, .ref t)]) hx hb dX0_hashPair_5 hl (by decide) rfl (fun ls hl => ?_)
  refine lv_iconst (v := 0) hx hb dX0_hashPair_7 (by decide) ?_
  refine lv_istore (lv' := [(5, .int 0), (4, .int 1), (0, .ref h), (1, .ref z), (2, .ref o), (3, .ref t)]) hx hb dX0_hashPair_8 hl (by decide) rfl (fun ls hl => ?_)
  have hgF0 := hgF
  have lp10 : ∀ (n i : Nat) (M1 : hM) (f1 : Nat → Int32) (H : Heap) (locs : List Loc) (ls : Array Slot), 9 ≤ i + n → i ≤ 8 → M1 ms = some (aI g 32 f1) → (∀ q, q ≠ ms → M1 q = Mx1 q) → (∀ j, j < 32 → f1 j = if j < i then mp fz fo j else 0) → hp g M1 H → va_S (hA g) s.heap H locs → lv_has ls 6 [(5, .int (nI i)), (4, .int (pv1 fz i)), (0, .ref h), (1, .ref z), (2, .ref o), (3, .ref t)] → W p l e (hR 4 0 0) s m [.ref h, .ref z, .ref o, .ref t].toArray below meth c H locs 0 0 Q (F0 m 10 ls []) := by
    intro n
    induction n with
    | zero => intro i M1 f1 H locs ls hn hi e_ms hfr hf; exact absurd hn (by omega)
    | succ n ih =>
      intro i M1 f1 H locs ls hn hi e_ms hfr hf hm hS hl
      have hfr9 : ∀ q, q ≠ ms → M1 q = Mx1 q := hfr
      have e_h_ : M1 h = some (.inr (0, [.ref nm, .ref ms, .ref sc, .ref sa])) := (hfr h nh1).trans e_h
      have e_sc_ : M1 sc = some (aI g 64 fs) := (hfr sc (Ne.symm n_1)).trans e_sc
      have e_sa_ : M1 sa = some (aI g 8 fa) := (hfr sa (Ne.symm n_2)).trans e_sa
      have e_nm_ : M1 nm = some (aI g 8 fn) := (hfr nm n_4).trans e_nm
      have e_t_ : M1 t = some (aI g 8 ft) := (hfr t t_1).trans e_t
      have e_z_ : M1 z = some (aI g 8 fz) := (hfr z z_1).trans e_z
      have e_o_ : M1 o = some (aI g 8 fo) := (hfr o o_1).trans e_o
      have e_h := e_h_
      have e_sc := e_sc_
      have e_sa := e_sa_
      have e_nm := e_nm_
      have e_t := e_t_
      have e_z := e_z_
      have e_o := e_o_
      have hgF : ∀ q, q ≠ ms → q ≠ sc → q ≠ sa → q ≠ t → M1 q = M q := fun q a1 a2 a3 a4 => (hfr q a1).trans (hgF q a1 a2 a3 a4)
      refine lv_iload hx hb dX0_hashPair_10 (lv_at hl 0 rfl) ?_
      refine lv_bipush (v := 8) hx hb dX0_hashPair_12 (by decide) ?_
      refine lv_icmp_ge (tgt := 49) hx hb dX0_hashPair_14 (by decide) (fun c_14 => ?_) (fun c_14 => ?_)
      · have c_14 : 8 ≤ i := (nI_leI (a := 8) (b := i) (by decide) (by omega)).mp c_14
        have hi8 : i = 8 := by omega
        have hl : lv_has ls 6 [(5, .int (nI 8)), (4, .int (pv2 fz fo 0)), (0, .ref h), (1, .ref z), (2, .ref o), (3, .ref t)] := by rw [hi8] at hl; exact hl
        refine lv_iconst (v := 0) hx hb dX0_hashPair_49 (by decide) ?_
        refine lv_istore (lv' := [(5, .int 0), (4, .int (pv2 fz fo 0)), (0, .ref h), (1, .ref z), (2, .ref o), (3, .ref t)]) hx hb dX0_hashPair_50 hl (by decide) rfl (fun ls hl => ?_)
        have hgF0 := hgF
        have lp52 : ∀ (n u : Nat) (M2 : hM) (f2 : Nat → Int32) (H : Heap) (locs : List Loc) (ls : Array Slot), 9 ≤ u + n → u ≤ 8 → M2 ms = some (aI g 32 f2) → (∀ q, q ≠ ms → M2 q = M1 q) → (∀ j, j < 32 → f2 j = if j < 8 + u then mp fz fo j else 0) → hp g M2 H → va_S (hA g) s.heap H locs → lv_has ls 6 [(5, .int (nI u)), (4, .int (pv2 fz fo u)), (0, .ref h), (1, .ref z), (2, .ref o), (3, .ref t)] → W p l e (hR 4 0 0) s m [.ref h, .ref z, .ref o, .ref t].toArray below meth c H locs 0 0 Q (F0 m 52 ls []) := by
          intro n
          induction n with
          | zero => intro u M2 f2 H locs ls hn hi e_ms hfr hf; exact absurd hn (by omega)
          | succ n ih =>
            intro u M2 f2 H locs ls hn hi e_ms hfr hf hm hS hl
            have hfr9 : ∀ q, q ≠ ms → M2 q = M1 q := hfr
            have e_h_ : M2 h = some (.inr (0, [.ref nm, .ref ms, .ref sc, .ref sa])) := (hfr h nh1).trans e_h
            have e_sc_ : M2 sc = some (aI g 64 fs) := (hfr sc (Ne.symm n_1)).trans e_sc
            have e_sa_ : M2 sa = some (aI g 8 fa) := (hfr sa (Ne.symm n_2)).trans e_sa
            have e_nm_ : M2 nm = some (aI g 8 fn) := (hfr nm n_4).trans e_nm
            have e_t_ : M2 t = some (aI g 8 ft) := (hfr t t_1).trans e_t
            have e_z_ : M2 z = some (aI g 8 fz) := (hfr z z_1).trans e_z
            have e_o_ : M2 o = some (aI g 8 fo) := (hfr o o_1).trans e_o
            have e_h := e_h_
            have e_sc := e_sc_
            have e_sa := e_sa_
            have e_nm := e_nm_
            have e_t := e_t_
            have e_z := e_z_
            have e_o := e_o_
            have hgF : ∀ q, q ≠ ms → q ≠ sc → q ≠ sa → q ≠ t → M2 q = M q := fun q a1 a2 a3 a4 => (hfr q a1).trans (hgF q a1 a2 a3 a4)
            refine lv_iload hx hb dX0_hashPair_52 (lv_at hl 0 rfl) ?_
            refine lv_bipush (v := 8) hx hb dX0_hashPair_54 (by decide) ?_
            refine lv_icmp_ge (tgt := 94) hx hb dX0_hashPair_56 (by decide) (fun c_56 => ?_) (fun c_56 => ?_)
            · have c_56 : 8 ≤ u := (nI_leI (a := 8) (b := u) (by decide) (by omega)).mp c_56
              have hu8 : u = 8 := by omega
              have hl : lv_has ls 6 [(5, .int (nI 8)), (4, .int (fo 7)), (0, .ref h), (1, .ref z), (2, .ref o), (3, .ref t)] := by rw [hu8] at hl; exact hl
              refine lv_aload_n hx hb dX0_hashPair_94 rfl (lv_at hl 2 rfl) ?_
              refine hp_get (C := RX0) (T := TX0) (N := 4) (v := .ref ms) E hm e_h inh0 rfl 1 (by decide) wf_X0_15 rfl dX0_hashPair_95 ?_
              refine lv_bipush (v := 16) hx hb dX0_hashPair_98 (by decide) ?_
              refine lv_iload hx hb dX0_hashPair_100 (lv_at hl 1 rfl) ?_
              refine lv_bipush (v := 24) hx hb dX0_hashPair_102 (by decide) ?_
              refine lv_ishl hx hb dX0_hashPair_104 ?_
              refine lv_ldc (v := 8388608) hx hb hown (hts _ wk_X0_38) dX0_hashPair_105 ?_
              refine lv_ior hx hb dX0_hashPair_107 ?_
              refine hp_iastN E hm hS e_ms 16 rfl (by decide) (by decide) dX0_hashPair_108 (fun H locs hm hS => ?_)
              obtain ⟨Mx3, hMx3⟩ : ∃ Mz, Mz = hm_up M2 ms (aI g 32 (upd f2 16 (((fo 7) <<< (24 &&& 31)) ||| 8388608))) := ⟨_, rfl⟩
              have hm : hp g Mx3 H := by rw [hMx3]; exact hm
              have e_h : Mx3 h = some (.inr (0, [.ref nm, .ref ms, .ref sc, .ref sa])) := by rw [hMx3]; exact up_at nh1 e_h
              have e_sc : Mx3 sc = some (aI g 64 fs) := by rw [hMx3]; exact up_at (Ne.symm n_1) e_sc
              have e_sa : Mx3 sa = some (aI g 8 fa) := by rw [hMx3]; exact up_at (Ne.symm n_2) e_sa
              have e_nm : Mx3 nm = some (aI g 8 fn) := by rw [hMx3]; exact up_at n_4 e_nm
              have e_t : Mx3 t = some (aI g 8 ft) := by rw [hMx3]; exact up_at t_1 e_t
              have e_z : Mx3 z = some (aI g 8 fz) := by rw [hMx3]; exact up_at z_1 e_z
              have e_o : Mx3 o = some (aI g 8 fo) := by rw [hMx3]; exact up_at o_1 e_o
              have e_ms : Mx3 ms = some (aI g 32 (upd f2 16 (((fo 7) <<< (24 &&& 31)) ||| 8388608))) := by rw [hMx3]; exact up_eq
              refine lv_aload_n hx hb dX0_hashPair_109 rfl (lv_at hl 2 rfl) ?_
              refine hp_get (C := RX0) (T := TX0) (N := 4) (v := .ref ms) E hm e_h inh0 rfl 1 (by decide) wf_X0_15 rfl dX0_hashPair_110 ?_
              refine lv_bipush (v := 31) hx hb dX0_hashPair_113 (by decide) ?_
              refine lv_sipush (v := 520) hx hb dX0_hashPair_115 (by decide) ?_
              refine hp_iastN E hm hS e_ms 31 rfl (by decide) (by decide) dX0_hashPair_118 (fun H locs hm hS => ?_)
              obtain ⟨Mx4, hMx4⟩ : ∃ Mz, Mz = hm_up Mx3 ms (aI g 32 (upd (upd f2 16 (((fo 7) <<< (24 &&& 31)) ||| 8388608)) 31 520)) := ⟨_, rfl⟩
              have hm : hp g Mx4 H := by rw [hMx4]; exact hm
              have e_h : Mx4 h = some (.inr (0, [.ref nm, .ref ms, .ref sc, .ref sa])) := by rw [hMx4]; exact up_at nh1 e_h
              have e_sc : Mx4 sc = some (aI g 64 fs) := by rw [hMx4]; exact up_at (Ne.symm n_1) e_sc
              have e_sa : Mx4 sa = some (aI g 8 fa) := by rw [hMx4]; exact up_at (Ne.symm n_2) e_sa
              have e_nm : Mx4 nm = some (aI g 8 fn) := by rw [hMx4]; exact up_at n_4 e_nm
              have e_t : Mx4 t = some (aI g 8 ft) := by rw [hMx4]; exact up_at t_1 e_t
              have e_z : Mx4 z = some (aI g 8 fz) := by rw [hMx4]; exact up_at z_1 e_z
              have e_o : Mx4 o = some (aI g 8 fo) := by rw [hMx4]; exact up_at o_1 e_o
              have e_ms : Mx4 ms = some (aI g 32 (upd (upd f2 16 (((fo 7) <<< (24 &&& 31)) ||| 8388608)) 31 520)) := by rw [hMx4]; exact up_eq
              have hgF : ∀ q, q ≠ ms → q ≠ sc → q ≠ sa → q ≠ t → Mx4 q = M q := fun q a1 a2 a3 a4 => by rw [hMx4, up_ne a1, hMx3, up_ne a1]; exact hgF q a1 a2 a3 a4
              obtain ⟨fmm, hfmm⟩ : ∃ z, z = upd (upd f2 16 (((fo 7) <<< (24 &&& 31)) ||| 8388608)) 31 520 := ⟨_, rfl⟩
              rw [← hfmm] at e_ms
              have hw : ∀ j, j < 32 → fmm j = mp fz fo j := by
                intro j hj
                rw [hfmm]
                by_cases h31 : j = 31
                · subst h31; rw [pk_us]; rfl
                · rw [pk_un h31]
                  by_cases h16 : j = 16
                  · subst h16; rw [pk_us]; rfl
                  · rw [pk_un h16, hf j hj]
                    by_cases q : j < 8 + 8
                    · rw [hu8, if_pos q]
                    · unfold mp; rw [hu8, if_neg q, if_neg (by omega), if_neg (by omega), if_neg h16, if_neg h31]
              refine lv_aload_n hx hb dX0_hashPair_119 rfl (lv_at hl 2 rfl) ?_
              refine hp_cv (hp_runV (C := RX0) (T := TX0) (N := 4) (np := 0) (k := 2) (mc := 0) (ms := 0) (As := ([] : List Value)) (rest := []) E hm hS (c_X0_start l g Mx4 h nm ms sc sa fmm fs fa ⟨e_h, e_ms, e_sc, e_sa, ⟨fn, e_nm, hz⟩, n_1, n_2, n_3, n_4, n_5, n_6⟩) ms_X0_start wi_X0_start ws_X0_start wl_X0_27 e_h rfl rfl hl.1 rfl (Nat.le_of_ble_eq_true rfl) dX0_hashPair_120 ⟨Nat.le_of_ble_eq_true rfl, Nat.le_of_ble_eq_true rfl⟩ ⟨(Nat.le_of_ble_eq_true rfl), (Nat.le_of_ble_eq_true rfl)⟩) hS (fun Mx5 H locs hq6 hm hS => ?_)
              obtain ⟨fa0, e_x, hfry, hsy⟩ := hq6
              have e_h_ : Mx5 h = some (.inr (0, [.ref nm, .ref ms, .ref sc, .ref sa])) := (hfry h nh3).trans e_h
              have e_sc_ : Mx5 sc = some (aI g 64 fs) := (hfry sc n_3).trans e_sc
              have e_nm_ : Mx5 nm = some (aI g 8 fn) := (hfry nm n_6).trans e_nm
              have e_t_ : Mx5 t = some (aI g 8 ft) := (hfry t t_3).trans e_t
              have e_ms_ : Mx5 ms = some (aI g 32 fmm) := (hfry ms n_2).trans e_ms
              have e_h := e_h_
              have e_sc := e_sc_
              have e_nm := e_nm_
              have e_t := e_t_
              have e_ms := e_ms_
              have e_sa := e_x
              have hgF : ∀ q, q ≠ ms → q ≠ sc → q ≠ sa → q ≠ t → Mx5 q = M q := fun q a1 a2 a3 a4 => (hfry q a3).trans (hgF q a1 a2 a3 a4)
              refine lv_aload_n hx hb dX0_hashPair_123 rfl (lv_at hl 2 rfl) ?_
              refine lv_iconst (v := 0) hx hb dX0_hashPair_124 (by decide) ?_
              refine hp_cv (hp_runV (C := RX0) (T := TX0) (N := 4) (np := 1) (k := 3) (mc := 0) (ms := 0) (As := [.int 0]) (rest := []) E hm hS (c_X0_compress l g Mx5 h nm ms sc sa fmm fs fa0 ⟨e_h, e_ms, e_sc, e_sa, ⟨fn, e_nm, hz⟩, n_1, n_2, n_3, n_4, n_5, n_6⟩ 0 (by omega)) ms_X0_compress wi_X0_compress ws_X0_compress wl_X0_30 e_h rfl rfl hl.1 rfl (Nat.le_of_ble_eq_true rfl) dX0_hashPair_125 ⟨Nat.le_of_ble_eq_true rfl, Nat.le_of_ble_eq_true rfl⟩ ⟨(Nat.le_of_ble_eq_true rfl), (Nat.le_of_ble_eq_true rfl)⟩) hS (fun Mx7 H locs hq8 hm hS => ?_)
              obtain ⟨fs1, fa1, e_x, e_y, hc1_f, hc1⟩ := hq8
              have e_h_ : Mx7 h = some (.inr (0, [.ref nm, .ref ms, .ref sc, .ref sa])) := (hc1_f h nh2 nh3).trans e_h
              have e_nm_ : Mx7 nm = some (aI g 8 fn) := (hc1_f nm n_5 n_6).trans e_nm
              have e_t_ : Mx7 t = some (aI g 8 ft) := (hc1_f t t_2 t_3).trans e_t
              have e_ms_ : Mx7 ms = some (aI g 32 fmm) := (hc1_f ms n_1 n_2).trans e_ms
              have e_h := e_h_
              have e_nm := e_nm_
              have e_t := e_t_
              have e_ms := e_ms_
              have e_sc := e_x
              have e_sa := e_y
              have hgF : ∀ q, q ≠ ms → q ≠ sc → q ≠ sa → q ≠ t → Mx7 q = M q := fun q a1 a2 a3 a4 => (hc1_f q a2 a3).trans (hgF q a1 a2 a3 a4)
              refine lv_aload_n hx hb dX0_hashPair_128 rfl (lv_at hl 2 rfl) ?_
              refine lv_bipush (v := 16) hx hb dX0_hashPair_129 (by decide) ?_
              refine hp_cv (hp_runV (C := RX0) (T := TX0) (N := 4) (np := 1) (k := 3) (mc := 0) (ms := 0) (As := [.int 16]) (rest := []) E hm hS (c_X0_compress l g Mx7 h nm ms sc sa fmm fs1 fa1 ⟨e_h, e_ms, e_sc, e_sa, ⟨fn, e_nm, hz⟩, n_1, n_2, n_3, n_4, n_5, n_6⟩ 16 (by omega)) ms_X0_compress wi_X0_compress ws_X0_compress wl_X0_30 e_h rfl rfl hl.1 rfl (Nat.le_of_ble_eq_true rfl) dX0_hashPair_131 ⟨Nat.le_of_ble_eq_true rfl, Nat.le_of_ble_eq_true rfl⟩ ⟨(Nat.le_of_ble_eq_true rfl), (Nat.le_of_ble_eq_true rfl)⟩) hS (fun Mx9 H locs hq10 hm hS => ?_)
              obtain ⟨fs2, fa2, e_x, e_y, hc2_f, hc2⟩ := hq10
              have e_h_ : Mx9 h = some (.inr (0, [.ref nm, .ref ms, .ref sc, .ref sa])) := (hc2_f h nh2 nh3).trans e_h
              have e_nm_ : Mx9 nm = some (aI g 8 fn) := (hc2_f nm n_5 n_6).trans e_nm
              have e_t_ : Mx9 t = some (aI g 8 ft) := (hc2_f t t_2 t_3).trans e_t
              have e_ms_ : Mx9 ms = some (aI g 32 fmm) := (hc2_f ms n_1 n_2).trans e_ms
              have e_h := e_h_
              have e_nm := e_nm_
              have e_t := e_t_
              have e_ms := e_ms_
              have e_sc := e_x
              have e_sa := e_y
              have hgF : ∀ q, q ≠ ms → q ≠ sc → q ≠ sa → q ≠ t → Mx9 q = M q := fun q a1 a2 a3 a4 => (hc2_f q a2 a3).trans (hgF q a1 a2 a3 a4)
              refine lv_aload_n hx hb dX0_hashPair_134 rfl (lv_at hl 2 rfl) ?_
              refine hp_get (C := RX0) (T := TX0) (N := 4) (v := .ref sa) E hm e_h inh0 rfl 3 (by decide) wf_X0_21 rfl dX0_hashPair_135 ?_
              refine lv_aload_n hx hb dX0_hashPair_138 rfl (lv_at hl 5 rfl) ?_
              refine hp_cv (hp_runN (np := 2) (k := 1) (mc := 0) (ms := 0) (As := [.ref sa, .ref t]) (rest := []) E hm hS (c_X3_copyWords l g Mx9 sa t fa2 ft e_sa e_t (Ne.symm t_3)) ms_X3_copyWords wt_X3_copyWords E.2.2.2.2.2.2.2.2.2.2.2.2.2.2.1 rfl hl.1 rfl (Nat.le_of_ble_eq_true rfl) dX0_hashPair_139 ⟨Nat.le_of_ble_eq_true rfl, Nat.le_of_ble_eq_true rfl⟩ ⟨(Nat.le_of_ble_eq_true rfl), (Nat.le_of_ble_eq_true rfl)⟩) hS (fun Mx11 H locs hq12 hm hS => ?_)
              obtain ⟨f7, e_x, hfrz, hcp⟩ := hq12
              have e_h_ : Mx11 h = some (.inr (0, [.ref nm, .ref ms, .ref sc, .ref sa])) := (hfrz h (ne_lk e_h e_t (by simp))).trans e_h
              have e_nm_ : Mx11 nm = some (aI g 8 fn) := (hfrz nm (Ne.symm t_4)).trans e_nm
              have e_ms_ : Mx11 ms = some (aI g 32 fmm) := (hfrz ms (Ne.symm t_1)).trans e_ms
              have e_sc_ : Mx11 sc = some (aI g 64 fs2) := (hfrz sc (Ne.symm t_2)).trans e_sc
              have e_sa_ : Mx11 sa = some (aI g 8 fa2) := (hfrz sa (Ne.symm t_3)).trans e_sa
              have e_h := e_h_
              have e_nm := e_nm_
              have e_ms := e_ms_
              have e_sc := e_sc_
              have e_sa := e_sa_
              have e_t := e_x
              have hgF : ∀ q, q ≠ ms → q ≠ sc → q ≠ sa → q ≠ t → Mx11 q = M q := fun q a1 a2 a3 a4 => (hfrz q a4).trans (hgF q a1 a2 a3 a4)
              exact ret dX0_hashPair_142 hm hS (Nat.le_of_ble_eq_true rfl) (Nat.le_of_ble_eq_true rfl) (⟨_, _, _, _, ⟨e_h, e_ms, e_sc, e_sa, ⟨fn, e_nm, hz⟩, n_1, n_2, n_3, n_4, n_5, n_6⟩, e_t, hgF, fun j hj => by rw [hcp j hj, hc2 j hj]; exact shaB_w (fun i hi => by rw [hc1 i hi]; exact shaB_w (fun b hb => hsy b hb) (fun b hb => by rw [Nat.zero_add]; exact hw b (by omega)) hi) (fun i hi => hw (16 + i) (by omega)) hj⟩)
            · have c_56 : ¬ 8 ≤ u := fun h9 => c_56 ((nI_leI (a := 8) (b := u) (by decide) (by omega)).mpr h9)
              refine lv_aload_n hx hb dX0_hashPair_59 rfl (lv_at hl 2 rfl) ?_
              refine hp_get (C := RX0) (T := TX0) (N := 4) (v := .ref ms) E hm e_h inh0 rfl 1 (by decide) wf_X0_15 rfl dX0_hashPair_60 ?_
              refine lv_bipush (v := 8) hx hb dX0_hashPair_63 (by decide) ?_
              refine lv_iload hx hb dX0_hashPair_65 (lv_at hl 0 rfl) ?_
              refine lv_iadd hx hb dX0_hashPair_67 ?_
              refine lv_iload hx hb dX0_hashPair_68 (lv_at hl 1 rfl) ?_
              refine lv_bipush (v := 24) hx hb dX0_hashPair_70 (by decide) ?_
              refine lv_ishl hx hb dX0_hashPair_72 ?_
              refine lv_aload_n hx hb dX0_hashPair_73 rfl (lv_at hl 4 rfl) ?_
              refine lv_iload hx hb dX0_hashPair_74 (lv_at hl 0 rfl) ?_
              refine hp_ialdN E hm e_o u rfl (by omega) (by decide) dX0_hashPair_76 ?_
              refine lv_bipush (v := 8) hx hb dX0_hashPair_77 (by decide) ?_
              refine lv_iushr (v := ush (fo u) 8) hx hb dX0_hashPair_79 rfl ?_
              refine lv_ior hx hb dX0_hashPair_80 ?_
              refine hp_iastN E hm hS e_ms (8 + u) (nI_add 8 u) (by omega) (by decide) dX0_hashPair_81 (fun H locs hm hS => ?_)
              obtain ⟨Mx13, hMx13⟩ : ∃ Mz, Mz = hm_up M2 ms (aI g 32 (upd f2 (8 + u) (((pv2 fz fo u) <<< (24 &&& 31)) ||| (ush (fo u) 8)))) := ⟨_, rfl⟩
              have hm : hp g Mx13 H := by rw [hMx13]; exact hm
              have e_h : Mx13 h = some (.inr (0, [.ref nm, .ref ms, .ref sc, .ref sa])) := by rw [hMx13]; exact up_at nh1 e_h
              have e_sc : Mx13 sc = some (aI g 64 fs) := by rw [hMx13]; exact up_at (Ne.symm n_1) e_sc
              have e_sa : Mx13 sa = some (aI g 8 fa) := by rw [hMx13]; exact up_at (Ne.symm n_2) e_sa
              have e_nm : Mx13 nm = some (aI g 8 fn) := by rw [hMx13]; exact up_at n_4 e_nm
              have e_t : Mx13 t = some (aI g 8 ft) := by rw [hMx13]; exact up_at t_1 e_t
              have e_z : Mx13 z = some (aI g 8 fz) := by rw [hMx13]; exact up_at z_1 e_z
              have e_o : Mx13 o = some (aI g 8 fo) := by rw [hMx13]; exact up_at o_1 e_o
              have e_ms : Mx13 ms = some (aI g 32 (upd f2 (8 + u) (((pv2 fz fo u) <<< (24 &&& 31)) ||| (ush (fo u) 8)))) := by rw [hMx13]; exact up_eq
              refine lv_aload_n hx hb dX0_hashPair_82 rfl (lv_at hl 4 rfl) ?_
              refine lv_iload hx hb dX0_hashPair_83 (lv_at hl 0 rfl) ?_
              refine hp_ialdN E hm e_o u rfl (by omega) (by decide) dX0_hashPair_85 ?_
              refine lv_istore (lv' := [(4, .int (fo u)), (5, .int (nI u)), (0, .ref h), (1, .ref z), (2, .ref o), (3, .ref t)]) hx hb dX0_hashPair_86 hl (by decide) rfl (fun ls hl => ?_)
              refine lv_iinc (v := nI (u + 1)) (lv' := [(5, .int (nI (u + 1))), (4, .int (fo u)), (0, .ref h), (1, .ref z), (2, .ref o), (3, .ref t)]) hx hb dX0_hashPair_88 hl (k := 1) rfl (nI_1 _) (by decide) rfl (fun ls hl => ?_)
              refine lv_goto (tgt := 52) hx hb dX0_hashPair_91 (by decide) ?_
              refine ih (u + 1) Mx13 _ H locs ls (by omega) (by omega) e_ms (fun q hq => by rw [hMx13, up_ne hq]; exact hfr q hq) (fun j hj => ?_) hm hS (lv_sub hl [0, 1, 2, 3, 4, 5] rfl)
              by_cases q : j = 8 + u
              · rw [q, pk_us, if_pos (by omega)]; unfold mp; rw [if_neg (by omega), if_pos (by omega), Nat.add_sub_cancel_left]
              · rw [pk_un q, hf j hj]
                by_cases q2 : j < 8 + u
                · rw [if_pos q2, if_pos (by omega)]
                · rw [if_neg q2, if_neg (by omega)]
        exact lp52 9 0 M1 f1 H locs ls (by omega) (by omega) e_ms (fun _ _ => rfl) (fun j hj => by rw [hf j hj, show i = 8 by omega]) hm hS (lv_sub hl [0, 1, 2, 3, 4, 5] rfl)
      · have c_14 : ¬ 8 ≤ i := fun h9 => c_14 ((nI_leI (a := 8) (b := i) (by decide) (by omega)).mpr h9)
        refine lv_aload_n hx hb dX0_hashPair_17 rfl (lv_at hl 2 rfl) ?_
        refine hp_get (C := RX0) (T := TX0) (N := 4) (v := .ref ms) E hm e_h inh0 rfl 1 (by decide) wf_X0_15 rfl dX0_hashPair_18 ?_
        refine lv_iload hx hb dX0_hashPair_21 (lv_at hl 0 rfl) ?_
        refine lv_iload hx hb dX0_hashPair_23 (lv_at hl 1 rfl) ?_
        refine lv_bipush (v := 24) hx hb dX0_hashPair_25 (by decide) ?_
        refine lv_ishl hx hb dX0_hashPair_27 ?_
        refine lv_aload_n hx hb dX0_hashPair_28 rfl (lv_at hl 3 rfl) ?_
        refine lv_iload hx hb dX0_hashPair_29 (lv_at hl 0 rfl) ?_
        refine hp_ialdN E hm e_z i rfl (by omega) (by decide) dX0_hashPair_31 ?_
        refine lv_bipush (v := 8) hx hb dX0_hashPair_32 (by decide) ?_
        refine lv_iushr (v := ush (fz i) 8) hx hb dX0_hashPair_34 rfl ?_
        refine lv_ior hx hb dX0_hashPair_35 ?_
        refine hp_iastN E hm hS e_ms i rfl (by omega) (by decide) dX0_hashPair_36 (fun H locs hm hS => ?_)
        obtain ⟨Mx14, hMx14⟩ : ∃ Mz, Mz = hm_up M1 ms (aI g 32 (upd f1 i (((pv1 fz i) <<< (24 &&& 31)) ||| (ush (fz i) 8)))) := ⟨_, rfl⟩
        have hm : hp g Mx14 H := by rw [hMx14]; exact hm
        have e_h : Mx14 h = some (.inr (0, [.ref nm, .ref ms, .ref sc, .ref sa])) := by rw [hMx14]; exact up_at nh1 e_h
        have e_sc : Mx14 sc = some (aI g 64 fs) := by rw [hMx14]; exact up_at (Ne.symm n_1) e_sc
        have e_sa : Mx14 sa = some (aI g 8 fa) := by rw [hMx14]; exact up_at (Ne.symm n_2) e_sa
        have e_nm : Mx14 nm = some (aI g 8 fn) := by rw [hMx14]; exact up_at n_4 e_nm
        have e_t : Mx14 t = some (aI g 8 ft) := by rw [hMx14]; exact up_at t_1 e_t
        have e_z : Mx14 z = some (aI g 8 fz) := by rw [hMx14]; exact up_at z_1 e_z
        have e_o : Mx14 o = some (aI g 8 fo) := by rw [hMx14]; exact up_at o_1 e_o
        have e_ms : Mx14 ms = some (aI g 32 (upd f1 i (((pv1 fz i) <<< (24 &&& 31)) ||| (ush (fz i) 8)))) := by rw [hMx14]; exact up_eq
        refine lv_aload_n hx hb dX0_hashPair_37 rfl (lv_at hl 3 rfl) ?_
        refine lv_iload hx hb dX0_hashPair_38 (lv_at hl 0 rfl) ?_
        refine hp_ialdN E hm e_z i rfl (by omega) (by decide) dX0_hashPair_40 ?_
        refine lv_istore (lv' := [(4, .int (fz i)), (5, .int (nI i)), (0, .ref h), (1, .ref z), (2, .ref o), (3, .ref t)]) hx hb dX0_hashPair_41 hl (by decide) rfl (fun ls hl => ?_)
        refine lv_iinc (v := nI (i + 1)) (lv' := [(5, .int (nI (i + 1))), (4, .int (fz i)), (0, .ref h), (1, .ref z), (2, .ref o), (3, .ref t)]) hx hb dX0_hashPair_43 hl (k := 1) rfl (nI_1 _) (by decide) rfl (fun ls hl => ?_)
        refine lv_goto (tgt := 10) hx hb dX0_hashPair_46 (by decide) ?_
        refine ih (i + 1) Mx14 _ H locs ls (by omega) (by omega) e_ms (fun q hq => by rw [hMx14, up_ne hq]; exact hfr q hq) (fun j hj => ?_) hm hS (lv_sub hl [0, 1, 2, 3, 4, 5] rfl)
        by_cases q : j = i
        · rw [q, pk_us, if_pos (by omega)]; unfold mp; rw [if_pos (by omega)]
        · rw [pk_un q, hf j hj]
          by_cases q2 : j < i
          · rw [if_pos q2, if_pos (by omega)]
          · rw [if_neg q2, if_neg (by omega)]
  exact lp10 9 0 Mx1 fz0 H locs ls (by omega) (by omega) e_ms (fun _ _ => rfl) (fun j hj => by rw [hzx j hj, if_neg (by omega)]) hm hS (lv_sub hl [0, 1, 2, 3, 4, 5] rfl)
