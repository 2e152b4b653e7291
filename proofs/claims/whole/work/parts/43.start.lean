theorem st_in : ∀ j, j < 8 → Cond.eq (.elem (Term.static "ProofMap$Hasher" "START" "[I") (.int (Int32.ofNat j))) (.int (kStart j)) ∈ flatC (Jvm.Cond.and given_1 narrow_1) := by decide +kernel
theorem rw_in : ∀ j, j < 64 → Cond.eq (.elem (Term.static "ProofMap$Hasher" "ROUND_WORDS" "[I") (.int (Int32.ofNat j))) (.int (kRound j)) ∈ flatC (Jvm.Cond.and given_1 narrow_1) := by decide +kernel
/-- what stays, at the law's start -/
theorem hGX_0 {p : Program} {s : State} {m : MethodId} {meth : Method} {c : Code} {b L : Nat} {xs : Nat → Int32} (C0 : lw_At p s m meth c b L xs) : ∃ g : hG, hGX g s ∧ gB g = s.heap.size := by
  obtain ⟨hx, hb, hr, hml, hown, hts, hX0, hbl, hlocks, hgv⟩ := id C0
  have hT0 : ∀ w ∈ hT, w.before #[Value.ref b] s = true := fun w h => hts w (hT_in w h)
  have hs := flat_of_before _ hgv
  obtain ⟨c0, i0, k0⟩ := u_known (C := RX0) (T := TX0) (N := 4) (n := 4) hT0 inh0 (hT0 _ wa_X0)
  obtain ⟨c1, i1, k1⟩ := u_known (C := RX1) (T := TX1) (N := 6) (n := 6) hT0 inh1 (hT0 _ wa_X1)
  obtain ⟨c2, i2, k2⟩ := u_known (C := RX2) (T := TX2) (N := 5) (n := 5) hT0 inh2 (hT0 _ wa_X2)
  obtain ⟨c3, i3, k3⟩ := u_known (C := RX3) (T := TX3) (N := 6) (n := 6) hT0 inh3 (hT0 _ wa_X3)
  obtain ⟨c4, i4, k4⟩ := u_known (C := RX4) (T := TX4) (N := 24) (n := 24) hT0 inh4 (hT0 _ wa_X4)
  obtain ⟨cI, kI, oI, fI, eI, dI⟩ := Cond.arrayClass_spec (hT0 _ warr)
  have haN : va_AO "ProofMap$Node" s := va_AO.of (hts _ wx_16)
  obtain ⟨oN, cN, kN, fN, -, eN, dN, gN9⟩ := Cond.arrayOver_spec haN
  have haR : va_Nw (.arrayOver (.array .int)) s := hts _ wx_24
  obtain ⟨oR, cR, kR, fR, -, eR, dR, gR9⟩ := arrayOverA_spec haR
  have hA0 : ∀ a : Nat, a < s.heap.size → ¬ (fun q : Nat => s.heap.size ≤ q) a := fun a h => Nat.not_le.mpr h
  obtain ⟨tS, vS, xS⟩ := va_Tof (tm := (Term.static "ProofMap$Hasher" "START" "[I")) (ty := .int) (N := 8) (f := fun j => .int (kStart j)) (A := fun q : Nat => s.heap.size ≤ q) (by decide) (hs _ (by decide +kernel)) (va_eqt (z := 8) (hs _ (by decide +kernel))) (fun j hj => va_eqt (hs _ (st_in j hj))) hA0
  obtain ⟨tK, vK, xK⟩ := va_Tof (tm := (Term.static "ProofMap$Hasher" "ROUND_WORDS" "[I")) (ty := .int) (N := 64) (f := fun j => .int (kRound j)) (A := fun q : Nat => s.heap.size ≤ q) (by decide) (hs _ (by decide +kernel)) (va_eqt (z := 64) (hs _ (by decide +kernel))) (fun j hj => va_eqt (hs _ (rw_in j hj))) hA0
  have zS := va_Zof (A := fun q : Nat => s.heap.size ≤ q) (hts (.laysStatic "ProofMap$Hasher" "START" "[I") (by decide +kernel)) (hT0 _ wn_X0) vS hA0
  have zK := va_Zof (A := fun q : Nat => s.heap.size ≤ q) (hts (.laysStatic "ProofMap$Hasher" "ROUND_WORDS" "[I") (by decide +kernel)) (hT0 _ wn_X0) vK hA0
  have lt : ∀ {t N : Nat} {f : Nat → Value}, va_T .int t N f (fun q : Nat => s.heap.size ≤ q) s s.heap → t < s.heap.size := fun h => by
    obtain ⟨cell, h1, -⟩ := h
    exact (Array.getElem?_eq_some_iff.mp h1).1
  refine ⟨((fun k => if k = 0 then c0 else if k = 1 then c1 else if k = 2 then c2 else if k = 3 then c3 else c4, fun k => if k = 0 then i0 else if k = 1 then i1 else if k = 2 then i2 else if k = 3 then i3 else i4), (cI, cN, cR), s.heap.size, tS, tK), ⟨⟨fun k q hq => ?_, fun k q hq => ?_⟩, Nat.le_refl _, zS, zK, xS, xK, lt xS, lt xK, va_Nw.of rfl (hts _ wx_148), va_Nw.of rfl (hts _ wx_202), haN, haR⟩, rfl⟩
  · match k, hq with
    | 0, hq => cases hq; exact k0
    | 1, hq => cases hq; exact k1
    | 2, hq => cases hq; exact k2
    | 3, hq => cases hq; exact k3
    | 4, hq => cases hq; exact k4
    | k + 5, hq => simp [vwCl] at hq
  · match k, hq with
    | 0, hq => cases hq; exact ⟨fun N z => ⟨(fun q hq => by cases hq), kI, eI, oI, dI⟩, fI⟩
    | 1, hq => cases hq; exact ⟨fun N z => ⟨(fun q hq => by cases hq), kN, eN, oN, dN⟩, kN, oN, eN, dN, fN, gN9⟩
    | 2, hq => cases hq; exact ⟨fun N z => ⟨(fun q hq => by cases hq), kR, eR, oR, dR⟩, gR9⟩
    | k + 3, hq => simp [hTy] at hq
set_option maxHeartbeats 4000000 in
set_option maxRecDepth 100000 in
theorem whole_start {p : Program} {e : Env} {s : State} {m : MethodId} {below : List Frame} {meth : Method} {c : Code} (l : Launch) {b L : Nat} {xs : Nat → Int32} (hL : L ≤ 2048) (C0 : lw_At p s m meth c b L xs) : W p l e room_1 s m #[Value.ref b] below meth c s.heap [] 0 0 (lw_Z below #[Value.ref b] s) (entryFrame m ([Value.ref b] : List Value).toArray 4) := by
  obtain ⟨hx, hb, hr, hml, hown, hts0, hX, hbl, hlocks, hgv⟩ := id C0
  obtain ⟨g, hG, hgB⟩ := hGX_0 C0
  have EE : hE p c cL_law 4 s #[Value.ref b] m RL g := ⟨hx, hb, hml, hown, fun w h => hts0 w (hT_in w h), hG⟩
  have hl := lv_entry ([.ref b]) (n := 4) (Nat.le_of_ble_eq_true rfl)
  rw [lg_entry_eq]
  generalize (lg_sl ([.ref b]) ++ List.replicate (4 - (lg_sl ([.ref b])).length) Slot.unset).toArray = ls at hl ⊢
  have hl : lv_has ls 4 [(0, .ref b)] := hl
  obtain ⟨M0, hM0⟩ : ∃ M0 : hM, M0 = fun _ => none := ⟨_, rfl⟩
  have hm : hp g M0 s.heap := fun a e h => by rw [hM0] at h; cases h
  have hS : va_S (hA g) s.heap s.heap [] := va_S.rf
  refine hp_new (C := RX3) (T := TX3) (N := 6) (ci := 3) (fs := [.null, .int 0, .null, .null, .null, .null]) EE hm hS inh3 tyX3 tyX3_ok rfl wc_L_7 wa_X3 wn_X3 (by decide +kernel) (Nat.le_of_ble_eq_true rfl) (Nat.le_of_ble_eq_true rfl) dL_law_0 (fun q1 H hq1 hm hS => ?_)
  obtain ⟨Mx2, hMx2⟩ : ∃ Mz, Mz = hm_up M0 q1 (.inr (3, [.null, .int 0, .null, .null, .null, .null])) := ⟨_, rfl⟩
  have hm : hp g Mx2 H := by rw [hMx2]; exact hm
  have e_q1 : Mx2 q1 = some (.inr (3, [.null, .int 0, .null, .null, .null, .null])) := by rw [hMx2]; exact up_eq
  refine lv_dup hx hb dL_law_3 rfl ?_
  refine hp_cv (hp_runI (np := 0) (k := 2) (mc := 25) (ms := 333) (As := ([] : List Value)) (rest := [.ref q1]) EE hm hS (c_X3_init l g Mx2 q1 e_q1) ms_X3_init wi_X3_init rfl wl_L_9 rfl hl.1 rfl (Nat.le_of_ble_eq_true rfl) dL_law_4 ⟨Nat.le_of_ble_eq_true rfl, Nat.le_of_ble_eq_true rfl⟩ ⟨(Nat.le_of_ble_eq_true rfl), (Nat.le_of_ble_eq_true rfl)⟩) hS (fun Mx3 H locs hq4 hm hS => ?_)
  obtain ⟨kp, pf, bs, h, nm, ms, sc, sa, fo, br, fm, fs, fa, ff, rv, hC, hu⟩ := hq4
  have h0 : ∀ q, und Mx2 q = false := fun q => by
    by_cases t : q = q1
    · rw [t]; exact und_obj e_q1 (by decide)
    · exact und_none (by rw [hMx2, up_ne t, hM0])
  refine lv_astore_n (lv' := [(1, .ref q1), (0, .ref b)]) hx hb dL_law_7 rfl hl (by decide) rfl (fun ls hl => ?_)
  refine hp_new (C := RX4) (T := TX4) (N := 24) (ci := 4) (fs := [.null, .null, .null, .null, .null, .null, .int 0, .int 0, .null, .null, .null, .null, .null, .null, .null, .int 0, .null, .null, .null, .int 0, .null, .int 0, .int 0, .int 0]) EE hm hS inh4 tyX4 tyX4_ok rfl wc_L_10 wa_X4 wn_X4 (by decide +kernel) (Nat.le_of_ble_eq_true rfl) (Nat.le_of_ble_eq_true rfl) dL_law_8 (fun q5 H hq5 hm hS => ?_)
  obtain ⟨Mx6, hMx6⟩ : ∃ Mz, Mz = hm_up Mx3 q5 (.inr (4, [.null, .null, .null, .null, .null, .null, .int 0, .int 0, .null, .null, .null, .null, .null, .null, .null, .int 0, .null, .null, .null, .int 0, .null, .int 0, .int 0, .int 0])) := ⟨_, rfl⟩
  have hm : hp g Mx6 H := by rw [hMx6]; exact hm
  have e_q5 : Mx6 q5 = some (.inr (4, [.null, .null, .null, .null, .null, .null, .int 0, .int 0, .null, .null, .null, .null, .null, .null, .null, .int 0, .null, .null, .null, .int 0, .null, .int 0, .int 0, .int 0])) := by rw [hMx6]; exact up_eq
  refine lv_dup hx hb dL_law_11 rfl ?_
  refine hp_cv (hp_runI (np := 0) (k := 1) (mc := 17) (ms := 41019) (As := ([] : List Value)) (rest := [.ref q5]) EE hm hS (c_X4_init l g Mx6 q5 e_q5) ms_X4_init wi_X4_init rfl wl_L_12 rfl hl.1 rfl (Nat.le_of_ble_eq_true rfl) dL_law_12 ⟨Nat.le_of_ble_eq_true rfl, Nat.le_of_ble_eq_true rfl⟩ ⟨(Nat.le_of_ble_eq_true rfl), (Nat.le_of_ble_eq_true rfl)⟩) hS (fun Mx7 H locs hq8 hm hS => ?_)
  obtain ⟨ad, S, V, hw, hfr, hF⟩ := hq8
  have hB := BW.mk hC hu h0 hq5 (M2 := Mx6) (fun q hq => by rw [hMx6, up_ne hq]) hw hfr hF ⟨_, e_q5⟩
  refine lv_astore_n (lv' := [(2, .ref q5), (1, .ref q1), (0, .ref b)]) hx hb dL_law_15 rfl hl (by decide) rfl (fun ls hl => ?_)
  refine lv_iconst (v := 0) hx hb dL_law_16 (by decide) ?_
  refine lv_istore_n (lv' := [(3, .int 0), (2, .ref q5), (1, .ref q1), (0, .ref b)]) hx hb dL_law_17 rfl hl (by decide) rfl (fun ls hl => ?_)
  exact law_loop l hL C0 g EE hgB q1 q5 (L + 1) 0 _ _ 0 Mx7 σ0 H locs ls (by omega) (by omega) hB (by omega) (by omega) hm hS hl
