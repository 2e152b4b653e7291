theorem bI_f {b : Bool} (h : bI b = 0) : b = false := by
  cases b with
  | false => rfl
  | true => exact absurd h (by decide)
theorem bI_t {b : Bool} (h : ¬ bI b = 0) : b = true := by
  cases b with
  | true => rfl
  | false => exact absurd rfl h
/-- the value of a key -/
def lkE (E : En) (k : Nat) : Option Int32 := (E.find? (fun x => x.1 == k)).map (fun x => x.2)
def vaE (E : En) : Int32 := match E with
  | [] => 0
  | x :: _ => x.2
theorem lkE_cons (x : Nat × Int32) (t : En) (k : Nat) : lkE (x :: t) k = if x.1 = k then some x.2 else lkE t k := by
  unfold lkE
  rw [List.find?_cons]
  by_cases h : x.1 = k
  · rw [if_pos h, show (x.1 == k) = true by simp [h]]; rfl
  · rw [if_neg h, show (x.1 == k) = false by simp [h]]
theorem lkE_spl (n k : Nat) : ∀ E : En, lkE (spl n (k.testBit n) E) k = lkE E k
  | [] => rfl
  | x :: t => by
    have ih := lkE_spl n k t
    by_cases h : x.1.testBit n = k.testBit n
    · rw [spl_in h, lkE_cons, lkE_cons, ih]
    · rw [spl_out h, lkE_cons, if_neg (fun q => h (by rw [q])), ih]
theorem end_lk (k : Nat) : ∀ (n : Nat) (E : En), pre n k E → srt E → lkE E k = if isEn (endE n k E) k then some (vaE (endE n k E)) else none := by
  intro n
  induction n with
  | zero =>
    intro E hp hs
    rcases pre_0 hp hs with q | ⟨v, q⟩
    · rw [q]; rfl
    · rw [q]; simp [endE, isEn, vaE, lkE]
  | succ n ih =>
    intro E hp hs
    by_cases h : E.length ≤ 1
    · rw [endE_1 h]
      match E, h with
      | [], _ => rfl
      | [x], _ =>
        rw [lkE_cons]
        by_cases q : x.1 = k
        · rw [if_pos q]; simp [isEn, q, vaE]
        · rw [if_neg q]; simp [isEn, q, lkE]
    · rw [endE_2 h, ← ih _ (pre_spl hp) (srt_spl hs _ _), lkE_spl]
theorem pre_16 {k : Nat} {E : En} (hk : k < 65536) (h : ∀ x ∈ E, x.1 < 65536) : pre 16 k E := fun x hx => by
  have := h x hx
  rw [Nat.shiftRight_eq_div_pow, Nat.shiftRight_eq_div_pow]
  omega
/-- the answers, from the state -/
def rSize (σ : cSt) (v : Int32) : Int32 := if isV σ v then nI (mapV σ v).length else -1
def rGet (σ : cSt) (v k : Int32) : Int64 := if isV σ v && isK k then (match lkE (mapV σ v) k.toNatClampNeg with
  | some w => w.toInt64
  | none => 9223372036854775807) else 9223372036854775807
def rSib (σ : cSt) (k i : Int32) : Int32 := if isS σ k && isW i then sSb σ k.toNatClampNeg i.toNatClampNeg else 0
def rEnd (σ : cSt) (w : Int32) : Int32 := if w = 0 then bI (sPe σ) else if w = 1 then sPk σ else if w = 2 then sPv σ else -1
/-- at how many first bits two keys are alike, of n -/
def alk : Nat → Nat → Nat → Nat
  | 0, _, _ => 0
  | n + 1, a, b => if a.testBit n = b.testBit n then alk n a b + 1 else 0
def rAlike (a b : Int32) : Int32 := if isK a && isK b then nI (alk 16 a.toNatClampNeg b.toNatClampNeg) else -1
set_option maxHeartbeats 4000000 in
set_option maxRecDepth 100000 in
theorem c_X3_size (l : Launch) (g : hG) (M : hM) (N Z : gT) (x kp pf bs h nm ms sc sa fo : Nat) (br : Nat → Nat) (kf : Nat → Option Nat) (nw : Option Nat) (fm fs fa ff : Nat → Int32) (rv : Nat → Nat → Int32) (σ : cSt) (hC : CX g M N Z x kp pf bs h nm ms sc sa fo br kf nw fm fs fa ff rv σ) (v0 : Int32) : Ci l g yX3_size cX3_size 2 .int 2 0 0 [.ref x, .int v0] M (fun r M9 => r = rSize σ v0 ∧ M9 = M) := by
  have hC0 := hC
  obtain ⟨hW, hH, e_x, e_kp, e_pf, e_bs, e_br, e_fo, hDA, hZn, hok, hvs, hnw, hsb⟩ := hC
  obtain ⟨hkc, hvg, hgn, hpl, hpk⟩ := hok
  refine hp_startI (by decide) (by exact Nat.le_of_ble_eq_true rfl) ?_
  intro p e s m below meth c Q H locs ls EE hnm ret hm hS hl
  have hx := EE.1
  have hb := EE.2.1
  have hown := EE.2.2.2.1
  have hts := EE.2.2.2.2.1
  have hl : lv_has ls 2 [(0, .ref x), (1, .int v0)] := hl
  refine lv_aload_n hx hb dX3_size_0 rfl (lv_at hl 0 rfl) ?_
  refine lv_iload_n hx hb dX3_size_1 rfl (lv_at hl 1 rfl) ?_
  refine hp_ci (hp_runV (C := RX3) (T := TX3) (N := 6) (np := 1) (k := 1) (mc := 0) (ms := 0) (As := [.int v0]) (rest := []) EE hm hS (c_X3_isVersion l g M N Z x kp pf bs h nm ms sc sa fo br kf nw fm fs fa ff rv σ hC0 v0) ms_X3_isVersion wi_X3_isVersion ws_X3_isVersion wl_X3_64 e_x rfl rfl hl.1 rfl (Nat.le_of_ble_eq_true rfl) dX3_size_2 ⟨Nat.le_of_ble_eq_true rfl, Nat.le_of_ble_eq_true rfl⟩ ⟨(Nat.le_of_ble_eq_true rfl), (Nat.le_of_ble_eq_true rfl)⟩) hS (fun r1 Mx2 H locs hq3 hm hS => ?_)
  obtain ⟨rfl, h9⟩ := hq3
  rw [h9] at hm
  refine lv_if_eq (tgt := 19) hx hb dX3_size_5 (by decide) (fun c_5 => ?_) (fun c_5 => ?_)
  · have c_5 := bI_f c_5
    refine lv_iconst (v := (-1)) hx hb dX3_size_19 (by decide) ?_
    exact ret dX3_size_20 na_i hm hS (Nat.le_of_ble_eq_true rfl) (Nat.le_of_ble_eq_true rfl) (⟨by unfold rSize; rw [c_5]; rfl, rfl⟩)
  · have c_5 := bI_t c_5
    refine lv_aload_n hx hb dX3_size_8 rfl (lv_at hl 0 rfl) ?_
    refine lv_iload_n hx hb dX3_size_9 rfl (lv_at hl 1 rfl) ?_
    refine hp_cq (hp_runV (C := RX3) (T := TX3) (N := 6) (np := 1) (k := 1) (mc := 0) (ms := 0) (As := [.int v0]) (rest := []) EE hm hS (c_X3_rootOf l g M N Z x kp pf bs h nm ms sc sa fo br kf nw fm fs fa ff rv σ hC0 v0) ms_X3_rootOf wi_X3_rootOf ws_X3_rootOf wl_X3_69 e_x rfl rfl hl.1 rfl (Nat.le_of_ble_eq_true rfl) dX3_size_10 ⟨Nat.le_of_ble_eq_true rfl, Nat.le_of_ble_eq_true rfl⟩ ⟨(Nat.le_of_ble_eq_true rfl), (Nat.le_of_ble_eq_true rfl)⟩) hS (fun r4 Mx5 H locs hq6 hm hS => ?_)
    obtain ⟨hro, h9⟩ := hq6
    rw [h9] at hm
    have hrt := rootR_rt hkc hvs hnw c_5
    rw [← hro] at hrt
    have hgm := mapV_g ⟨hkc, hvg, hgn, hpl, hpk⟩ c_5
    refine hp_ci (hp_runS (np := 1) (k := 1) (mc := 0) (ms := 0) (As := [va_rf r4]) (rest := []) EE hm hS (c_X3_countOf l g M N Z hW r4 16 _ hrt) ms_X3_countOf wt_X3_countOf wl_X3_53 rfl hl.1 rfl (Nat.le_of_ble_eq_true rfl) dX3_size_13 ⟨Nat.le_of_ble_eq_true rfl, Nat.le_of_ble_eq_true rfl⟩ ⟨(Nat.le_of_ble_eq_true rfl), (Nat.le_of_ble_eq_true rfl)⟩) hS (fun r7 Mx8 H locs hq9 hm hS => ?_)
    obtain ⟨rfl, h9⟩ := hq9
    rw [h9] at hm
    refine lv_goto (tgt := 20) hx hb dX3_size_16 (by decide) ?_
    exact ret dX3_size_20 na_i hm hS (Nat.le_of_ble_eq_true rfl) (Nat.le_of_ble_eq_true rfl) (⟨by unfold rSize; rw [c_5]; rfl, rfl⟩)
set_option maxHeartbeats 4000000 in
set_option maxRecDepth 100000 in
theorem c_X3_get (l : Launch) (g : hG) (M : hM) (N Z : gT) (x kp pf bs h nm ms sc sa fo : Nat) (br : Nat → Nat) (kf : Nat → Option Nat) (nw : Option Nat) (fm fs fa ff : Nat → Int32) (rv : Nat → Nat → Int32) (σ : cSt) (hC : CX g M N Z x kp pf bs h nm ms sc sa fo br kf nw fm fs fa ff rv σ) (v0 k0 : Int32) : Cl l g yX3_get cX3_get 4 4 0 0 [.ref x, .int v0, .int k0] M (fun r M9 => r = rGet σ v0 k0 ∧ M9 = M) := by
  have hC0 := hC
  obtain ⟨hW, hH, e_x, e_kp, e_pf, e_bs, e_br, e_fo, hDA, hZn, hok, hvs, hnw, hsb⟩ := hC
  obtain ⟨hkc, hvg, hgn, hpl, hpk⟩ := hok
  refine hp_startL (by decide) (by exact Nat.le_of_ble_eq_true rfl) ?_
  intro p e s m below meth c Q H locs ls EE hnm ret hm hS hl
  have hx := EE.1
  have hb := EE.2.1
  have hown := EE.2.2.2.1
  have hts := EE.2.2.2.2.1
  have hl : lv_has ls 4 [(0, .ref x), (1, .int v0), (2, .int k0)] := hl
  refine lv_aload_n hx hb dX3_get_0 rfl (lv_at hl 0 rfl) ?_
  refine lv_iload_n hx hb dX3_get_1 rfl (lv_at hl 1 rfl) ?_
  refine hp_ci (hp_runV (C := RX3) (T := TX3) (N := 6) (np := 1) (k := 1) (mc := 0) (ms := 0) (As := [.int v0]) (rest := []) EE hm hS (c_X3_isVersion l g M N Z x kp pf bs h nm ms sc sa fo br kf nw fm fs fa ff rv σ hC0 v0) ms_X3_isVersion wi_X3_isVersion ws_X3_isVersion wl_X3_64 e_x rfl rfl hl.1 rfl (Nat.le_of_ble_eq_true rfl) dX3_get_2 ⟨Nat.le_of_ble_eq_true rfl, Nat.le_of_ble_eq_true rfl⟩ ⟨(Nat.le_of_ble_eq_true rfl), (Nat.le_of_ble_eq_true rfl)⟩) hS (fun r1 Mx2 H locs hq3 hm hS => ?_)
  obtain ⟨rfl, h9⟩ := hq3
  rw [h9] at hm
  refine lv_if_eq (tgt := 15) hx hb dX3_get_5 (by decide) (fun c_5 => ?_) (fun c_5 => ?_)
  · have c_5 := bI_f c_5
    refine lv_ldc2 (v := 9223372036854775807) hx hb hown (hts _ wk_X3_67) dX3_get_15 ?_
    exact ret dX3_get_18 hm hS (Nat.le_of_ble_eq_true rfl) (Nat.le_of_ble_eq_true rfl) (⟨by unfold rGet; first | (rw [c_5]; rfl) | (rw [c_5, c_12]; rfl), rfl⟩)
  · have c_5 := bI_t c_5
    refine lv_iload_n hx hb dX3_get_8 rfl (lv_at hl 2 rfl) ?_
    refine hp_ci (hp_runS (np := 1) (k := 1) (mc := 0) (ms := 0) (As := [.int k0]) (rest := []) EE hm hS (c_X3_isKey l g M k0) ms_X3_isKey wt_X3_isKey wl_X3_41 rfl hl.1 rfl (Nat.le_of_ble_eq_true rfl) dX3_get_9 ⟨Nat.le_of_ble_eq_true rfl, Nat.le_of_ble_eq_true rfl⟩ ⟨(Nat.le_of_ble_eq_true rfl), (Nat.le_of_ble_eq_true rfl)⟩) hS (fun r4 Mx5 H locs hq6 hm hS => ?_)
    obtain ⟨rfl, h9⟩ := hq6
    rw [h9] at hm
    refine lv_if_ne (tgt := 19) hx hb dX3_get_12 (by decide) (fun c_12 => ?_) (fun c_12 => ?_)
    · have c_12 := bI_t c_12
      obtain ⟨kn, hkn, hke⟩ := isK_nat c_12
      subst hke
      refine lv_aload_n hx hb dX3_get_19 rfl (lv_at hl 0 rfl) ?_
      refine lv_iload_n hx hb dX3_get_20 rfl (lv_at hl 1 rfl) ?_
      refine hp_cq (hp_runV (C := RX3) (T := TX3) (N := 6) (np := 1) (k := 1) (mc := 0) (ms := 0) (As := [.int v0]) (rest := []) EE hm hS (c_X3_rootOf l g M N Z x kp pf bs h nm ms sc sa fo br kf nw fm fs fa ff rv σ hC0 v0) ms_X3_rootOf wi_X3_rootOf ws_X3_rootOf wl_X3_69 e_x rfl rfl hl.1 rfl (Nat.le_of_ble_eq_true rfl) dX3_get_21 ⟨Nat.le_of_ble_eq_true rfl, Nat.le_of_ble_eq_true rfl⟩ ⟨(Nat.le_of_ble_eq_true rfl), (Nat.le_of_ble_eq_true rfl)⟩) hS (fun r7 Mx8 H locs hq9 hm hS => ?_)
      obtain ⟨hro, h9⟩ := hq9
      rw [h9] at hm
      have hrt := rootR_rt hkc hvs hnw c_5
      rw [← hro] at hrt
      have hgm := mapV_g ⟨hkc, hvg, hgn, hpl, hpk⟩ c_5
      refine lv_iload_n hx hb dX3_get_24 rfl (lv_at hl 2 rfl) ?_
      refine hp_cq (hp_runS (np := 2) (k := 3) (mc := 0) (ms := 0) (As := [va_rf r7, .int (nI kn)]) (rest := []) EE hm hS (c_X3_endOf l g M N Z hW r7 _ hrt kn hkn) ms_X3_endOf wt_X3_endOf wl_X3_45 rfl hl.1 rfl (Nat.le_of_ble_eq_true rfl) dX3_get_25 ⟨Nat.le_of_ble_eq_true rfl, Nat.le_of_ble_eq_true rfl⟩ ⟨(Nat.le_of_ble_eq_true rfl), (Nat.le_of_ble_eq_true rfl)⟩) hS (fun r10 Mx11 H locs hq12 hm hS => ?_)
      obtain ⟨⟨ne, hre⟩, h9⟩ := hq12
      rw [h9] at hm
      have hlk := end_lk kn 16 _ (pre_16 hkn hgm.2.2) hgm.1
      refine hq_astore_n (lv' := [(3, va_rf r10), (0, .ref x), (1, .int v0), (2, .int (nI kn))]) hx hb dX3_get_28 rfl hl (by decide) rfl (fun ls hl => ?_)
      refine hq_aload_n hx hb dX3_get_29 rfl (lv_at hl 0 rfl) ?_
      refine hq_ifnull (tgt := 49) hx hb dX3_get_30 (by decide) (fun hn30 => ?_) (fun a hn30 => ?_)
      · subst hn30
        have hl : lv_has ls 4 [(3, .null), (0, .ref x), (1, .int v0), (2, .int (nI kn))] := hl
        have hre0 : endE 16 kn (mapV σ v0) = [] := hre
        rw [hre0] at hlk
        refine lv_ldc2 (v := 9223372036854775807) hx hb hown (hts _ wk_X3_67) dX3_get_49 ?_
        exact ret dX3_get_52 hm hS (Nat.le_of_ble_eq_true rfl) (Nat.le_of_ble_eq_true rfl) (⟨by unfold rGet; rw [c_5, c_12, nI_clamp (by omega), hlk]; rfl, rfl⟩)
      · subst hn30
        have hl : lv_has ls 4 [(3, .ref a), (0, .ref x), (1, .int v0), (2, .int (nI kn))] := hl
        have hre0 := hre
        obtain ⟨n0, hN, hne, hn2⟩ := hre
        obtain ⟨ky, vl, z, o, dg, e_a, hdg, hlen, hcase⟩ := hW.1 a n0 _ hN
        refine lv_aload_n hx hb dX3_get_33 rfl (lv_at hl 0 rfl) ?_
        refine lv_iload_n hx hb dX3_get_34 rfl (lv_at hl 3 rfl) ?_
        refine hp_ci (hp_runS (np := 2) (k := 1) (mc := 0) (ms := 0) (As := [.ref a, .int (nI kn)]) (rest := []) EE hm hS (c_X3_isEntry l g M N Z hW (some a) ne _ hre0 kn hkn) ms_X3_isEntry wt_X3_isEntry wl_X3_49 rfl hl.1 rfl (Nat.le_of_ble_eq_true rfl) dX3_get_35 ⟨Nat.le_of_ble_eq_true rfl, Nat.le_of_ble_eq_true rfl⟩ ⟨(Nat.le_of_ble_eq_true rfl), (Nat.le_of_ble_eq_true rfl)⟩) hS (fun r13 Mx14 H locs hq15 hm hS => ?_)
        obtain ⟨rfl, h9⟩ := hq15
        rw [h9] at hm
        refine lv_if_eq (tgt := 49) hx hb dX3_get_38 (by decide) (fun c_38 => ?_) (fun c_38 => ?_)
        · have c_38 := bI_f c_38
          refine lv_ldc2 (v := 9223372036854775807) hx hb hown (hts _ wk_X3_67) dX3_get_49 ?_
          exact ret dX3_get_52 hm hS (Nat.le_of_ble_eq_true rfl) (Nat.le_of_ble_eq_true rfl) (⟨by unfold rGet; rw [c_5, c_12, nI_clamp (by omega), hlk, c_38]; rfl, rfl⟩)
        · have c_38 := bI_t c_38
          have hvl : vaE (endE 16 kn (mapV σ v0)) = vl := by
            rcases hcase with ⟨k9, h1, -⟩ | ⟨n9, -, -, h2, -⟩
            · rw [h1]; rfl
            · exfalso
              generalize endE 16 kn (mapV σ v0) = E9 at h2 c_38
              match E9, h2 with
              | x :: y :: t, _ => exact absurd c_38 (by simp [isEn])
          refine lv_aload_n hx hb dX3_get_41 rfl (lv_at hl 0 rfl) ?_
          refine hp_get (C := RX1) (T := TX1) (N := 6) (v := .int vl) EE hm e_a inh1 rfl 2 (by decide) wf_X3_73 rfl dX3_get_42 ?_
          refine lv_i2l (v := vl.toInt64) hx hb dX3_get_45 rfl ?_
          refine lv_goto (tgt := 52) hx hb dX3_get_46 (by decide) ?_
          exact ret dX3_get_52 hm hS (Nat.le_of_ble_eq_true rfl) (Nat.le_of_ble_eq_true rfl) (⟨by unfold rGet; rw [c_5, c_12, nI_clamp (by omega), hlk, c_38, hvl]; rfl, rfl⟩)
    · have c_12 := bI_f c_12
      refine lv_ldc2 (v := 9223372036854775807) hx hb hown (hts _ wk_X3_67) dX3_get_15 ?_
      exact ret dX3_get_18 hm hS (Nat.le_of_ble_eq_true rfl) (Nat.le_of_ble_eq_true rfl) (⟨by unfold rGet; first | (rw [c_5]; rfl) | (rw [c_5, c_12]; rfl), rfl⟩)
set_option maxHeartbeats 4000000 in
set_option maxRecDepth 100000 in
theorem c_X3_sibling (l : Launch) (g : hG) (M : hM) (N Z : gT) (x kp pf bs h nm ms sc sa fo : Nat) (br : Nat → Nat) (kf : Nat → Option Nat) (nw : Option Nat) (fm fs fa ff : Nat → Int32) (rv : Nat → Nat → Int32) (σ : cSt) (hC : CX g M N Z x kp pf bs h nm ms sc sa fo br kf nw fm fs fa ff rv σ) (k0 i0 : Int32) : Ci l g yX3_sibling cX3_sibling 3 .int 2 0 0 [.ref x, .int k0, .int i0] M (fun r M9 => r = rSib σ k0 i0 ∧ M9 = M) := by
  have hC0 := hC
  obtain ⟨hW, hH, e_x, e_kp, e_pf, e_bs, e_br, e_fo, hDA, hZn, hok, hvs, hnw, hsb⟩ := hC
  obtain ⟨hkc, hvg, hgn, hpl, hpk⟩ := hok
  refine hp_startI (by decide) (by exact Nat.le_of_ble_eq_true rfl) ?_
  intro p e s m below meth c Q H locs ls EE hnm ret hm hS hl
  have hx := EE.1
  have hb := EE.2.1
  have hown := EE.2.2.2.1
  have hts := EE.2.2.2.2.1
  have hl : lv_has ls 3 [(0, .ref x), (1, .int k0), (2, .int i0)] := hl
  refine lv_aload_n hx hb dX3_sibling_0 rfl (lv_at hl 0 rfl) ?_
  refine lv_iload_n hx hb dX3_sibling_1 rfl (lv_at hl 1 rfl) ?_
  refine hp_ci (hp_runV (C := RX3) (T := TX3) (N := 6) (np := 1) (k := 1) (mc := 0) (ms := 0) (As := [.int k0]) (rest := []) EE hm hS (c_X3_isSibling l g M N Z x kp pf bs h nm ms sc sa fo br kf nw fm fs fa ff rv σ hC0 k0) ms_X3_isSibling wi_X3_isSibling ws_X3_isSibling wl_X3_111 e_x rfl rfl hl.1 rfl (Nat.le_of_ble_eq_true rfl) dX3_sibling_2 ⟨Nat.le_of_ble_eq_true rfl, Nat.le_of_ble_eq_true rfl⟩ ⟨(Nat.le_of_ble_eq_true rfl), (Nat.le_of_ble_eq_true rfl)⟩) hS (fun r1 Mx2 H locs hq3 hm hS => ?_)
  obtain ⟨rfl, h9⟩ := hq3
  rw [h9] at hm
  refine lv_if_eq (tgt := 29) hx hb dX3_sibling_5 (by decide) (fun c_5 => ?_) (fun c_5 => ?_)
  · have c_5 := bI_f c_5
    refine lv_iconst (v := 0) hx hb dX3_sibling_29 (by decide) ?_
    exact ret dX3_sibling_30 na_i hm hS (Nat.le_of_ble_eq_true rfl) (Nat.le_of_ble_eq_true rfl) (⟨by unfold rSib; first | (rw [c_5]; rfl) | (rw [c_5, c_12]; rfl), rfl⟩)
  · have c_5 := bI_t c_5
    refine lv_iload_n hx hb dX3_sibling_8 rfl (lv_at hl 2 rfl) ?_
    refine hp_ci (hp_runS (np := 1) (k := 1) (mc := 0) (ms := 0) (As := [.int i0]) (rest := []) EE hm hS (c_X3_isWord l g M i0) ms_X3_isWord wt_X3_isWord wl_X3_76 rfl hl.1 rfl (Nat.le_of_ble_eq_true rfl) dX3_sibling_9 ⟨Nat.le_of_ble_eq_true rfl, Nat.le_of_ble_eq_true rfl⟩ ⟨(Nat.le_of_ble_eq_true rfl), (Nat.le_of_ble_eq_true rfl)⟩) hS (fun r4 Mx5 H locs hq6 hm hS => ?_)
    obtain ⟨rfl, h9⟩ := hq6
    rw [h9] at hm
    refine lv_if_eq (tgt := 29) hx hb dX3_sibling_12 (by decide) (fun c_12 => ?_) (fun c_12 => ?_)
    · have c_12 := bI_f c_12
      refine lv_iconst (v := 0) hx hb dX3_sibling_29 (by decide) ?_
      exact ret dX3_sibling_30 na_i hm hS (Nat.le_of_ble_eq_true rfl) (Nat.le_of_ble_eq_true rfl) (⟨by unfold rSib; first | (rw [c_5]; rfl) | (rw [c_5, c_12]; rfl), rfl⟩)
    · have c_12 := bI_t c_12
      obtain ⟨i, hi, hie⟩ := isS_nat hpl c_5
      obtain ⟨j, hj, hje⟩ := isW_nat c_12
      have e_b := e_br i (by omega)
      refine lv_aload_n hx hb dX3_sibling_15 rfl (lv_at hl 0 rfl) ?_
      refine hp_get (C := RX3) (T := TX3) (N := 6) (v := .ref pf) EE hm e_x inh3 rfl 3 (by decide) wf_X3_26 rfl dX3_sibling_16 ?_
      refine hp_get (C := RX2) (T := TX2) (N := 5) (v := .ref bs) EE hm e_pf inh2 rfl 0 (by decide) wf_X3_91 rfl dX3_sibling_19 ?_
      refine lv_iload_n hx hb dX3_sibling_22 rfl (lv_at hl 1 rfl) ?_
      refine hp_aaldRN EE hm e_bs i hie (by omega) (by decide) dX3_sibling_23 ?_
      refine lv_iload_n hx hb dX3_sibling_24 rfl (lv_at hl 2 rfl) ?_
      refine hp_ialdN EE hm e_b j hje (by omega) (by decide) dX3_sibling_25 ?_
      refine lv_goto (tgt := 30) hx hb dX3_sibling_26 (by decide) ?_
      exact ret dX3_sibling_30 na_i hm hS (Nat.le_of_ble_eq_true rfl) (Nat.le_of_ble_eq_true rfl) (⟨by unfold rSib; rw [c_5, c_12, hie, hje, nI_clamp (by omega), nI_clamp (by omega)]; exact hsb i hi j hj, rfl⟩)
theorem tsw3 (w : Int32) : w = 0 ∨ w = 1 ∨ w = 2 ∨ ((w.toInt < 0 ∨ 2 < w.toInt) ∧ w ≠ 0 ∧ w ≠ 1 ∧ w ≠ 2) := by
  by_cases h0 : w = 0
  · exact Or.inl h0
  by_cases h1 : w = 1
  · exact Or.inr (Or.inl h1)
  by_cases h2 : w = 2
  · exact Or.inr (Or.inr (Or.inl h2))
  refine Or.inr (Or.inr (Or.inr ⟨?_, h0, h1, h2⟩))
  have e0 : (0 : Int32).toInt = 0 := by decide
  have e1 : (1 : Int32).toInt = 1 := by decide
  have e2 : (2 : Int32).toInt = 2 := by decide
  have n0 : w.toInt ≠ 0 := fun h => h0 (Int32.toInt_inj.mp (h.trans e0.symm))
  have n1 : w.toInt ≠ 1 := fun h => h1 (Int32.toInt_inj.mp (h.trans e1.symm))
  have n2 : w.toInt ≠ 2 := fun h => h2 (Int32.toInt_inj.mp (h.trans e2.symm))
  omega
set_option maxHeartbeats 4000000 in
set_option maxRecDepth 100000 in
theorem c_X3_end (l : Launch) (g : hG) (M : hM) (N Z : gT) (x kp pf bs h nm ms sc sa fo : Nat) (br : Nat → Nat) (kf : Nat → Option Nat) (nw : Option Nat) (fm fs fa ff : Nat → Int32) (rv : Nat → Nat → Int32) (σ : cSt) (hC : CX g M N Z x kp pf bs h nm ms sc sa fo br kf nw fm fs fa ff rv σ) (w0 : Int32) : Ci l g yX3_end cX3_end 2 .int 1 0 0 [.ref x, .int w0] M (fun r M9 => r = rEnd σ w0 ∧ M9 = M) := by
  have hC0 := hC
  obtain ⟨hW, hH, e_x, e_kp, e_pf, e_bs, e_br, e_fo, hDA, hZn, hok, hvs, hnw, hsb⟩ := hC
  obtain ⟨hkc, hvg, hgn, hpl, hpk⟩ := hok
  refine hp_startI (by decide) (by exact Nat.le_of_ble_eq_true rfl) ?_
  intro p e s m below meth c Q H locs ls EE hnm ret hm hS hl
  have hx := EE.1
  have hb := EE.2.1
  have hown := EE.2.2.2.1
  have hts := EE.2.2.2.2.1
  have hl : lv_has ls 2 [(0, .ref x), (1, .int w0)] := hl
  refine lv_iload_n hx hb dX3_end_0 rfl (lv_at hl 1 rfl) ?_
  rcases tsw3 w0 with rfl | rfl | rfl | ⟨hw, hw0, hw1, hw2⟩
  · refine lv_tableIn (tgt := 28) hx hb dX3_end_1 (by decide) (by decide) rfl (by decide) ?_
    refine lv_aload_n hx hb dX3_end_28 rfl (lv_at hl 0 rfl) ?_
    refine hp_get (C := RX3) (T := TX3) (N := 6) (v := .ref pf) EE hm e_x inh3 rfl 3 (by decide) wf_X3_26 rfl dX3_end_29 ?_
    refine hp_get (C := RX2) (T := TX2) (N := 5) (v := .int (bI (sPe σ))) EE hm e_pf inh2 rfl 2 (by decide) wf_X3_114 rfl dX3_end_32 ?_
    refine lv_if_eq (tgt := 42) hx hb dX3_end_35 (by decide) (fun c_35 => ?_) (fun c_35 => ?_)
    · have c_35 := bI_f c_35
      refine lv_iconst (v := 0) hx hb dX3_end_42 (by decide) ?_
      exact ret dX3_end_43 na_i hm hS (Nat.le_of_ble_eq_true rfl) (Nat.le_of_ble_eq_true rfl) (⟨by unfold rEnd; rw [if_pos rfl, c_35]; rfl, rfl⟩)
    · have c_35 := bI_t c_35
      refine lv_iconst (v := 1) hx hb dX3_end_38 (by decide) ?_
      refine lv_goto (tgt := 43) hx hb dX3_end_39 (by decide) ?_
      exact ret dX3_end_43 na_i hm hS (Nat.le_of_ble_eq_true rfl) (Nat.le_of_ble_eq_true rfl) (⟨by unfold rEnd; rw [if_pos rfl, c_35]; rfl, rfl⟩)
  · refine lv_tableIn (tgt := 44) hx hb dX3_end_1 (by decide) (by decide) rfl (by decide) ?_
    refine lv_aload_n hx hb dX3_end_44 rfl (lv_at hl 0 rfl) ?_
    refine hp_get (C := RX3) (T := TX3) (N := 6) (v := .ref pf) EE hm e_x inh3 rfl 3 (by decide) wf_X3_26 rfl dX3_end_45 ?_
    refine hp_get (C := RX2) (T := TX2) (N := 5) (v := .int (sPk σ)) EE hm e_pf inh2 rfl 3 (by decide) wf_X3_118 rfl dX3_end_48 ?_
    exact ret dX3_end_51 na_i hm hS (Nat.le_of_ble_eq_true rfl) (Nat.le_of_ble_eq_true rfl) (⟨by unfold rEnd; rw [if_neg (by decide), if_pos rfl], rfl⟩)
  · refine lv_tableIn (tgt := 52) hx hb dX3_end_1 (by decide) (by decide) rfl (by decide) ?_
    refine lv_aload_n hx hb dX3_end_52 rfl (lv_at hl 0 rfl) ?_
    refine hp_get (C := RX3) (T := TX3) (N := 6) (v := .ref pf) EE hm e_x inh3 rfl 3 (by decide) wf_X3_26 rfl dX3_end_53 ?_
    refine hp_get (C := RX2) (T := TX2) (N := 5) (v := .int (sPv σ)) EE hm e_pf inh2 rfl 4 (by decide) wf_X3_119 rfl dX3_end_56 ?_
    exact ret dX3_end_59 na_i hm hS (Nat.le_of_ble_eq_true rfl) (Nat.le_of_ble_eq_true rfl) (⟨by unfold rEnd; rw [if_neg (by decide), if_neg (by decide), if_pos rfl], rfl⟩)
  · refine lv_tableOut (tgt := 60) hx hb dX3_end_1 hw (by decide) ?_
    refine lv_iconst (v := (-1)) hx hb dX3_end_60 (by decide) ?_
    exact ret dX3_end_61 na_i hm hS (Nat.le_of_ble_eq_true rfl) (Nat.le_of_ble_eq_true rfl) (⟨by unfold rEnd; rw [if_neg hw0, if_neg hw1, if_neg hw2], rfl⟩)
set_option maxHeartbeats 4000000 in
set_option maxRecDepth 100000 in
theorem c_X3_sameFirstBits (l : Launch) (g : hG) (M : hM) (a b : Nat) (ha : a < 65536) (hb0 : b < 65536) : Ci l g yX3_sameFirstBits cX3_sameFirstBits 3 .int 2 0 0 [.int (nI a), .int (nI b)] M (fun r M9 => r = nI (alk 16 a b) ∧ M9 = M) := by
  refine hp_startI (by decide) (by exact Nat.le_of_ble_eq_true rfl) ?_
  intro p e s m below meth c Q H locs ls EE hnm ret hm hS hl
  have hx := EE.1
  have hb := EE.2.1
  have hown := EE.2.2.2.1
  have hts := EE.2.2.2.2.1
  have hl : lv_has ls 3 [(0, .int (nI a)), (1, .int (nI b))] := hl
  refine lv_iconst (v := 0) hx hb dX3_sameFirstBits_0 (by decide) ?_
  refine lv_istore_n (lv' := [(2, .int 0), (0, .int (nI a)), (1, .int (nI b))]) hx hb dX3_sameFirstBits_1 rfl hl (by decide) rfl (fun ls hl => ?_)
  have lp : ∀ (n d : Nat) (nn : Nat) (H : Heap) (locs : List Loc) (ls : Array Slot), 17 ≤ d + n → d + nn = 16 → d + alk nn a b = alk 16 a b → hp g M H → va_S (hA g) s.heap H locs → lv_has ls 3 [(2, .int (nI d)), (0, .int (nI a)), (1, .int (nI b))] → W p l e (hR 2 0 0) s m [.int (nI a), .int (nI b)].toArray below meth c H locs 0 0 Q (F0 m 2 ls []) := by
    intro n
    induction n with
    | zero => intro d nn H locs ls hn hd hen; exact absurd hn (by omega)
    | succ n ih =>
      intro d nn H locs ls hn hd hen hm hS hl
      refine lv_iload_n hx hb dX3_sameFirstBits_2 rfl (lv_at hl 0 rfl) ?_
      refine lv_bipush (v := 16) hx hb dX3_sameFirstBits_3 (by decide) ?_
      refine lv_icmp_ge (tgt := 27) hx hb dX3_sameFirstBits_5 (by decide) (fun c_5 => ?_) (fun c_5 => ?_)
      · have c_5 : 16 ≤ d := (nI_leI (a := 16) (b := d) (by decide) (by omega)).mp c_5
        have hn0 : nn = 0 := by omega
        subst hn0
        refine lv_iload_n hx hb dX3_sameFirstBits_27 rfl (lv_at hl 0 rfl) ?_
        exact ret dX3_sameFirstBits_28 na_i hm hS (Nat.le_of_ble_eq_true rfl) (Nat.le_of_ble_eq_true rfl) (⟨by rw [← hen]; rfl, rfl⟩)
      · have c_5 : ¬ 16 ≤ d := fun h9 => c_5 ((nI_leI (a := 16) (b := d) (by decide) (by omega)).mpr h9)
        obtain ⟨n1, hn1⟩ : ∃ n1, nn = n1 + 1 := ⟨nn - 1, by omega⟩
        subst hn1
        refine lv_iload_n hx hb dX3_sameFirstBits_8 rfl (lv_at hl 1 rfl) ?_
        refine lv_iload_n hx hb dX3_sameFirstBits_9 rfl (lv_at hl 0 rfl) ?_
        refine hp_ci (hp_runS (np := 2) (k := 1) (mc := 0) (ms := 0) (As := [.int (nI a), .int (nI d)]) (rest := []) EE hm hS (c_X3_bitAt l g M (nI a) (nI d)) ms_X3_bitAt wt_X3_bitAt wl_X3_83 rfl hl.1 rfl (Nat.le_of_ble_eq_true rfl) dX3_sameFirstBits_10 ⟨Nat.le_of_ble_eq_true rfl, Nat.le_of_ble_eq_true rfl⟩ ⟨(Nat.le_of_ble_eq_true rfl), (Nat.le_of_ble_eq_true rfl)⟩) hS (fun r1 Mx2 H locs hq3 hm hS => ?_)
        obtain ⟨hr9, h9⟩ := hq3
        rw [h9] at hm
        rw [bitA_n ha (show d + n1 = 15 by omega)] at hr9
        subst hr9
        refine lv_iload_n hx hb dX3_sameFirstBits_13 rfl (lv_at hl 2 rfl) ?_
        refine lv_iload_n hx hb dX3_sameFirstBits_14 rfl (lv_at hl 0 rfl) ?_
        refine hp_ci (hp_runS (np := 2) (k := 1) (mc := 0) (ms := 0) (As := [.int (nI b), .int (nI d)]) (rest := [.int (bI (a.testBit n1))]) EE hm hS (c_X3_bitAt l g M (nI b) (nI d)) ms_X3_bitAt wt_X3_bitAt wl_X3_83 rfl hl.1 rfl (Nat.le_of_ble_eq_true rfl) dX3_sameFirstBits_15 ⟨Nat.le_of_ble_eq_true rfl, Nat.le_of_ble_eq_true rfl⟩ ⟨(Nat.le_of_ble_eq_true rfl), (Nat.le_of_ble_eq_true rfl)⟩) hS (fun r4 Mx5 H locs hq6 hm hS => ?_)
        obtain ⟨hr9, h9⟩ := hq6
        rw [h9] at hm
        rw [bitA_n hb0 (show d + n1 = 15 by omega)] at hr9
        subst hr9
        refine lv_icmp_ne (tgt := 27) hx hb dX3_sameFirstBits_18 (by decide) (fun c_18 => ?_) (fun c_18 => ?_)
        · refine lv_iload_n hx hb dX3_sameFirstBits_27 rfl (lv_at hl 0 rfl) ?_
          exact ret dX3_sameFirstBits_28 na_i hm hS (Nat.le_of_ble_eq_true rfl) (Nat.le_of_ble_eq_true rfl) (⟨by rw [← hen]; show _ = nI (d + (if a.testBit n1 = b.testBit n1 then alk n1 a b + 1 else 0)); rw [if_neg (fun q => c_18 (by rw [q]))]; rfl, rfl⟩)
        · refine lv_iinc (v := nI (d + 1)) (lv' := [(2, .int (nI (d + 1))), (0, .int (nI a)), (1, .int (nI b))]) hx hb dX3_sameFirstBits_21 hl (k := 0) rfl (nI_1 _) (by decide) rfl (fun ls hl => ?_)
          refine lv_goto (tgt := 2) hx hb dX3_sameFirstBits_24 (by decide) ?_
          exact ih (d + 1) n1 H locs ls (by omega) (by omega) (by rw [← hen]; show d + 1 + alk n1 a b = d + (if a.testBit n1 = b.testBit n1 then alk n1 a b + 1 else 0); rw [if_pos (bI_inj c_18)]; omega) hm hS (lv_sub hl [0, 1, 2] rfl)
  exact lp 17 0 16 H locs ls (by omega) (by omega) (Nat.zero_add _) hm hS (lv_sub hl [0, 1, 2] rfl)
set_option maxHeartbeats 4000000 in
set_option maxRecDepth 100000 in
theorem c_X3_alike (l : Launch) (g : hG) (M : hM) (x : Nat) (a0 b0 : Int32) : Ci l g yX3_alike cX3_alike 3 .int 3 0 0 [.ref x, .int a0, .int b0] M (fun r M9 => r = rAlike a0 b0 ∧ M9 = M) := by
  refine hp_startI (by decide) (by exact Nat.le_of_ble_eq_true rfl) ?_
  intro p e s m below meth c Q H locs ls EE hnm ret hm hS hl
  have hx := EE.1
  have hb := EE.2.1
  have hown := EE.2.2.2.1
  have hts := EE.2.2.2.2.1
  have hl : lv_has ls 3 [(0, .ref x), (1, .int a0), (2, .int b0)] := hl
  refine lv_iload_n hx hb dX3_alike_0 rfl (lv_at hl 1 rfl) ?_
  refine hp_ci (hp_runS (np := 1) (k := 1) (mc := 0) (ms := 0) (As := [.int a0]) (rest := []) EE hm hS (c_X3_isKey l g M a0) ms_X3_isKey wt_X3_isKey wl_X3_41 rfl hl.1 rfl (Nat.le_of_ble_eq_true rfl) dX3_alike_1 ⟨Nat.le_of_ble_eq_true rfl, Nat.le_of_ble_eq_true rfl⟩ ⟨(Nat.le_of_ble_eq_true rfl), (Nat.le_of_ble_eq_true rfl)⟩) hS (fun r1 Mx2 H locs hq3 hm hS => ?_)
  obtain ⟨rfl, h9⟩ := hq3
  rw [h9] at hm
  refine lv_if_eq (tgt := 22) hx hb dX3_alike_4 (by decide) (fun c_4 => ?_) (fun c_4 => ?_)
  · have c_4 := bI_f c_4
    refine lv_iconst (v := (-1)) hx hb dX3_alike_22 (by decide) ?_
    exact ret dX3_alike_23 na_i hm hS (Nat.le_of_ble_eq_true rfl) (Nat.le_of_ble_eq_true rfl) (⟨by unfold rAlike; first | (rw [c_4]; rfl) | (rw [c_4, c_11]; rfl), rfl⟩)
  · have c_4 := bI_t c_4
    refine lv_iload_n hx hb dX3_alike_7 rfl (lv_at hl 2 rfl) ?_
    refine hp_ci (hp_runS (np := 1) (k := 1) (mc := 0) (ms := 0) (As := [.int b0]) (rest := []) EE hm hS (c_X3_isKey l g M b0) ms_X3_isKey wt_X3_isKey wl_X3_41 rfl hl.1 rfl (Nat.le_of_ble_eq_true rfl) dX3_alike_8 ⟨Nat.le_of_ble_eq_true rfl, Nat.le_of_ble_eq_true rfl⟩ ⟨(Nat.le_of_ble_eq_true rfl), (Nat.le_of_ble_eq_true rfl)⟩) hS (fun r4 Mx5 H locs hq6 hm hS => ?_)
    obtain ⟨rfl, h9⟩ := hq6
    rw [h9] at hm
    refine lv_if_eq (tgt := 22) hx hb dX3_alike_11 (by decide) (fun c_11 => ?_) (fun c_11 => ?_)
    · have c_11 := bI_f c_11
      refine lv_iconst (v := (-1)) hx hb dX3_alike_22 (by decide) ?_
      exact ret dX3_alike_23 na_i hm hS (Nat.le_of_ble_eq_true rfl) (Nat.le_of_ble_eq_true rfl) (⟨by unfold rAlike; first | (rw [c_4]; rfl) | (rw [c_4, c_11]; rfl), rfl⟩)
    · have c_11 := bI_t c_11
      obtain ⟨a, ha, hae⟩ := isK_nat c_4
      obtain ⟨b, hb0, hbe⟩ := isK_nat c_11
      subst hae
      subst hbe
      refine lv_iload_n hx hb dX3_alike_14 rfl (lv_at hl 1 rfl) ?_
      refine lv_iload_n hx hb dX3_alike_15 rfl (lv_at hl 2 rfl) ?_
      refine hp_ci (hp_runS (np := 2) (k := 2) (mc := 0) (ms := 0) (As := [.int (nI a), .int (nI b)]) (rest := []) EE hm hS (c_X3_sameFirstBits l g M a b ha hb0) ms_X3_sameFirstBits wt_X3_sameFirstBits wl_X3_120 rfl hl.1 rfl (Nat.le_of_ble_eq_true rfl) dX3_alike_16 ⟨Nat.le_of_ble_eq_true rfl, Nat.le_of_ble_eq_true rfl⟩ ⟨(Nat.le_of_ble_eq_true rfl), (Nat.le_of_ble_eq_true rfl)⟩) hS (fun r7 Mx8 H locs hq9 hm hS => ?_)
      obtain ⟨rfl, h9⟩ := hq9
      rw [h9] at hm
      refine lv_goto (tgt := 23) hx hb dX3_alike_19 (by decide) ?_
      exact ret dX3_alike_23 na_i hm hS (Nat.le_of_ble_eq_true rfl) (Nat.le_of_ble_eq_true rfl) (⟨by unfold rAlike; rw [c_4, c_11, nI_clamp (by omega), nI_clamp (by omega)]; rfl, rfl⟩)
