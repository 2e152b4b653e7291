section CXD
variable {g : hG} {M M9 : hM} {N Z Z9 : gT} {x kp pf bs h nm ms sc sa fo : Nat} {br : Nat → Nat} {kf : Nat → Option Nat} {nw : Option Nat} {fm fs fa ff fm9 fs9 fa9 : Nat → Int32} {rv : Nat → Nat → Int32} {σ : cSt}
/-- nothing but the class's own has changed, u digests have come to be known -/
def CR (M : hM) (N Z : gT) (x kp pf ms sc sa fo : Nat) (br : Nat → Nat) (M9 : hM) (Z9 : gT) (u : Nat) : Prop := (∀ q e, M q = some e → ¬ ow (nz N Z) x kp pf ms sc sa fo br q → M9 q = some e ∧ ¬ ow (nz N Z9) x kp pf ms sc sa fo br q) ∧ ∀ c, pt M c → ∃ c9, pt M9 c9 ∧ c9 + u ≤ c
theorem CR.rf : CR M N Z x kp pf ms sc sa fo br M Z 0 := ⟨fun _ _ h h2 => ⟨h, h2⟩, fun c hc => ⟨c, hc, Nat.le_refl _⟩⟩
theorem CR.tr {M1 : hM} {Z1 : gT} {u1 u2 u : Nat} (h1 : CR M N Z x kp pf ms sc sa fo br M1 Z1 u1) (h2 : CR M1 N Z1 x kp pf ms sc sa fo br M9 Z9 u2) (hu : u ≤ u1 + u2) : CR M N Z x kp pf ms sc sa fo br M9 Z9 u := by
  refine ⟨fun q e he hn => h2.1 q e (h1.1 q e he hn).1 (h1.1 q e he hn).2, fun c hc => ?_⟩
  obtain ⟨c1, p1, e1⟩ := h1.2 c hc
  obtain ⟨c2, p2, e2⟩ := h2.2 c1 p1
  exact ⟨c2, p2, by omega⟩
theorem CR.CP {u : Nat} {σ9 : cSt} {kf9 : Nat → Option Nat} {nw9 : Option Nat} {ff9 : Nat → Int32} {rv9 : Nat → Nat → Int32} (hR : CR M N Z x kp pf ms sc sa fo br M9 Z9 u) (hC : CX g M9 N Z9 x kp pf bs h nm ms sc sa fo br kf9 nw9 fm9 fs9 fa9 ff9 rv9 σ9) : CP g M N Z x kp pf bs h nm ms sc sa fo br 0 u M9 σ9 :=
  ⟨N, Z9, kf9, nw9, fm9, fs9, fa9, ff9, rv9, hC, fun q e he hn => hR.1 q e he hn, fun c hc => by obtain ⟨c9, p9, e9⟩ := hR.2 c hc; exact ⟨c9, p9, by omega⟩⟩
theorem nu_of {n : Nat} {E : En} {q : Nat} (h : N q = none) : ¬ under N n E q := fun ⟨_, _, h1, _⟩ => by rw [h] at h1; cases h1
/-- digests have come to be known -/
theorem CX.dg {n u : Nat} {E : En} (hC : CX g M N Z x kp pf bs h nm ms sc sa fo br kf nw fm fs fa ff rv σ) (hW9 : WF g M9 N Z9) (hH9 : HS g M9 h nm ms sc sa fm9 fs9 fa9) (hR : dgR M N Z M9 Z9 n E ms sc sa u) : CX g M9 N Z9 x kp pf bs h nm ms sc sa fo br kf nw fm9 fs9 fa9 ff rv σ ∧ CR M N Z x kp pf ms sc sa fo br M9 Z9 u := by
  obtain ⟨hW, hH, e_x, e_kp, e_pf, e_bs, e_br, e_fo, hDA, hZn, hok, hvs, hnw, hsb⟩ := hC
  obtain ⟨q1, q2, q3, q4, ⟨fn, q5, q6⟩, q7, q8, q9, q10, q11, q12⟩ := hH
  obtain ⟨r1, r2, r3, r4, r5⟩ := hR
  have kq : ∀ q c fs0, M q = some (.inr (c, fs0)) → c ≠ 1 → M9 q = some (.inr (c, fs0)) := fun q c fs0 he hc => r3 q _ he (ne_lk he q2 (by simp)) (ne_lk he q3 (by simp)) (ne_lk he q4 (by simp)) (nu_of (N_obj hW he hc))
  have kr : ∀ q n0 f0, M q = some (aI g n0 f0) → q ≠ ms → q ≠ sc → q ≠ sa → M9 q = some (aI g n0 f0) := fun q n0 f0 he a1 a2 a3 => r3 q _ he a1 a2 a3 (nu_of (N_arr hW he))
  refine ⟨⟨hW9, hH9, kq _ _ _ e_x (by decide), r3 _ _ e_kp (ne_lk e_kp q2 ne_NI) (ne_lk e_kp q3 ne_NI) (ne_lk e_kp q4 ne_NI) (nu_of (N_arr hW e_kp)), kq _ _ _ e_pf (by decide), r3 _ _ e_bs (ne_lk e_bs q2 ne_RI) (ne_lk e_bs q3 ne_RI) (ne_lk e_bs q4 ne_RI) (nu_of (N_arr hW e_bs)), fun i hi => kr _ _ _ (e_br i hi) (hDA.2.2.2.2.1 i hi).2.1 (hDA.2.2.2.2.1 i hi).2.2.1 (hDA.2.2.2.2.1 i hi).2.2.2.1, kr _ _ _ e_fo hDA.2.1 hDA.2.2.1 hDA.2.2.2.1, hDA, fun q hq => ?_, hok, hvs, hnw, hsb⟩, fun q e he hn => ⟨r3 q e he (fun t => hn (Or.inr (Or.inr (Or.inr (Or.inr (Or.inl t)))))) (fun t => hn (Or.inr (Or.inr (Or.inr (Or.inr (Or.inr (Or.inl t))))))) (fun t => hn (Or.inr (Or.inr (Or.inr (Or.inr (Or.inr (Or.inr (Or.inl t)))))))) (fun ⟨n', E', h1, _⟩ => hn (Or.inl (nz_s (by rw [h1]; exact fun z => by cases z)))), fun t => hn (t.elim (fun t1 => Or.inl (fun z => t1 (by
    obtain ⟨z1, z2⟩ := nz_0 z
    rw [nz_n z1]
    cases hz9 : Z9 q with
    | none => rfl
    | some y9 =>
      rw [r2 q (by rw [hz9]; exact fun z => by cases z) z2] at he
      cases he))) Or.inr)⟩, fun c hc => by obtain ⟨c9, p9, e9⟩ := r5 c hc; exact ⟨c9, p9, by omega⟩⟩
  cases hz : Z9 q with
  | none => rfl
  | some y =>
    have hd := r2 q (by rw [hz]; exact fun z => by cases z) (hZn q hq)
    rcases hq with t | t | t | t | t | ⟨i, hi, t⟩
    · rw [t, q5] at hd; cases hd
    · rw [t, q2] at hd; cases hd
    · rw [t, q3] at hd; cases hd
    · rw [t, q4] at hd; cases hd
    · rw [t, e_fo] at hd; cases hd
    · rw [t, e_br i hi] at hd; cases hd
/-- the Hasher's rows and the folded digest change -/
theorem CX.hash (hC : CX g M N Z x kp pf bs h nm ms sc sa fo br kf nw fm fs fa ff rv σ) {f9 : Nat → Int32} (hH9 : HS g M9 h nm ms sc sa fm9 fs9 fa9) (e : M9 fo = some (aI g 8 f9)) (hf : ∀ q, q ≠ ms → q ≠ sc → q ≠ sa → q ≠ fo → M9 q = M q) : CX g M9 N Z x kp pf bs h nm ms sc sa fo br kf nw fm9 fs9 fa9 f9 rv σ ∧ CR M N Z x kp pf ms sc sa fo br M9 Z 0 := by
  obtain ⟨hW, hH, e_x, e_kp, e_pf, e_bs, e_br, e_fo, hDA, hZn, hok, hvs, hnw, hsb⟩ := hC
  obtain ⟨q1, q2, q3, q4, ⟨fn, q5, q6⟩, q7, q8, q9, q10, q11, q12⟩ := hH
  have hH90 := hH9
  obtain ⟨p1, p2, p3, p4, -⟩ := hH90
  have kq : ∀ q c fs0, M q = some (.inr (c, fs0)) → M9 q = M q := fun q c fs0 he => hf q (ne_lk he q2 (by simp)) (ne_lk he q3 (by simp)) (ne_lk he q4 (by simp)) (ne_lk he e_fo (by simp))
  refine ⟨⟨hW.frame (fun q y hq => hf q (nd_ne hW hq q2) (nd_ne hW hq q3) (nd_ne hW hq q4) (nd_ne hW hq e_fo)) (fun q y hq => hf q (fun t => by rw [t, hZn ms (Or.inr (Or.inl rfl))] at hq; cases hq) (fun t => by rw [t, hZn sc (Or.inr (Or.inr (Or.inl rfl)))] at hq; cases hq) (fun t => by rw [t, hZn sa (Or.inr (Or.inr (Or.inr (Or.inl rfl))))] at hq; cases hq) (fun t => by rw [t, hZn fo (Or.inr (Or.inr (Or.inr (Or.inr (Or.inl rfl)))))] at hq; cases hq)), hH9, (kq _ _ _ e_x).trans e_x, (hf _ (ne_lk e_kp q2 ne_NI) (ne_lk e_kp q3 ne_NI) (ne_lk e_kp q4 ne_NI) (ne_lk e_kp e_fo ne_NI)).trans e_kp, (kq _ _ _ e_pf).trans e_pf, (hf _ (ne_lk e_bs q2 ne_RI) (ne_lk e_bs q3 ne_RI) (ne_lk e_bs q4 ne_RI) (ne_lk e_bs e_fo ne_RI)).trans e_bs, fun i hi => (hf _ (hDA.2.2.2.2.1 i hi).2.1 (hDA.2.2.2.2.1 i hi).2.2.1 (hDA.2.2.2.2.1 i hi).2.2.2.1 (hDA.2.2.2.2.1 i hi).2.2.2.2).trans (e_br i hi), e, hDA, hZn, hok, hvs, hnw, hsb⟩, fun q e9 he hn => ⟨?_, hn⟩, fun c hc => ⟨c, hc.same (fun q hq => ?_), Nat.le_refl _⟩⟩
  · rw [hf q (fun t => hn (Or.inr (Or.inr (Or.inr (Or.inr (Or.inl t)))))) (fun t => hn (Or.inr (Or.inr (Or.inr (Or.inr (Or.inr (Or.inl t))))))) (fun t => hn (Or.inr (Or.inr (Or.inr (Or.inr (Or.inr (Or.inr (Or.inl t)))))))) (fun t => hn (Or.inr (Or.inr (Or.inr (Or.inr (Or.inr (Or.inr (Or.inr (Or.inl t)))))))))]
    exact he
  · by_cases t1 : q = ms
    · rw [t1, und_arr p2] at hq; cases hq
    · by_cases t2 : q = sc
      · rw [t2, und_arr p3] at hq; cases hq
      · by_cases t3 : q = sa
        · rw [t3, und_arr p4] at hq; cases hq
        · by_cases t4 : q = fo
          · rw [t4, und_arr e] at hq; cases hq
          · rw [← und_same (hf q t1 t2 t3 t4)]; exact hq
end CXD
def rWord (σ : cSt) (v i : Int32) : Int32 := if isV σ v && isW i then dgF 16 (mapV σ v) i.toNatClampNeg else 0
def uWord (M : hM) (kf : Nat → Option Nat) (nw : Option Nat) (σ : cSt) (v i : Int32) : Nat := if isV σ v && isW i then udT 16 M (rootR kf nw v) else 0
set_option maxHeartbeats 4000000 in
set_option maxRecDepth 100000 in
theorem c_X3_word (l : Launch) (g : hG) (M : hM) (N Z : gT) (x kp pf bs h nm ms sc sa fo : Nat) (br : Nat → Nat) (kf : Nat → Option Nat) (nw : Option Nat) (fm fs fa ff : Nat → Int32) (rv : Nat → Nat → Int32) (σ : cSt) (hC : CX g M N Z x kp pf bs h nm ms sc sa fo br kf nw fm fs fa ff rv σ) (v0 i0 : Int32) : Ci l g yX3_word cX3_word 3 .int 22 (uWord M kf nw σ v0 i0) (8 * (uWord M kf nw σ v0 i0)) [.ref x, .int v0, .int i0] M (fun r M9 => r = rWord σ v0 i0 ∧ CP g M N Z x kp pf bs h nm ms sc sa fo br 0 (uWord M kf nw σ v0 i0) M9 (σ)) := by
  have hC0 := hC
  obtain ⟨hW, hH, e_x, e_kp, e_pf, e_bs, e_br, e_fo, hDA, hZn, hok, hvs, hnw, hsb⟩ := hC
  have hok0 := hok
  obtain ⟨hkc, hvg, hgn, hpl, hpk⟩ := hok
  refine hp_startI (by decide) (by exact Nat.le_of_ble_eq_true rfl) ?_
  intro p e s m below meth c Q H locs ls EE hnm ret hm hS hl
  have hx := EE.1
  have hb := EE.2.1
  have hown := EE.2.2.2.1
  have hts := EE.2.2.2.2.1
  have hl : lv_has ls 3 [(0, .ref x), (1, .int v0), (2, .int i0)] := hl
  refine lv_aload_n hx hb dX3_word_0 rfl (lv_at hl 0 rfl) ?_
  refine lv_iload_n hx hb dX3_word_1 rfl (lv_at hl 1 rfl) ?_
  refine hp_ci (hp_runV (C := RX3) (T := TX3) (N := 6) (np := 1) (k := 1) (mc := 0) (ms := 0) (As := [.int v0]) (rest := []) EE hm hS (c_X3_isVersion l g M N Z x kp pf bs h nm ms sc sa fo br kf nw fm fs fa ff rv σ hC0 v0) ms_X3_isVersion wi_X3_isVersion ws_X3_isVersion wl_X3_64 e_x rfl rfl hl.1 rfl (Nat.le_of_ble_eq_true rfl) dX3_word_2 ⟨Nat.le_of_ble_eq_true rfl, Nat.le_of_ble_eq_true rfl⟩ ⟨(by show 0 + 0 ≤ uWord M kf nw σ v0 i0; omega), (by show 0 + 0 ≤ 8 * (uWord M kf nw σ v0 i0); omega)⟩) hS (fun r1 Mx2 H locs hq3 hm hS => ?_)
  obtain ⟨rfl, h9⟩ := hq3
  rw [h9] at hm
  refine lv_if_eq (tgt := 15) hx hb dX3_word_5 (by decide) (fun c_5 => ?_) (fun c_5 => ?_)
  · have c_5 := bI_f c_5
    refine lv_iconst (v := 0) hx hb dX3_word_15 (by decide) ?_
    exact ret dX3_word_16 na_i hm hS (by omega) (by omega) (⟨by unfold rWord; first | (rw [c_5]; rfl) | (rw [c_5, c_12]; rfl), by unfold uWord; first | (rw [c_5]; exact CP.rf hC0) | (rw [c_5, c_12]; exact CP.rf hC0)⟩)
  · have c_5 := bI_t c_5
    refine lv_iload_n hx hb dX3_word_8 rfl (lv_at hl 2 rfl) ?_
    refine hp_ci (hp_runS (np := 1) (k := 1) (mc := 0) (ms := 0) (As := [.int i0]) (rest := []) EE hm hS (c_X3_isWord l g M i0) ms_X3_isWord wt_X3_isWord wl_X3_76 rfl hl.1 rfl (Nat.le_of_ble_eq_true rfl) dX3_word_9 ⟨Nat.le_of_ble_eq_true rfl, Nat.le_of_ble_eq_true rfl⟩ ⟨(by show 0 + 0 ≤ uWord M kf nw σ v0 i0; omega), (by show 0 + 0 ≤ 8 * (uWord M kf nw σ v0 i0); omega)⟩) hS (fun r4 Mx5 H locs hq6 hm hS => ?_)
    obtain ⟨rfl, h9⟩ := hq6
    rw [h9] at hm
    refine lv_if_ne (tgt := 17) hx hb dX3_word_12 (by decide) (fun c_12 => ?_) (fun c_12 => ?_)
    · have c_12 := bI_t c_12
      obtain ⟨j, hj, hje⟩ := isW_nat c_12
      have hu : uWord M kf nw σ v0 i0 = udT 16 M (rootR kf nw v0) := by unfold uWord; rw [c_5, c_12]; rfl
      refine lv_aload_n hx hb dX3_word_17 rfl (lv_at hl 0 rfl) ?_
      refine lv_iload_n hx hb dX3_word_18 rfl (lv_at hl 1 rfl) ?_
      refine hp_cq (hp_runV (C := RX3) (T := TX3) (N := 6) (np := 1) (k := 1) (mc := 0) (ms := 0) (As := [.int v0]) (rest := []) EE hm hS (c_X3_rootOf l g M N Z x kp pf bs h nm ms sc sa fo br kf nw fm fs fa ff rv σ hC0 v0) ms_X3_rootOf wi_X3_rootOf ws_X3_rootOf wl_X3_69 e_x rfl rfl hl.1 rfl (Nat.le_of_ble_eq_true rfl) dX3_word_19 ⟨Nat.le_of_ble_eq_true rfl, Nat.le_of_ble_eq_true rfl⟩ ⟨(by show 0 + 0 ≤ uWord M kf nw σ v0 i0; omega), (by show 0 + 0 ≤ 8 * (uWord M kf nw σ v0 i0); omega)⟩) hS (fun r7 Mx8 H locs hq9 hm hS => ?_)
      obtain ⟨hro, h9⟩ := hq9
      rw [h9] at hm
      have hrt := rootR_rt hkc hvs hnw c_5
      rw [← hro] at hrt
      have hgm := mapV_g ⟨hkc, hvg, hgn, hpl, hpk⟩ c_5
      refine lv_iconst (v := 0) hx hb dX3_word_22 (by decide) ?_
      refine lv_aload_n hx hb dX3_word_23 rfl (lv_at hl 0 rfl) ?_
      rw [← hro] at hu
      refine hp_get (C := RX3) (T := TX3) (N := 6) (v := .ref h) EE hm e_x inh3 rfl 4 (by decide) wf_X3_33 rfl dX3_word_24 ?_
      refine hp_cq (hp_runS (np := 3) (k := 21) (mc := udT 16 M r7) (ms := 8 * (udT 16 M r7)) (As := [va_rf r7, .int 0, .ref h]) (rest := []) EE hm hS (c_X3_digestOf l g N h nm ms sc sa 16 M Z fm fs fa r7 (mapV σ v0) 0 hW hH (hZn ms (Or.inr (Or.inl rfl))) (hZn sc (Or.inr (Or.inr (Or.inl rfl)))) (hZn sa (Or.inr (Or.inr (Or.inr (Or.inl rfl))))) hrt rfl) ms_X3_digestOf wt_X3_digestOf wl_X3_79 rfl hl.1 rfl (Nat.le_of_ble_eq_true rfl) dX3_word_27 ⟨Nat.le_of_ble_eq_true rfl, Nat.le_of_ble_eq_true rfl⟩ ⟨(by show 0 + udT 16 M r7 ≤ uWord M kf nw σ v0 i0; omega), (by show 0 + 8 * (udT 16 M r7) ≤ 8 * (uWord M kf nw σ v0 i0); omega)⟩) hS (fun r10 Mx11 H locs hq12 hm hS => ?_)
      obtain ⟨Z9, fm9, fs9, fa9, b9, f9, hb9, hW9, hH9, e_9, hf9, -, hR9⟩ := hq12
      subst hb9
      obtain ⟨hC9, hR9⟩ := CX.dg hC0 hW9 hH9 hR9
      refine lv_iload_n hx hb dX3_word_30 rfl (lv_at hl 2 rfl) ?_
      refine hp_ialdN EE hm e_9 j hje (by omega) (by decide) dX3_word_31 ?_
      exact ret dX3_word_32 na_i hm hS (by omega) (by omega) (⟨by unfold rWord; rw [c_5, c_12, hje, nI_clamp (by omega)]; exact hf9 j hj, by rw [hu]; exact hR9.CP hC9⟩)
    · have c_12 := bI_f c_12
      refine lv_iconst (v := 0) hx hb dX3_word_15 (by decide) ?_
      exact ret dX3_word_16 na_i hm hS (by omega) (by omega) (⟨by unfold rWord; first | (rw [c_5]; rfl) | (rw [c_5, c_12]; rfl), by unfold uWord; first | (rw [c_5]; exact CP.rf hC0) | (rw [c_5, c_12]; exact CP.rf hC0)⟩)
def eq8 (f f2 : Nat → Int32) : Bool := (List.range 8).all (fun j => f j == f2 j)
theorem eq8_t {f f2 : Nat → Int32} (h : ∀ j, j < 8 → f j = f2 j) : eq8 f f2 = true := List.all_eq_true.mpr (fun j hj => by simp [h j (List.mem_range.mp hj)])
theorem eq8_f {f f2 : Nat → Int32} {i : Nat} (hi : i < 8) (h : ¬ f i = f2 i) : eq8 f f2 = false := by
  cases hq : eq8 f f2 with
  | false => rfl
  | true =>
    have := List.all_eq_true.mp hq i (List.mem_range.mpr hi)
    exact absurd (by simpa using this) h
theorem eq8_w {f f2 e e2 : Nat → Int32} (h : ∀ j, j < 8 → f j = f2 j) (h2 : ∀ j, j < 8 → e j = e2 j) : eq8 f e = eq8 f2 e2 := by
  unfold eq8
  have : ∀ j ∈ List.range 8, (f j == e j) = (f2 j == e2 j) := fun j hj => by rw [h j (List.mem_range.mp hj), h2 j (List.mem_range.mp hj)]
  rw [Bool.eq_iff_iff, List.all_eq_true, List.all_eq_true]
  exact ⟨fun q j hj => by rw [← this j hj]; exact q j hj, fun q j hj => by rw [this j hj]; exact q j hj⟩
set_option maxHeartbeats 4000000 in
set_option maxRecDepth 100000 in
theorem c_X3_sameWords (l : Launch) (g : hG) (M : hM) (a b : Nat) (fA fB : Nat → Int32) (e_a : M a = some (aI g 8 fA)) (e_b : M b = some (aI g 8 fB)) : Ci l g yX3_sameWords cX3_sameWords 3 .boolean 1 0 0 [.ref a, .ref b] M (fun r M9 => r = bI (eq8 fA fB) ∧ M9 = M) := by
  refine hp_startI (by decide) (by exact Nat.le_of_ble_eq_true rfl) ?_
  intro p e s m below meth c Q H locs ls EE hnm ret hm hS hl
  have hx := EE.1
  have hb := EE.2.1
  have hown := EE.2.2.2.1
  have hts := EE.2.2.2.2.1
  have hl : lv_has ls 3 [(0, .ref a), (1, .ref b)] := hl
  refine lv_iconst (v := 0) hx hb dX3_sameWords_0 (by decide) ?_
  refine lv_istore_n (lv' := [(2, .int 0), (0, .ref a), (1, .ref b)]) hx hb dX3_sameWords_1 rfl hl (by decide) rfl (fun ls hl => ?_)
  have lp : ∀ (n i : Nat)  (H : Heap) (locs : List Loc) (ls : Array Slot), 9 ≤ i + n → i ≤ 8 → (∀ j, j < i → fA j = fB j) → hp g M H → va_S (hA g) s.heap H locs → lv_has ls 3 [(2, .int (nI i)), (0, .ref a), (1, .ref b)] → W p l e (hR 1 0 0) s m [.ref a, .ref b].toArray below meth c H locs 0 0 Q (F0 m 2 ls []) := by
    intro n
    induction n with
    | zero => intro i  H locs ls hn hi hf; exact absurd hn (by omega)
    | succ n ih =>
      intro i  H locs ls hn hi hf hm hS hl
      refine lv_iload_n hx hb dX3_sameWords_2 rfl (lv_at hl 0 rfl) ?_
      refine lv_bipush (v := 8) hx hb dX3_sameWords_3 (by decide) ?_
      refine lv_icmp_ge (tgt := 25) hx hb dX3_sameWords_5 (by decide) (fun c_5 => ?_) (fun c_5 => ?_)
      · have c_5 : 8 ≤ i := (nI_leI (a := 8) (b := i) (by decide) (by omega)).mp c_5
        refine lv_iconst (v := 1) hx hb dX3_sameWords_25 (by decide) ?_
        exact ret dX3_sameWords_26 na_1 hm hS (Nat.le_of_ble_eq_true rfl) (Nat.le_of_ble_eq_true rfl) (⟨by rw [eq8_t (fun j hj => hf j (by omega))]; rfl, rfl⟩)
      · have c_5 : ¬ 8 ≤ i := fun h9 => c_5 ((nI_leI (a := 8) (b := i) (by decide) (by omega)).mpr h9)
        refine lv_aload_n hx hb dX3_sameWords_8 rfl (lv_at hl 1 rfl) ?_
        refine lv_iload_n hx hb dX3_sameWords_9 rfl (lv_at hl 0 rfl) ?_
        refine hp_ialdN EE hm e_a i rfl (by omega) (by decide) dX3_sameWords_10 ?_
        refine lv_aload_n hx hb dX3_sameWords_11 rfl (lv_at hl 2 rfl) ?_
        refine lv_iload_n hx hb dX3_sameWords_12 rfl (lv_at hl 0 rfl) ?_
        refine hp_ialdN EE hm e_b i rfl (by omega) (by decide) dX3_sameWords_13 ?_
        refine lv_icmp_eq (tgt := 19) hx hb dX3_sameWords_14 (by decide) (fun c_14 => ?_) (fun c_14 => ?_)
        · refine lv_iinc (v := nI (i + 1)) (lv' := [(2, .int (nI (i + 1))), (0, .ref a), (1, .ref b)]) hx hb dX3_sameWords_19 hl (k := 0) rfl (nI_1 _) (by decide) rfl (fun ls hl => ?_)
          refine lv_goto (tgt := 2) hx hb dX3_sameWords_22 (by decide) ?_
          exact ih (i + 1) H locs ls (by omega) (by omega) (fun j hj => by
            rcases Nat.lt_or_eq_of_le (Nat.le_of_lt_succ hj) with q | q
            · exact hf j q
            · rw [q]; exact c_14) hm hS (lv_sub hl [0, 1, 2] rfl)
        · refine lv_iconst (v := 0) hx hb dX3_sameWords_17 (by decide) ?_
          exact ret dX3_sameWords_18 na_0 hm hS (Nat.le_of_ble_eq_true rfl) (Nat.le_of_ble_eq_true rfl) (⟨by rw [eq8_f (by omega) c_14]; rfl, rfl⟩)
  exact lp 9 0 H locs ls (by omega) (by omega) (fun j hj => absurd hj (Nat.not_lt_zero j)) hm hS (lv_sub hl [0, 1, 2] rfl)
theorem m1_sub (x : Int32) : x + (-1) = x - 1 := by rw [Int32.sub_eq_add_neg]
/-- what a proof comes to with a key: from the last sibling to the first -/
def foldS (sb : Nat → Nat → Int32) (k : Nat) : Nat → (Nat → Int32) → Nat → Int32
  | 0, f => f
  | n + 1, f => foldS sb k n (if k.testBit (15 - n) then hPair (sb n) f else hPair f (sb n))
def endD (σ : cSt) : Nat → Int32 := if sPe σ then hLeaf (sPk σ) (sPv σ) else fun _ => 0
theorem foldS_w {sb sb2 : Nat → Nat → Int32} {k : Nat} : ∀ (n : Nat) {f f2 : Nat → Int32}, (∀ i, i < n → ∀ j, j < 8 → sb i j = sb2 i j) → (∀ j, j < 8 → f j = f2 j) → ∀ j, j < 8 → foldS sb k n f j = foldS sb2 k n f2 j
  | 0, _, _, _, hf, j, hj => hf j hj
  | n + 1, f, f2, hs, hf, j, hj => by
    refine foldS_w n (fun i hi => hs i (by omega)) (fun b hb => ?_) j hj
    cases k.testBit (15 - n) with
    | true => exact hPair_w (fun c hc => hs n (by omega) c hc) hf hb
    | false => exact hPair_w hf (fun c hc => hs n (by omega) c hc) hb
set_option maxHeartbeats 4000000 in
set_option maxRecDepth 100000 in
theorem c_X3_foldProof (l : Launch) (g : hG) (M : hM) (N Z : gT) (x kp pf bs h nm ms sc sa fo : Nat) (br : Nat → Nat) (kf : Nat → Option Nat) (nw : Option Nat) (fm fs fa ff : Nat → Int32) (rv : Nat → Nat → Int32) (σ : cSt) (hC : CX g M N Z x kp pf bs h nm ms sc sa fo br kf nw fm fs fa ff rv σ) (kn : Nat) (hkn : kn < 65536) : Cv l g yX3_foldProof cX3_foldProof 3 5 0 0 [.ref x, .int (nI kn)] M (fun M9 => ∃ fm9 fs9 fa9 f9, CX g M9 N Z x kp pf bs h nm ms sc sa fo br kf nw fm9 fs9 fa9 f9 rv σ ∧ CR M N Z x kp pf ms sc sa fo br M9 Z 0 ∧ (∀ q y, N q = some y → M9 q = M q) ∧ ∀ j, j < 8 → f9 j = foldS (sSb σ) kn (sPl σ) (endD σ) j) := by
  have hC0 := hC
  obtain ⟨hW, hH, e_x, e_kp, e_pf, e_bs, e_br, e_fo, hDA, hZn, hok, hvs, hnw, hsb⟩ := hC
  obtain ⟨hkc, hvg, hgn, hpl, hpk⟩ := hok
  obtain ⟨e_h, e_ms, e_sc, e_sa, ⟨fn, e_nm, hz⟩, n_1, n_2, n_3, n_4, n_5, n_6⟩ := id hH
  obtain ⟨d1, d2, d3, d4, d5, d6⟩ := id hDA
  refine hp_startV (by decide) (by exact Nat.le_of_ble_eq_true rfl) ?_
  intro p e s m below meth c Q H locs ls EE hnm ret hm hS hl
  have hx := EE.1
  have hb := EE.2.1
  have hown := EE.2.2.2.1
  have hts := EE.2.2.2.2.1
  have hl : lv_has ls 3 [(0, .ref x), (1, .int (nI kn))] := hl
  refine lv_aload_n hx hb dX3_foldProof_0 rfl (lv_at hl 0 rfl) ?_
  refine hp_get (C := RX3) (T := TX3) (N := 6) (v := .ref pf) EE hm e_x inh3 rfl 3 (by decide) wf_X3_26 rfl dX3_foldProof_1 ?_
  refine hp_get (C := RX2) (T := TX2) (N := 5) (v := .int (bI (sPe σ))) EE hm e_pf inh2 rfl 2 (by decide) wf_X3_114 rfl dX3_foldProof_4 ?_
  refine lv_if_eq (tgt := 38) hx hb dX3_foldProof_7 (by decide) (fun c_7 => ?_) (fun c_7 => ?_)
  · have c_7 := bI_f c_7
    refine lv_aload_n hx hb dX3_foldProof_38 rfl (lv_at hl 0 rfl) ?_
    refine hp_get (C := RX3) (T := TX3) (N := 6) (v := .ref h) EE hm e_x inh3 rfl 4 (by decide) wf_X3_33 rfl dX3_foldProof_39 ?_
    refine hp_get (C := RX0) (T := TX0) (N := 4) (v := .ref nm) EE hm e_h inh0 rfl 0 (by decide) wf_X3_148 rfl dX3_foldProof_42 ?_
    refine lv_aload_n hx hb dX3_foldProof_45 rfl (lv_at hl 0 rfl) ?_
    refine hp_get (C := RX3) (T := TX3) (N := 6) (v := .ref fo) EE hm e_x inh3 rfl 5 (by decide) wf_X3_37 rfl dX3_foldProof_46 ?_
    refine hp_cv (hp_runS (np := 2) (k := 1) (mc := 0) (ms := 0) (As := [.ref nm, .ref fo]) (rest := []) EE hm hS (c_X3_copyWords l g M nm fo fn ff e_nm e_fo (Ne.symm d1)) ms_X3_copyWords wt_X3_copyWords wl_X3_95 rfl hl.1 rfl (Nat.le_of_ble_eq_true rfl) dX3_foldProof_49 ⟨Nat.le_of_ble_eq_true rfl, Nat.le_of_ble_eq_true rfl⟩ ⟨(Nat.le_of_ble_eq_true rfl), (Nat.le_of_ble_eq_true rfl)⟩) hS (fun Mx1 H locs hq2 hm hS => ?_)
    obtain ⟨f1, e_1, hfr1, hf1⟩ := hq2
    have hHx := HS.chg hH hfr1 (ne_lk e_h e_fo (by simp)) (Ne.symm d1) (Ne.symm d2) (Ne.symm d3) (Ne.symm d4)
    obtain ⟨hC1, hR1⟩ := CX.hash hC0 hHx e_1 (fun q _ _ _ h9 => hfr1 q h9)
    have hend : ∀ j, j < 8 → f1 j = endD σ j := fun j hj => by unfold endD; rw [c_7, hf1 j hj, hz j hj]; rfl
    have hR0 : CR M N Z x kp pf ms sc sa fo br Mx1 Z 0 := hR1
    have hN0 : ∀ q y, N q = some y → Mx1 q = M q := fun q y hy => hfr1 q (nd_ne hW hy e_fo)
    obtain ⟨hW1, hH1, e_x, e_kp, e_pf, e_bs, e_br, e_fo, -, hZn1, -, hvs1, hnw1, hsb1⟩ := id hC1
    obtain ⟨e_h, e_ms, e_sc, e_sa, ⟨fn1, e_nm, hz1⟩, -⟩ := id hH1
    refine lv_aload_n hx hb dX3_foldProof_52 rfl (lv_at hl 0 rfl) ?_
    refine hp_get (C := RX3) (T := TX3) (N := 6) (v := .ref pf) EE hm e_x inh3 rfl 3 (by decide) wf_X3_26 rfl dX3_foldProof_53 ?_
    refine hp_get (C := RX2) (T := TX2) (N := 5) (v := .int (nI (sPl σ))) EE hm e_pf inh2 rfl 1 (by decide) wf_X3_99 rfl dX3_foldProof_56 ?_
    refine lv_bipush (v := 16) hx hb dX3_foldProof_59 (by decide) ?_
    refine va_mmin hx hb (by rw [EE.2.2.1]; exact hl.1.symm) hown (hts _ wl_X3_162) (hts _ wt_J9_min_7cf53) (hts _ wn_J9) (hts _ wcode_J9_min_7cf53) (Nat.le_of_ble_eq_true rfl) (Nat.le_of_ble_eq_true rfl) (Nat.le_refl _) (Nat.le_refl _) dX3_foldProof_61 ?_
    rw [if_neg (show ¬ (16 : Int32) < nI (sPl σ) from nI_nlt (a := 16) hpl (by decide))]
    refine lv_iconst (v := 1) hx hb dX3_foldProof_64 (by decide) ?_
    refine lv_isub hx hb dX3_foldProof_65 ?_
    refine lv_istore_n (lv' := [(2, .int ((nI (sPl σ)) - 1)), (0, .ref x), (1, .int (nI kn))]) hx hb dX3_foldProof_66 rfl hl (by decide) rfl (fun ls hl => ?_)
    have lp : ∀ (n u : Nat) (M1 : hM) (fm2 fs2 fa2 f2 : Nat → Int32) (H : Heap) (locs : List Loc) (ls : Array Slot), u + 1 ≤ n → u ≤ sPl σ → CX g M1 N Z x kp pf bs h nm ms sc sa fo br kf nw fm2 fs2 fa2 f2 rv σ → CR M N Z x kp pf ms sc sa fo br M1 Z 0 → (∀ q y, N q = some y → M1 q = M q) → (∀ j, j < 8 → foldS (sSb σ) kn u f2 j = foldS (sSb σ) kn (sPl σ) (endD σ) j) → hp g M1 H → va_S (hA g) s.heap H locs → lv_has ls 3 [(2, .int (nI u - 1)), (0, .ref x), (1, .int (nI kn))] → W p l e (hR 5 0 0) s m [.ref x, .int (nI kn)].toArray below meth c H locs 0 0 Q (F0 m 67 ls []) := by
      intro n
      induction n with
      | zero => intro u M1 fm2 fs2 fa2 f2 H locs ls hn hu hC2 hR2 hN2 hfold; exact absurd hn (by omega)
      | succ n ih =>
        intro u M1 fm2 fs2 fa2 f2 H locs ls hn hu hC2 hR2 hN2 hfold hm hS hl
        obtain ⟨hW1, hH1, e_x, e_kp, e_pf, e_bs, e_br, e_fo, -, hZn1, -, hvs1, hnw1, hsb1⟩ := id hC2
        obtain ⟨e_h, e_ms, e_sc, e_sa, ⟨fn1, e_nm, hz1⟩, -⟩ := id hH1
        refine lv_iload_n hx hb dX3_foldProof_67 rfl (lv_at hl 0 rfl) ?_
        refine lv_if_lt (tgt := 136) hx hb dX3_foldProof_68 (by decide) (fun c_68 => ?_) (fun c_68 => ?_)
        · have hu0 : u = 0 := by
            rcases Nat.eq_zero_or_pos u with q | q
            · exact q
            · obtain ⟨u1, rfl⟩ : ∃ u1, u = u1 + 1 := ⟨u - 1, by omega⟩
              rw [nI_pred] at c_68
              exact absurd c_68 (nI_pos (by omega))
          subst hu0
          exact ret dX3_foldProof_136 hm hS (Nat.le_of_ble_eq_true rfl) (Nat.le_of_ble_eq_true rfl) (⟨fm2, fs2, fa2, f2, hC2, hR2, hN2, hfold⟩)
        · obtain ⟨u1, hu1⟩ : ∃ u1, u = u1 + 1 := by
            rcases Nat.eq_zero_or_pos u with q | q
            · rw [q] at c_68; exact absurd (by decide) c_68
            · exact ⟨u - 1, by omega⟩
          subst hu1
          rw [nI_pred] at hl
          have hl : lv_has ls 3 [(2, .int (nI u1)), (0, .ref x), (1, .int (nI kn))] := hl
          have e_b := e_br u1 (by omega)
          refine lv_iload_n hx hb dX3_foldProof_71 rfl (lv_at hl 2 rfl) ?_
          refine lv_iload_n hx hb dX3_foldProof_72 rfl (lv_at hl 0 rfl) ?_
          refine hp_ci (hp_runS (np := 2) (k := 1) (mc := 0) (ms := 0) (As := [.int (nI kn), .int (nI u1)]) (rest := []) EE hm hS (c_X3_bitAt l g M1 (nI kn) (nI u1)) ms_X3_bitAt wt_X3_bitAt wl_X3_83 rfl hl.1 rfl (Nat.le_of_ble_eq_true rfl) dX3_foldProof_73 ⟨Nat.le_of_ble_eq_true rfl, Nat.le_of_ble_eq_true rfl⟩ ⟨(Nat.le_of_ble_eq_true rfl), (Nat.le_of_ble_eq_true rfl)⟩) hS (fun r3 Mx4 H locs hq5 hm hS => ?_)
          obtain ⟨hr9, h9⟩ := hq5
          rw [h9] at hm
          rw [bitA_n hkn (show u1 + (15 - u1) = 15 by omega)] at hr9
          subst hr9
          refine lv_if_ne (tgt := 106) hx hb dX3_foldProof_76 (by decide) (fun c_76 => ?_) (fun c_76 => ?_)
          · have c_76 := bI_t c_76
            refine lv_aload_n hx hb dX3_foldProof_106 rfl (lv_at hl 1 rfl) ?_
            refine hp_get (C := RX3) (T := TX3) (N := 6) (v := .ref h) EE hm e_x inh3 rfl 4 (by decide) wf_X3_33 rfl dX3_foldProof_107 ?_
            refine lv_aload_n hx hb dX3_foldProof_110 rfl (lv_at hl 1 rfl) ?_
            refine hp_get (C := RX3) (T := TX3) (N := 6) (v := .ref pf) EE hm e_x inh3 rfl 3 (by decide) wf_X3_26 rfl dX3_foldProof_111 ?_
            refine hp_get (C := RX2) (T := TX2) (N := 5) (v := .ref bs) EE hm e_pf inh2 rfl 0 (by decide) wf_X3_91 rfl dX3_foldProof_114 ?_
            refine lv_iload_n hx hb dX3_foldProof_117 rfl (lv_at hl 0 rfl) ?_
            refine hp_aaldRN EE hm e_bs u1 rfl (by omega) (by decide) dX3_foldProof_118 ?_
            refine lv_aload_n hx hb dX3_foldProof_119 rfl (lv_at hl 1 rfl) ?_
            refine hp_get (C := RX3) (T := TX3) (N := 6) (v := .ref fo) EE hm e_x inh3 rfl 5 (by decide) wf_X3_37 rfl dX3_foldProof_120 ?_
            refine lv_aload_n hx hb dX3_foldProof_123 rfl (lv_at hl 1 rfl) ?_
            refine hp_get (C := RX3) (T := TX3) (N := 6) (v := .ref fo) EE hm e_x inh3 rfl 5 (by decide) wf_X3_37 rfl dX3_foldProof_124 ?_
            refine hp_cv (hp_runV (C := RX0) (T := TX0) (N := 4) (np := 3) (k := 4) (mc := 0) (ms := 0) (As := [.ref (br u1), .ref fo, .ref fo]) (rest := []) EE hm hS (c_X0_hashPair l g M1 h nm ms sc sa fm2 fs2 fa2 hH1 fo f2 e_fo d2 d3 d4 d1 (br u1) fo (rv u1) f2 e_b e_fo (d5 u1 (by omega)).2.1 d2) ms_X0_hashPair wi_X0_hashPair ws_X0_hashPair wl_X3_158 e_h rfl rfl hl.1 rfl (Nat.le_of_ble_eq_true rfl) dX3_foldProof_127 ⟨Nat.le_of_ble_eq_true rfl, Nat.le_of_ble_eq_true rfl⟩ ⟨(Nat.le_of_ble_eq_true rfl), (Nat.le_of_ble_eq_true rfl)⟩) hS (fun Mx6 H locs hq7 hm hS => ?_)
            obtain ⟨fm3, fs3, fa3, f3, hH3, e_3, hfr3, hf3⟩ := hq7
            obtain ⟨hC3, hRx⟩ := CX.hash hC2 hH3 e_3 hfr3
            have hR3 := hR2.tr hRx (Nat.le_refl _)
            have hN3 : ∀ q y, N q = some y → Mx6 q = M q := fun q y hy => (hfr3 q (nd_ne hW1 hy e_ms) (nd_ne hW1 hy e_sc) (nd_ne hW1 hy e_sa) (nd_ne hW1 hy e_fo)).trans (hN2 q y hy)
            obtain ⟨M3, hM3⟩ : ∃ z, z = Mx6 := ⟨_, rfl⟩
            rw [← hM3] at hm hC3 hR3 hN3
            refine lv_iinc (v := (nI u1) + (-1)) (lv' := [(2, .int ((nI u1) + (-1))), (0, .ref x), (1, .int (nI kn))]) hx hb dX3_foldProof_130 hl (k := 0) rfl rfl (by decide) rfl (fun ls hl => ?_)
            refine lv_goto (tgt := 67) hx hb dX3_foldProof_133 (by decide) ?_
            exact ih u1 M3 fm3 fs3 fa3 f3 H locs ls (by omega) (by omega) hC3 hR3 hN3 (fun j hj => by rw [← hfold j hj]; show _ = foldS (sSb σ) kn u1 (if kn.testBit (15 - u1) then hPair (sSb σ u1) f2 else hPair f2 (sSb σ u1)) j; rw [c_76, if_pos rfl]; exact foldS_w u1 (fun _ _ _ _ => rfl) (fun b hb9 => by rw [hf3 b hb9]; exact hPair_w (fun c9 hc9 => hsb1 u1 (by omega) c9 hc9) (fun _ _ => rfl) hb9) j hj) hm hS (lv_sub hl [0, 1, 2] (by rw [m1_sub]; rfl))
          · have c_76 := bI_f c_76
            refine lv_aload_n hx hb dX3_foldProof_79 rfl (lv_at hl 1 rfl) ?_
            refine hp_get (C := RX3) (T := TX3) (N := 6) (v := .ref h) EE hm e_x inh3 rfl 4 (by decide) wf_X3_33 rfl dX3_foldProof_80 ?_
            refine lv_aload_n hx hb dX3_foldProof_83 rfl (lv_at hl 1 rfl) ?_
            refine hp_get (C := RX3) (T := TX3) (N := 6) (v := .ref fo) EE hm e_x inh3 rfl 5 (by decide) wf_X3_37 rfl dX3_foldProof_84 ?_
            refine lv_aload_n hx hb dX3_foldProof_87 rfl (lv_at hl 1 rfl) ?_
            refine hp_get (C := RX3) (T := TX3) (N := 6) (v := .ref pf) EE hm e_x inh3 rfl 3 (by decide) wf_X3_26 rfl dX3_foldProof_88 ?_
            refine hp_get (C := RX2) (T := TX2) (N := 5) (v := .ref bs) EE hm e_pf inh2 rfl 0 (by decide) wf_X3_91 rfl dX3_foldProof_91 ?_
            refine lv_iload_n hx hb dX3_foldProof_94 rfl (lv_at hl 0 rfl) ?_
            refine hp_aaldRN EE hm e_bs u1 rfl (by omega) (by decide) dX3_foldProof_95 ?_
            refine lv_aload_n hx hb dX3_foldProof_96 rfl (lv_at hl 1 rfl) ?_
            refine hp_get (C := RX3) (T := TX3) (N := 6) (v := .ref fo) EE hm e_x inh3 rfl 5 (by decide) wf_X3_37 rfl dX3_foldProof_97 ?_
            refine hp_cv (hp_runV (C := RX0) (T := TX0) (N := 4) (np := 3) (k := 4) (mc := 0) (ms := 0) (As := [.ref fo, .ref (br u1), .ref fo]) (rest := []) EE hm hS (c_X0_hashPair l g M1 h nm ms sc sa fm2 fs2 fa2 hH1 fo f2 e_fo d2 d3 d4 d1 fo (br u1) f2 (rv u1) e_fo e_b d2 (d5 u1 (by omega)).2.1) ms_X0_hashPair wi_X0_hashPair ws_X0_hashPair wl_X3_158 e_h rfl rfl hl.1 rfl (Nat.le_of_ble_eq_true rfl) dX3_foldProof_100 ⟨Nat.le_of_ble_eq_true rfl, Nat.le_of_ble_eq_true rfl⟩ ⟨(Nat.le_of_ble_eq_true rfl), (Nat.le_of_ble_eq_true rfl)⟩) hS (fun Mx8 H locs hq9 hm hS => ?_)
            obtain ⟨fm3, fs3, fa3, f3, hH3, e_3, hfr3, hf3⟩ := hq9
            obtain ⟨hC3, hRx⟩ := CX.hash hC2 hH3 e_3 hfr3
            have hR3 := hR2.tr hRx (Nat.le_refl _)
            have hN3 : ∀ q y, N q = some y → Mx8 q = M q := fun q y hy => (hfr3 q (nd_ne hW1 hy e_ms) (nd_ne hW1 hy e_sc) (nd_ne hW1 hy e_sa) (nd_ne hW1 hy e_fo)).trans (hN2 q y hy)
            obtain ⟨M3, hM3⟩ : ∃ z, z = Mx8 := ⟨_, rfl⟩
            rw [← hM3] at hm hC3 hR3 hN3
            refine lv_goto (tgt := 130) hx hb dX3_foldProof_103 (by decide) ?_
            refine lv_iinc (v := (nI u1) + (-1)) (lv' := [(2, .int ((nI u1) + (-1))), (0, .ref x), (1, .int (nI kn))]) hx hb dX3_foldProof_130 hl (k := 0) rfl rfl (by decide) rfl (fun ls hl => ?_)
            refine lv_goto (tgt := 67) hx hb dX3_foldProof_133 (by decide) ?_
            exact ih u1 M3 fm3 fs3 fa3 f3 H locs ls (by omega) (by omega) hC3 hR3 hN3 (fun j hj => by rw [← hfold j hj]; show _ = foldS (sSb σ) kn u1 (if kn.testBit (15 - u1) then hPair (sSb σ u1) f2 else hPair f2 (sSb σ u1)) j; rw [c_76]; exact foldS_w u1 (fun _ _ _ _ => rfl) (fun b hb9 => by rw [hf3 b hb9]; exact hPair_w (fun _ _ => rfl) (fun c9 hc9 => hsb1 u1 (by omega) c9 hc9) hb9) j hj) hm hS (lv_sub hl [0, 1, 2] (by rw [m1_sub]; rfl))
    exact lp (sPl σ + 1) (sPl σ) _ _ _ _ _ H locs ls (Nat.le_refl _) (Nat.le_refl _) hC1 hR0 hN0 (foldS_w _ (fun _ _ _ _ => rfl) hend) hm hS (lv_sub hl [0, 1, 2] rfl)
  · have c_7 := bI_t c_7
    refine lv_aload_n hx hb dX3_foldProof_10 rfl (lv_at hl 0 rfl) ?_
    refine hp_get (C := RX3) (T := TX3) (N := 6) (v := .ref h) EE hm e_x inh3 rfl 4 (by decide) wf_X3_33 rfl dX3_foldProof_11 ?_
    refine lv_aload_n hx hb dX3_foldProof_14 rfl (lv_at hl 0 rfl) ?_
    refine hp_get (C := RX3) (T := TX3) (N := 6) (v := .ref pf) EE hm e_x inh3 rfl 3 (by decide) wf_X3_26 rfl dX3_foldProof_15 ?_
    refine hp_get (C := RX2) (T := TX2) (N := 5) (v := .int (sPk σ)) EE hm e_pf inh2 rfl 3 (by decide) wf_X3_118 rfl dX3_foldProof_18 ?_
    refine lv_aload_n hx hb dX3_foldProof_21 rfl (lv_at hl 0 rfl) ?_
    refine hp_get (C := RX3) (T := TX3) (N := 6) (v := .ref pf) EE hm e_x inh3 rfl 3 (by decide) wf_X3_26 rfl dX3_foldProof_22 ?_
    refine hp_get (C := RX2) (T := TX2) (N := 5) (v := .int (sPv σ)) EE hm e_pf inh2 rfl 4 (by decide) wf_X3_119 rfl dX3_foldProof_25 ?_
    refine lv_aload_n hx hb dX3_foldProof_28 rfl (lv_at hl 0 rfl) ?_
    refine hp_get (C := RX3) (T := TX3) (N := 6) (v := .ref fo) EE hm e_x inh3 rfl 5 (by decide) wf_X3_37 rfl dX3_foldProof_29 ?_
    refine hp_cv (hp_runV (C := RX0) (T := TX0) (N := 4) (np := 3) (k := 4) (mc := 0) (ms := 0) (As := [.int (sPk σ), .int (sPv σ), .ref fo]) (rest := []) EE hm hS (c_X0_hashEntry l g M h nm ms sc sa fm fs fa hH fo ff e_fo d2 d3 d4 d1 (sPk σ) (sPv σ)) ms_X0_hashEntry wi_X0_hashEntry ws_X0_hashEntry wl_X3_154 e_h rfl rfl hl.1 rfl (Nat.le_of_ble_eq_true rfl) dX3_foldProof_32 ⟨Nat.le_of_ble_eq_true rfl, Nat.le_of_ble_eq_true rfl⟩ ⟨(Nat.le_of_ble_eq_true rfl), (Nat.le_of_ble_eq_true rfl)⟩) hS (fun Mx10 H locs hq11 hm hS => ?_)
    obtain ⟨fm1, fs1, fa1, f1, hH1, e_1, hfr1, hf1⟩ := hq11
    obtain ⟨hC1, hR1⟩ := CX.hash hC0 hH1 e_1 hfr1
    have hend : ∀ j, j < 8 → f1 j = endD σ j := fun j hj => by unfold endD; rw [c_7]; exact hf1 j hj
    have hR0 : CR M N Z x kp pf ms sc sa fo br Mx10 Z 0 := hR1
    have hN0 : ∀ q y, N q = some y → Mx10 q = M q := fun q y hy => hfr1 q (nd_ne hW hy e_ms) (nd_ne hW hy e_sc) (nd_ne hW hy e_sa) (nd_ne hW hy e_fo)
    obtain ⟨hW1, hH1, e_x, e_kp, e_pf, e_bs, e_br, e_fo, -, hZn1, -, hvs1, hnw1, hsb1⟩ := id hC1
    obtain ⟨e_h, e_ms, e_sc, e_sa, ⟨fn1, e_nm, hz1⟩, -⟩ := id hH1
    refine lv_goto (tgt := 52) hx hb dX3_foldProof_35 (by decide) ?_
    refine lv_aload_n hx hb dX3_foldProof_52 rfl (lv_at hl 0 rfl) ?_
    refine hp_get (C := RX3) (T := TX3) (N := 6) (v := .ref pf) EE hm e_x inh3 rfl 3 (by decide) wf_X3_26 rfl dX3_foldProof_53 ?_
    refine hp_get (C := RX2) (T := TX2) (N := 5) (v := .int (nI (sPl σ))) EE hm e_pf inh2 rfl 1 (by decide) wf_X3_99 rfl dX3_foldProof_56 ?_
    refine lv_bipush (v := 16) hx hb dX3_foldProof_59 (by decide) ?_
    refine va_mmin hx hb (by rw [EE.2.2.1]; exact hl.1.symm) hown (hts _ wl_X3_162) (hts _ wt_J9_min_7cf53) (hts _ wn_J9) (hts _ wcode_J9_min_7cf53) (Nat.le_of_ble_eq_true rfl) (Nat.le_of_ble_eq_true rfl) (Nat.le_refl _) (Nat.le_refl _) dX3_foldProof_61 ?_
    rw [if_neg (show ¬ (16 : Int32) < nI (sPl σ) from nI_nlt (a := 16) hpl (by decide))]
    refine lv_iconst (v := 1) hx hb dX3_foldProof_64 (by decide) ?_
    refine lv_isub hx hb dX3_foldProof_65 ?_
    refine lv_istore_n (lv' := [(2, .int ((nI (sPl σ)) - 1)), (0, .ref x), (1, .int (nI kn))]) hx hb dX3_foldProof_66 rfl hl (by decide) rfl (fun ls hl => ?_)
    have lp : ∀ (n u : Nat) (M1 : hM) (fm2 fs2 fa2 f2 : Nat → Int32) (H : Heap) (locs : List Loc) (ls : Array Slot), u + 1 ≤ n → u ≤ sPl σ → CX g M1 N Z x kp pf bs h nm ms sc sa fo br kf nw fm2 fs2 fa2 f2 rv σ → CR M N Z x kp pf ms sc sa fo br M1 Z 0 → (∀ q y, N q = some y → M1 q = M q) → (∀ j, j < 8 → foldS (sSb σ) kn u f2 j = foldS (sSb σ) kn (sPl σ) (endD σ) j) → hp g M1 H → va_S (hA g) s.heap H locs → lv_has ls 3 [(2, .int (nI u - 1)), (0, .ref x), (1, .int (nI kn))] → W p l e (hR 5 0 0) s m [.ref x, .int (nI kn)].toArray below meth c H locs 0 0 Q (F0 m 67 ls []) := by
      intro n
      induction n with
      | zero => intro u M1 fm2 fs2 fa2 f2 H locs ls hn hu hC2 hR2 hN2 hfold; exact absurd hn (by omega)
      | succ n ih =>
        intro u M1 fm2 fs2 fa2 f2 H locs ls hn hu hC2 hR2 hN2 hfold hm hS hl
        obtain ⟨hW1, hH1, e_x, e_kp, e_pf, e_bs, e_br, e_fo, -, hZn1, -, hvs1, hnw1, hsb1⟩ := id hC2
        obtain ⟨e_h, e_ms, e_sc, e_sa, ⟨fn1, e_nm, hz1⟩, -⟩ := id hH1
        refine lv_iload_n hx hb dX3_foldProof_67 rfl (lv_at hl 0 rfl) ?_
        refine lv_if_lt (tgt := 136) hx hb dX3_foldProof_68 (by decide) (fun c_68 => ?_) (fun c_68 => ?_)
        · have hu0 : u = 0 := by
            rcases Nat.eq_zero_or_pos u with q | q
            · exact q
            · obtain ⟨u1, rfl⟩ : ∃ u1, u = u1 + 1 := ⟨u - 1, by omega⟩
              rw [nI_pred] at c_68
              exact absurd c_68 (nI_pos (by omega))
          subst hu0
          exact ret dX3_foldProof_136 hm hS (Nat.le_of_ble_eq_true rfl) (Nat.le_of_ble_eq_true rfl) (⟨fm2, fs2, fa2, f2, hC2, hR2, hN2, hfold⟩)
        · obtain ⟨u1, hu1⟩ : ∃ u1, u = u1 + 1 := by
            rcases Nat.eq_zero_or_pos u with q | q
            · rw [q] at c_68; exact absurd (by decide) c_68
            · exact ⟨u - 1, by omega⟩
          subst hu1
          rw [nI_pred] at hl
          have hl : lv_has ls 3 [(2, .int (nI u1)), (0, .ref x), (1, .int (nI kn))] := hl
          have e_b := e_br u1 (by omega)
          refine lv_iload_n hx hb dX3_foldProof_71 rfl (lv_at hl 2 rfl) ?_
          refine lv_iload_n hx hb dX3_foldProof_72 rfl (lv_at hl 0 rfl) ?_
          refine hp_ci (hp_runS (np := 2) (k := 1) (mc := 0) (ms := 0) (As := [.int (nI kn), .int (nI u1)]) (rest := []) EE hm hS (c_X3_bitAt l g M1 (nI kn) (nI u1)) ms_X3_bitAt wt_X3_bitAt wl_X3_83 rfl hl.1 rfl (Nat.le_of_ble_eq_true rfl) dX3_foldProof_73 ⟨Nat.le_of_ble_eq_true rfl, Nat.le_of_ble_eq_true rfl⟩ ⟨(Nat.le_of_ble_eq_true rfl), (Nat.le_of_ble_eq_true rfl)⟩) hS (fun r12 Mx13 H locs hq14 hm hS => ?_)
          obtain ⟨hr9, h9⟩ := hq14
          rw [h9] at hm
          rw [bitA_n hkn (show u1 + (15 - u1) = 15 by omega)] at hr9
          subst hr9
          refine lv_if_ne (tgt := 106) hx hb dX3_foldProof_76 (by decide) (fun c_76 => ?_) (fun c_76 => ?_)
          · have c_76 := bI_t c_76
            refine lv_aload_n hx hb dX3_foldProof_106 rfl (lv_at hl 1 rfl) ?_
            refine hp_get (C := RX3) (T := TX3) (N := 6) (v := .ref h) EE hm e_x inh3 rfl 4 (by decide) wf_X3_33 rfl dX3_foldProof_107 ?_
            refine lv_aload_n hx hb dX3_foldProof_110 rfl (lv_at hl 1 rfl) ?_
            refine hp_get (C := RX3) (T := TX3) (N := 6) (v := .ref pf) EE hm e_x inh3 rfl 3 (by decide) wf_X3_26 rfl dX3_foldProof_111 ?_
            refine hp_get (C := RX2) (T := TX2) (N := 5) (v := .ref bs) EE hm e_pf inh2 rfl 0 (by decide) wf_X3_91 rfl dX3_foldProof_114 ?_
            refine lv_iload_n hx hb dX3_foldProof_117 rfl (lv_at hl 0 rfl) ?_
            refine hp_aaldRN EE hm e_bs u1 rfl (by omega) (by decide) dX3_foldProof_118 ?_
            refine lv_aload_n hx hb dX3_foldProof_119 rfl (lv_at hl 1 rfl) ?_
            refine hp_get (C := RX3) (T := TX3) (N := 6) (v := .ref fo) EE hm e_x inh3 rfl 5 (by decide) wf_X3_37 rfl dX3_foldProof_120 ?_
            refine lv_aload_n hx hb dX3_foldProof_123 rfl (lv_at hl 1 rfl) ?_
            refine hp_get (C := RX3) (T := TX3) (N := 6) (v := .ref fo) EE hm e_x inh3 rfl 5 (by decide) wf_X3_37 rfl dX3_foldProof_124 ?_
            refine hp_cv (hp_runV (C := RX0) (T := TX0) (N := 4) (np := 3) (k := 4) (mc := 0) (ms := 0) (As := [.ref (br u1), .ref fo, .ref fo]) (rest := []) EE hm hS (c_X0_hashPair l g M1 h nm ms sc sa fm2 fs2 fa2 hH1 fo f2 e_fo d2 d3 d4 d1 (br u1) fo (rv u1) f2 e_b e_fo (d5 u1 (by omega)).2.1 d2) ms_X0_hashPair wi_X0_hashPair ws_X0_hashPair wl_X3_158 e_h rfl rfl hl.1 rfl (Nat.le_of_ble_eq_true rfl) dX3_foldProof_127 ⟨Nat.le_of_ble_eq_true rfl, Nat.le_of_ble_eq_true rfl⟩ ⟨(Nat.le_of_ble_eq_true rfl), (Nat.le_of_ble_eq_true rfl)⟩) hS (fun Mx15 H locs hq16 hm hS => ?_)
            obtain ⟨fm3, fs3, fa3, f3, hH3, e_3, hfr3, hf3⟩ := hq16
            obtain ⟨hC3, hRx⟩ := CX.hash hC2 hH3 e_3 hfr3
            have hR3 := hR2.tr hRx (Nat.le_refl _)
            have hN3 : ∀ q y, N q = some y → Mx15 q = M q := fun q y hy => (hfr3 q (nd_ne hW1 hy e_ms) (nd_ne hW1 hy e_sc) (nd_ne hW1 hy e_sa) (nd_ne hW1 hy e_fo)).trans (hN2 q y hy)
            obtain ⟨M3, hM3⟩ : ∃ z, z = Mx15 := ⟨_, rfl⟩
            rw [← hM3] at hm hC3 hR3 hN3
            refine lv_iinc (v := (nI u1) + (-1)) (lv' := [(2, .int ((nI u1) + (-1))), (0, .ref x), (1, .int (nI kn))]) hx hb dX3_foldProof_130 hl (k := 0) rfl rfl (by decide) rfl (fun ls hl => ?_)
            refine lv_goto (tgt := 67) hx hb dX3_foldProof_133 (by decide) ?_
            exact ih u1 M3 fm3 fs3 fa3 f3 H locs ls (by omega) (by omega) hC3 hR3 hN3 (fun j hj => by rw [← hfold j hj]; show _ = foldS (sSb σ) kn u1 (if kn.testBit (15 - u1) then hPair (sSb σ u1) f2 else hPair f2 (sSb σ u1)) j; rw [c_76, if_pos rfl]; exact foldS_w u1 (fun _ _ _ _ => rfl) (fun b hb9 => by rw [hf3 b hb9]; exact hPair_w (fun c9 hc9 => hsb1 u1 (by omega) c9 hc9) (fun _ _ => rfl) hb9) j hj) hm hS (lv_sub hl [0, 1, 2] (by rw [m1_sub]; rfl))
          · have c_76 := bI_f c_76
            refine lv_aload_n hx hb dX3_foldProof_79 rfl (lv_at hl 1 rfl) ?_
            refine hp_get (C := RX3) (T := TX3) (N := 6) (v := .ref h) EE hm e_x inh3 rfl 4 (by decide) wf_X3_33 rfl dX3_foldProof_80 ?_
            refine lv_aload_n hx hb dX3_foldProof_83 rfl (lv_at hl 1 rfl) ?_
            refine hp_get (C := RX3) (T := TX3) (N := 6) (v := .ref fo) EE hm e_x inh3 rfl 5 (by decide) wf_X3_37 rfl dX3_foldProof_84 ?_
            refine lv_aload_n hx hb dX3_foldProof_87 rfl (lv_at hl 1 rfl) ?_
            refine hp_get (C := RX3) (T := TX3) (N := 6) (v := .ref pf) EE hm e_x inh3 rfl 3 (by decide) wf_X3_26 rfl dX3_foldProof_88 ?_
            refine hp_get (C := RX2) (T := TX2) (N := 5) (v := .ref bs) EE hm e_pf inh2 rfl 0 (by decide) wf_X3_91 rfl dX3_foldProof_91 ?_
            refine lv_iload_n hx hb dX3_foldProof_94 rfl (lv_at hl 0 rfl) ?_
            refine hp_aaldRN EE hm e_bs u1 rfl (by omega) (by decide) dX3_foldProof_95 ?_
            refine lv_aload_n hx hb dX3_foldProof_96 rfl (lv_at hl 1 rfl) ?_
            refine hp_get (C := RX3) (T := TX3) (N := 6) (v := .ref fo) EE hm e_x inh3 rfl 5 (by decide) wf_X3_37 rfl dX3_foldProof_97 ?_
            refine hp_cv (hp_runV (C := RX0) (T := TX0) (N := 4) (np := 3) (k := 4) (mc := 0) (ms := 0) (As := [.ref fo, .ref (br u1), .ref fo]) (rest := []) EE hm hS (c_X0_hashPair l g M1 h nm ms sc sa fm2 fs2 fa2 hH1 fo f2 e_fo d2 d3 d4 d1 fo (br u1) f2 (rv u1) e_fo e_b d2 (d5 u1 (by omega)).2.1) ms_X0_hashPair wi_X0_hashPair ws_X0_hashPair wl_X3_158 e_h rfl rfl hl.1 rfl (Nat.le_of_ble_eq_true rfl) dX3_foldProof_100 ⟨Nat.le_of_ble_eq_true rfl, Nat.le_of_ble_eq_true rfl⟩ ⟨(Nat.le_of_ble_eq_true rfl), (Nat.le_of_ble_eq_true rfl)⟩) hS (fun Mx17 H locs hq18 hm hS => ?_)
            obtain ⟨fm3, fs3, fa3, f3, hH3, e_3, hfr3, hf3⟩ := hq18
            obtain ⟨hC3, hRx⟩ := CX.hash hC2 hH3 e_3 hfr3
            have hR3 := hR2.tr hRx (Nat.le_refl _)
            have hN3 : ∀ q y, N q = some y → Mx17 q = M q := fun q y hy => (hfr3 q (nd_ne hW1 hy e_ms) (nd_ne hW1 hy e_sc) (nd_ne hW1 hy e_sa) (nd_ne hW1 hy e_fo)).trans (hN2 q y hy)
            obtain ⟨M3, hM3⟩ : ∃ z, z = Mx17 := ⟨_, rfl⟩
            rw [← hM3] at hm hC3 hR3 hN3
            refine lv_goto (tgt := 130) hx hb dX3_foldProof_103 (by decide) ?_
            refine lv_iinc (v := (nI u1) + (-1)) (lv' := [(2, .int ((nI u1) + (-1))), (0, .ref x), (1, .int (nI kn))]) hx hb dX3_foldProof_130 hl (k := 0) rfl rfl (by decide) rfl (fun ls hl => ?_)
            refine lv_goto (tgt := 67) hx hb dX3_foldProof_133 (by decide) ?_
            exact ih u1 M3 fm3 fs3 fa3 f3 H locs ls (by omega) (by omega) hC3 hR3 hN3 (fun j hj => by rw [← hfold j hj]; show _ = foldS (sSb σ) kn u1 (if kn.testBit (15 - u1) then hPair (sSb σ u1) f2 else hPair f2 (sSb σ u1)) j; rw [c_76]; exact foldS_w u1 (fun _ _ _ _ => rfl) (fun b hb9 => by rw [hf3 b hb9]; exact hPair_w (fun _ _ => rfl) (fun c9 hc9 => hsb1 u1 (by omega) c9 hc9) hb9) j hj) hm hS (lv_sub hl [0, 1, 2] (by rw [m1_sub]; rfl))
    exact lp (sPl σ + 1) (sPl σ) _ _ _ _ _ H locs ls (Nat.le_refl _) (Nat.le_refl _) hC1 hR0 hN0 (foldS_w _ (fun _ _ _ _ => rfl) hend) hm hS (lv_sub hl [0, 1, 2] rfl)
def fitV (σ : cSt) (k : Nat) : Bool := !(sPe σ && decide (nI (alk 16 (sPk σ).toNatClampNeg k) < nI (sPl σ)))
def rVer (σ : cSt) (v k : Int32) : Int32 := if isV σ v && isK k then (if fitV σ k.toNatClampNeg then (if eq8 (foldS (sSb σ) k.toNatClampNeg (sPl σ) (endD σ)) (dgF 16 (mapV σ v)) then (if sPe σ && decide (sPk σ = k) then 1 else 0) else -2) else -2) else -1
def uVer (M : hM) (kf : Nat → Option Nat) (nw : Option Nat) (σ : cSt) (v k : Int32) : Nat := if isV σ v && isK k then (if fitV σ k.toNatClampNeg then udT 16 M (rootR kf nw v) else 0) else 0
set_option maxHeartbeats 4000000 in
set_option maxRecDepth 100000 in
theorem c_X3_verify (l : Launch) (g : hG) (M : hM) (N Z : gT) (x kp pf bs h nm ms sc sa fo : Nat) (br : Nat → Nat) (kf : Nat → Option Nat) (nw : Option Nat) (fm fs fa ff : Nat → Int32) (rv : Nat → Nat → Int32) (σ : cSt) (hC : CX g M N Z x kp pf bs h nm ms sc sa fo br kf nw fm fs fa ff rv σ) (v0 k0 : Int32) : Ci l g yX3_verify cX3_verify 3 .int 22 (uVer M kf nw σ v0 k0) (8 * (uVer M kf nw σ v0 k0)) [.ref x, .int v0, .int k0] M (fun r M9 => r = rVer σ v0 k0 ∧ CP g M N Z x kp pf bs h nm ms sc sa fo br 0 (uVer M kf nw σ v0 k0) M9 (σ)) := by
  have hC0 := hC
  obtain ⟨hW, hH, e_x, e_kp, e_pf, e_bs, e_br, e_fo, hDA, hZn, hok, hvs, hnw, hsb⟩ := hC
  have hok0 := hok
  obtain ⟨hkc, hvg, hgn, hpl, hpk⟩ := hok
  refine hp_startI (by decide) (by exact Nat.le_of_ble_eq_true rfl) ?_
  intro p e s m below meth c Q H locs ls EE hnm ret hm hS hl
  have hx := EE.1
  have hb := EE.2.1
  have hown := EE.2.2.2.1
  have hts := EE.2.2.2.2.1
  have hl : lv_has ls 3 [(0, .ref x), (1, .int v0), (2, .int k0)] := hl
  refine lv_aload_n hx hb dX3_verify_0 rfl (lv_at hl 0 rfl) ?_
  refine lv_iload_n hx hb dX3_verify_1 rfl (lv_at hl 1 rfl) ?_
  refine hp_ci (hp_runV (C := RX3) (T := TX3) (N := 6) (np := 1) (k := 1) (mc := 0) (ms := 0) (As := [.int v0]) (rest := []) EE hm hS (c_X3_isVersion l g M N Z x kp pf bs h nm ms sc sa fo br kf nw fm fs fa ff rv σ hC0 v0) ms_X3_isVersion wi_X3_isVersion ws_X3_isVersion wl_X3_64 e_x rfl rfl hl.1 rfl (Nat.le_of_ble_eq_true rfl) dX3_verify_2 ⟨Nat.le_of_ble_eq_true rfl, Nat.le_of_ble_eq_true rfl⟩ ⟨(by show 0 + 0 ≤ uVer M kf nw σ v0 k0; omega), (by show 0 + 0 ≤ 8 * (uVer M kf nw σ v0 k0); omega)⟩) hS (fun r1 Mx2 H locs hq3 hm hS => ?_)
  obtain ⟨rfl, h9⟩ := hq3
  rw [h9] at hm
  refine lv_if_eq (tgt := 15) hx hb dX3_verify_5 (by decide) (fun c_5 => ?_) (fun c_5 => ?_)
  · have c_5 := bI_f c_5
    refine lv_iconst (v := (-1)) hx hb dX3_verify_15 (by decide) ?_
    exact ret dX3_verify_16 na_i hm hS (by omega) (by omega) (⟨by unfold rVer; first | (rw [c_5]; rfl) | (rw [c_5, c_12]; rfl), by unfold uVer; first | (rw [c_5]; exact CP.rf hC0) | (rw [c_5, c_12]; exact CP.rf hC0)⟩)
  · have c_5 := bI_t c_5
    refine lv_iload_n hx hb dX3_verify_8 rfl (lv_at hl 2 rfl) ?_
    refine hp_ci (hp_runS (np := 1) (k := 1) (mc := 0) (ms := 0) (As := [.int k0]) (rest := []) EE hm hS (c_X3_isKey l g M k0) ms_X3_isKey wt_X3_isKey wl_X3_41 rfl hl.1 rfl (Nat.le_of_ble_eq_true rfl) dX3_verify_9 ⟨Nat.le_of_ble_eq_true rfl, Nat.le_of_ble_eq_true rfl⟩ ⟨(by show 0 + 0 ≤ uVer M kf nw σ v0 k0; omega), (by show 0 + 0 ≤ 8 * (uVer M kf nw σ v0 k0); omega)⟩) hS (fun r4 Mx5 H locs hq6 hm hS => ?_)
    obtain ⟨rfl, h9⟩ := hq6
    rw [h9] at hm
    refine lv_if_ne (tgt := 17) hx hb dX3_verify_12 (by decide) (fun c_12 => ?_) (fun c_12 => ?_)
    · have c_12 := bI_t c_12
      obtain ⟨kn, hkn, hke⟩ := isK_nat c_12
      have hcl : k0.toNatClampNeg = kn := by rw [hke]; exact nI_clamp (by omega)
      have hl : lv_has ls 3 [(0, .ref x), (1, .int v0), (2, .int (nI kn))] := by rw [← hke]; exact hl
      refine lv_aload_n hx hb dX3_verify_17 rfl (lv_at hl 0 rfl) ?_
      refine hp_get (C := RX3) (T := TX3) (N := 6) (v := .ref pf) EE hm e_x inh3 rfl 3 (by decide) wf_X3_26 rfl dX3_verify_18 ?_
      refine hp_get (C := RX2) (T := TX2) (N := 5) (v := .int (bI (sPe σ))) EE hm e_pf inh2 rfl 2 (by decide) wf_X3_114 rfl dX3_verify_21 ?_
      refine lv_if_eq (tgt := 51) hx hb dX3_verify_24 (by decide) (fun c_24 => ?_) (fun c_24 => ?_)
      · have c_24 := bI_f c_24
        have hfit : fitV σ kn = true := by unfold fitV; rw [c_24]; rfl
        refine lv_aload_n hx hb dX3_verify_51 rfl (lv_at hl 0 rfl) ?_
        refine lv_iload_n hx hb dX3_verify_52 rfl (lv_at hl 2 rfl) ?_
        refine hp_cv (hp_runV (C := RX3) (T := TX3) (N := 6) (np := 1) (k := 5) (mc := 0) (ms := 0) (As := [.int (nI kn)]) (rest := []) EE hm hS (c_X3_foldProof l g M N Z x kp pf bs h nm ms sc sa fo br kf nw fm fs fa ff rv σ hC0 kn hkn) ms_X3_foldProof wi_X3_foldProof ws_X3_foldProof wl_X3_123 e_x rfl rfl hl.1 rfl (Nat.le_of_ble_eq_true rfl) dX3_verify_53 ⟨Nat.le_of_ble_eq_true rfl, Nat.le_of_ble_eq_true rfl⟩ ⟨(by show 0 + 0 ≤ uVer M kf nw σ v0 k0; omega), (by show 0 + 0 ≤ 8 * (uVer M kf nw σ v0 k0); omega)⟩) hS (fun Mx7 H locs hq8 hm hS => ?_)
        obtain ⟨fm1, fs1, fa1, f1, hC1, hR1, hfrN, hf1⟩ := hq8
        obtain ⟨hW1, hH1, e_x, e_kp, e_pf, e_bs, e_br, e_fo, -, hZn1, -, hvs1, hnw1, hsb1⟩ := id hC1
        refine lv_aload_n hx hb dX3_verify_56 rfl (lv_at hl 0 rfl) ?_
        refine hp_get (C := RX3) (T := TX3) (N := 6) (v := .ref fo) EE hm e_x inh3 rfl 5 (by decide) wf_X3_37 rfl dX3_verify_57 ?_
        refine lv_aload_n hx hb dX3_verify_60 rfl (lv_at hl 0 rfl) ?_
        refine lv_iload_n hx hb dX3_verify_61 rfl (lv_at hl 1 rfl) ?_
        refine hp_cq (hp_runV (C := RX3) (T := TX3) (N := 6) (np := 1) (k := 1) (mc := 0) (ms := 0) (As := [.int v0]) (rest := [.ref fo]) EE hm hS (c_X3_rootOf l g Mx7 N Z x kp pf bs h nm ms sc sa fo br kf nw fm1 fs1 fa1 f1 rv σ hC1 v0) ms_X3_rootOf wi_X3_rootOf ws_X3_rootOf wl_X3_69 e_x rfl rfl hl.1 rfl (Nat.le_of_ble_eq_true rfl) dX3_verify_62 ⟨Nat.le_of_ble_eq_true rfl, Nat.le_of_ble_eq_true rfl⟩ ⟨(by show 0 + 0 ≤ uVer M kf nw σ v0 k0; omega), (by show 0 + 0 ≤ 8 * (uVer M kf nw σ v0 k0); omega)⟩) hS (fun r9 Mx10 H locs hq11 hm hS => ?_)
        obtain ⟨hro, h9⟩ := hq11
        rw [h9] at hm
        have hrt := rootR_rt hkc hvs1 hnw1 c_5
        rw [← hro] at hrt
        have hu : uVer M kf nw σ v0 k0 = udT 16 Mx7 r9 := by
          unfold uVer
          rw [c_5, c_12, hcl, hfit, hro, if_pos (show (true && true) = true from rfl), if_pos rfl]
          refine (udT_eq hW 16 _ _ (rootR_rt hkc hvs hnw c_5) (fun q hq => ?_)).symm
          obtain ⟨n8, E8, h8, -⟩ := hq
          exact hfrN q _ h8
        refine lv_iconst (v := 0) hx hb dX3_verify_65 (by decide) ?_
        refine lv_aload_n hx hb dX3_verify_66 rfl (lv_at hl 0 rfl) ?_
        refine hp_get (C := RX3) (T := TX3) (N := 6) (v := .ref h) EE hm e_x inh3 rfl 4 (by decide) wf_X3_33 rfl dX3_verify_67 ?_
        refine hp_cq (hp_runS (np := 3) (k := 21) (mc := udT 16 Mx7 r9) (ms := 8 * (udT 16 Mx7 r9)) (As := [va_rf r9, .int 0, .ref h]) (rest := [.ref fo]) EE hm hS (c_X3_digestOf l g N h nm ms sc sa 16 Mx7 Z fm1 fs1 fa1 r9 (mapV σ v0) 0 hW1 hH1 (hZn1 ms (Or.inr (Or.inl rfl))) (hZn1 sc (Or.inr (Or.inr (Or.inl rfl)))) (hZn1 sa (Or.inr (Or.inr (Or.inr (Or.inl rfl))))) hrt rfl) ms_X3_digestOf wt_X3_digestOf wl_X3_79 rfl hl.1 rfl (Nat.le_of_ble_eq_true rfl) dX3_verify_70 ⟨Nat.le_of_ble_eq_true rfl, Nat.le_of_ble_eq_true rfl⟩ ⟨(by show 0 + udT 16 Mx7 r9 ≤ uVer M kf nw σ v0 k0; omega), (by show 0 + 8 * (udT 16 Mx7 r9) ≤ 8 * (uVer M kf nw σ v0 k0); omega)⟩) hS (fun r12 Mx13 H locs hq14 hm hS => ?_)
        obtain ⟨Z9, fm9, fs9, fa9, b9, f9, hb9, hW9, hH9, e_9, hf9, -, hR9⟩ := hq14
        subst hb9
        obtain ⟨hC9, hR9⟩ := CX.dg hC1 hW9 hH9 hR9
        obtain ⟨-, -, e_x, -, e_pf, -, -, e_fo, -⟩ := id hC9
        refine hp_ci (hp_runS (np := 2) (k := 1) (mc := 0) (ms := 0) (As := [.ref fo, .ref b9]) (rest := []) EE hm hS (c_X3_sameWords l g Mx13 fo b9 f1 f9 e_fo e_9) ms_X3_sameWords wt_X3_sameWords wl_X3_127 rfl hl.1 rfl (Nat.le_of_ble_eq_true rfl) dX3_verify_73 ⟨Nat.le_of_ble_eq_true rfl, Nat.le_of_ble_eq_true rfl⟩ ⟨(by show 0 + (udT 16 Mx7 r9) + 0 ≤ uVer M kf nw σ v0 k0; omega), (by show 0 + (8 * (udT 16 Mx7 r9)) + 0 ≤ 8 * (uVer M kf nw σ v0 k0); omega)⟩) hS (fun r15 Mx16 H locs hq17 hm hS => ?_)
        obtain ⟨hr9, h9⟩ := hq17
        rw [h9] at hm
        rw [eq8_w hf1 hf9] at hr9
        subst hr9
        have hPP : CP g M N Z x kp pf bs h nm ms sc sa fo br 0 (uVer M kf nw σ v0 k0) Mx13 σ := by rw [hu]; exact (hR1.tr hR9 (by omega)).CP hC9
        refine lv_if_ne (tgt := 82) hx hb dX3_verify_76 (by decide) (fun c_76 => ?_) (fun c_76 => ?_)
        · have c_76 := bI_t c_76
          refine lv_aload_n hx hb dX3_verify_82 rfl (lv_at hl 0 rfl) ?_
          refine hp_get (C := RX3) (T := TX3) (N := 6) (v := .ref pf) EE hm e_x inh3 rfl 3 (by decide) wf_X3_26 rfl dX3_verify_83 ?_
          refine hp_get (C := RX2) (T := TX2) (N := 5) (v := .int (bI (sPe σ))) EE hm e_pf inh2 rfl 2 (by decide) wf_X3_114 rfl dX3_verify_86 ?_
          refine lv_if_eq (tgt := 107) hx hb dX3_verify_89 (by decide) (fun c_89 => ?_) (fun c_89 => ?_)
          · have c_89 := bI_f c_89
            refine lv_iconst (v := 0) hx hb dX3_verify_107 (by decide) ?_
            exact ret dX3_verify_108 na_i hm hS (by omega) (by omega) (⟨by unfold rVer; rw [c_5, c_12, hcl, hfit, c_76]; first | (rw [c_89]; rfl) | (rw [c_89, hke, decide_eq_true c_100]; rfl) | (rw [c_89, hke, decide_eq_false c_100]; rfl), hPP⟩)
          · have c_89 := bI_t c_89
            refine lv_aload_n hx hb dX3_verify_92 rfl (lv_at hl 0 rfl) ?_
            refine hp_get (C := RX3) (T := TX3) (N := 6) (v := .ref pf) EE hm e_x inh3 rfl 3 (by decide) wf_X3_26 rfl dX3_verify_93 ?_
            refine hp_get (C := RX2) (T := TX2) (N := 5) (v := .int (sPk σ)) EE hm e_pf inh2 rfl 3 (by decide) wf_X3_118 rfl dX3_verify_96 ?_
            refine lv_iload_n hx hb dX3_verify_99 rfl (lv_at hl 2 rfl) ?_
            refine lv_icmp_ne (tgt := 107) hx hb dX3_verify_100 (by decide) (fun c_100 => ?_) (fun c_100 => ?_)
            · refine lv_iconst (v := 0) hx hb dX3_verify_107 (by decide) ?_
              exact ret dX3_verify_108 na_i hm hS (by omega) (by omega) (⟨by unfold rVer; rw [c_5, c_12, hcl, hfit, c_76]; first | (rw [c_89]; rfl) | (rw [c_89, hke, decide_eq_true c_100]; rfl) | (rw [c_89, hke, decide_eq_false c_100]; rfl), hPP⟩)
            · refine lv_iconst (v := 1) hx hb dX3_verify_103 (by decide) ?_
              refine lv_goto (tgt := 108) hx hb dX3_verify_104 (by decide) ?_
              exact ret dX3_verify_108 na_i hm hS (by omega) (by omega) (⟨by unfold rVer; rw [c_5, c_12, hcl, hfit, c_76]; first | (rw [c_89]; rfl) | (rw [c_89, hke, decide_eq_true c_100]; rfl) | (rw [c_89, hke, decide_eq_false c_100]; rfl), hPP⟩)
        · have c_76 := bI_f c_76
          refine lv_bipush (v := (-2)) hx hb dX3_verify_79 (by decide) ?_
          exact ret dX3_verify_81 na_i hm hS (by omega) (by omega) (⟨by unfold rVer; rw [c_5, c_12, hcl, hfit, c_76]; rfl, hPP⟩)
      · have c_24 := bI_t c_24
        obtain ⟨pk, hpk1, hpk2⟩ := hpk.1 c_24
        have hpc : (sPk σ).toNatClampNeg = pk := by rw [hpk2]; exact nI_clamp (by omega)
        have e_pf2 : M pf = some (.inr (2, [.ref bs, .int (nI (sPl σ)), .int (bI (sPe σ)), .int (nI pk), .int (sPv σ)])) := by rw [← hpk2]; exact e_pf
        refine lv_aload_n hx hb dX3_verify_27 rfl (lv_at hl 0 rfl) ?_
        refine hp_get (C := RX3) (T := TX3) (N := 6) (v := .ref pf) EE hm e_x inh3 rfl 3 (by decide) wf_X3_26 rfl dX3_verify_28 ?_
        refine hp_get (C := RX2) (T := TX2) (N := 5) (v := .int (nI pk)) EE hm e_pf2 inh2 rfl 3 (by decide) wf_X3_118 rfl dX3_verify_31 ?_
        refine lv_iload_n hx hb dX3_verify_34 rfl (lv_at hl 2 rfl) ?_
        refine hp_ci (hp_runS (np := 2) (k := 2) (mc := 0) (ms := 0) (As := [.int (nI pk), .int (nI kn)]) (rest := []) EE hm hS (c_X3_sameFirstBits l g M pk kn hpk1 hkn) ms_X3_sameFirstBits wt_X3_sameFirstBits wl_X3_120 rfl hl.1 rfl (Nat.le_of_ble_eq_true rfl) dX3_verify_35 ⟨Nat.le_of_ble_eq_true rfl, Nat.le_of_ble_eq_true rfl⟩ ⟨(by show 0 + 0 ≤ uVer M kf nw σ v0 k0; omega), (by show 0 + 0 ≤ 8 * (uVer M kf nw σ v0 k0); omega)⟩) hS (fun r18 Mx19 H locs hq20 hm hS => ?_)
        obtain ⟨rfl, h9⟩ := hq20
        rw [h9] at hm
        refine lv_aload_n hx hb dX3_verify_38 rfl (lv_at hl 0 rfl) ?_
        refine hp_get (C := RX3) (T := TX3) (N := 6) (v := .ref pf) EE hm e_x inh3 rfl 3 (by decide) wf_X3_26 rfl dX3_verify_39 ?_
        refine hp_get (C := RX2) (T := TX2) (N := 5) (v := .int (nI (sPl σ))) EE hm e_pf2 inh2 rfl 1 (by decide) wf_X3_99 rfl dX3_verify_42 ?_
        refine lv_icmp_ge (tgt := 51) hx hb dX3_verify_45 (by decide) (fun c_45 => ?_) (fun c_45 => ?_)
        · have hfit : fitV σ kn = true := by unfold fitV; rw [c_24, hpc, decide_eq_false (Int32.not_lt.mpr c_45)]; rfl
          refine lv_aload_n hx hb dX3_verify_51 rfl (lv_at hl 0 rfl) ?_
          refine lv_iload_n hx hb dX3_verify_52 rfl (lv_at hl 2 rfl) ?_
          refine hp_cv (hp_runV (C := RX3) (T := TX3) (N := 6) (np := 1) (k := 5) (mc := 0) (ms := 0) (As := [.int (nI kn)]) (rest := []) EE hm hS (c_X3_foldProof l g M N Z x kp pf bs h nm ms sc sa fo br kf nw fm fs fa ff rv σ hC0 kn hkn) ms_X3_foldProof wi_X3_foldProof ws_X3_foldProof wl_X3_123 e_x rfl rfl hl.1 rfl (Nat.le_of_ble_eq_true rfl) dX3_verify_53 ⟨Nat.le_of_ble_eq_true rfl, Nat.le_of_ble_eq_true rfl⟩ ⟨(by show 0 + 0 ≤ uVer M kf nw σ v0 k0; omega), (by show 0 + 0 ≤ 8 * (uVer M kf nw σ v0 k0); omega)⟩) hS (fun Mx21 H locs hq22 hm hS => ?_)
          obtain ⟨fm1, fs1, fa1, f1, hC1, hR1, hfrN, hf1⟩ := hq22
          obtain ⟨hW1, hH1, e_x, e_kp, e_pf, e_bs, e_br, e_fo, -, hZn1, -, hvs1, hnw1, hsb1⟩ := id hC1
          refine lv_aload_n hx hb dX3_verify_56 rfl (lv_at hl 0 rfl) ?_
          refine hp_get (C := RX3) (T := TX3) (N := 6) (v := .ref fo) EE hm e_x inh3 rfl 5 (by decide) wf_X3_37 rfl dX3_verify_57 ?_
          refine lv_aload_n hx hb dX3_verify_60 rfl (lv_at hl 0 rfl) ?_
          refine lv_iload_n hx hb dX3_verify_61 rfl (lv_at hl 1 rfl) ?_
          refine hp_cq (hp_runV (C := RX3) (T := TX3) (N := 6) (np := 1) (k := 1) (mc := 0) (ms := 0) (As := [.int v0]) (rest := [.ref fo]) EE hm hS (c_X3_rootOf l g Mx21 N Z x kp pf bs h nm ms sc sa fo br kf nw fm1 fs1 fa1 f1 rv σ hC1 v0) ms_X3_rootOf wi_X3_rootOf ws_X3_rootOf wl_X3_69 e_x rfl rfl hl.1 rfl (Nat.le_of_ble_eq_true rfl) dX3_verify_62 ⟨Nat.le_of_ble_eq_true rfl, Nat.le_of_ble_eq_true rfl⟩ ⟨(by show 0 + 0 ≤ uVer M kf nw σ v0 k0; omega), (by show 0 + 0 ≤ 8 * (uVer M kf nw σ v0 k0); omega)⟩) hS (fun r23 Mx24 H locs hq25 hm hS => ?_)
          obtain ⟨hro, h9⟩ := hq25
          rw [h9] at hm
          have hrt := rootR_rt hkc hvs1 hnw1 c_5
          rw [← hro] at hrt
          have hu : uVer M kf nw σ v0 k0 = udT 16 Mx21 r23 := by
            unfold uVer
            rw [c_5, c_12, hcl, hfit, hro, if_pos (show (true && true) = true from rfl), if_pos rfl]
            refine (udT_eq hW 16 _ _ (rootR_rt hkc hvs hnw c_5) (fun q hq => ?_)).symm
            obtain ⟨n8, E8, h8, -⟩ := hq
            exact hfrN q _ h8
          refine lv_iconst (v := 0) hx hb dX3_verify_65 (by decide) ?_
          refine lv_aload_n hx hb dX3_verify_66 rfl (lv_at hl 0 rfl) ?_
          refine hp_get (C := RX3) (T := TX3) (N := 6) (v := .ref h) EE hm e_x inh3 rfl 4 (by decide) wf_X3_33 rfl dX3_verify_67 ?_
          refine hp_cq (hp_runS (np := 3) (k := 21) (mc := udT 16 Mx21 r23) (ms := 8 * (udT 16 Mx21 r23)) (As := [va_rf r23, .int 0, .ref h]) (rest := [.ref fo]) EE hm hS (c_X3_digestOf l g N h nm ms sc sa 16 Mx21 Z fm1 fs1 fa1 r23 (mapV σ v0) 0 hW1 hH1 (hZn1 ms (Or.inr (Or.inl rfl))) (hZn1 sc (Or.inr (Or.inr (Or.inl rfl)))) (hZn1 sa (Or.inr (Or.inr (Or.inr (Or.inl rfl))))) hrt rfl) ms_X3_digestOf wt_X3_digestOf wl_X3_79 rfl hl.1 rfl (Nat.le_of_ble_eq_true rfl) dX3_verify_70 ⟨Nat.le_of_ble_eq_true rfl, Nat.le_of_ble_eq_true rfl⟩ ⟨(by show 0 + udT 16 Mx21 r23 ≤ uVer M kf nw σ v0 k0; omega), (by show 0 + 8 * (udT 16 Mx21 r23) ≤ 8 * (uVer M kf nw σ v0 k0); omega)⟩) hS (fun r26 Mx27 H locs hq28 hm hS => ?_)
          obtain ⟨Z9, fm9, fs9, fa9, b9, f9, hb9, hW9, hH9, e_9, hf9, -, hR9⟩ := hq28
          subst hb9
          obtain ⟨hC9, hR9⟩ := CX.dg hC1 hW9 hH9 hR9
          obtain ⟨-, -, e_x, -, e_pf, -, -, e_fo, -⟩ := id hC9
          refine hp_ci (hp_runS (np := 2) (k := 1) (mc := 0) (ms := 0) (As := [.ref fo, .ref b9]) (rest := []) EE hm hS (c_X3_sameWords l g Mx27 fo b9 f1 f9 e_fo e_9) ms_X3_sameWords wt_X3_sameWords wl_X3_127 rfl hl.1 rfl (Nat.le_of_ble_eq_true rfl) dX3_verify_73 ⟨Nat.le_of_ble_eq_true rfl, Nat.le_of_ble_eq_true rfl⟩ ⟨(by show 0 + (udT 16 Mx21 r23) + 0 ≤ uVer M kf nw σ v0 k0; omega), (by show 0 + (8 * (udT 16 Mx21 r23)) + 0 ≤ 8 * (uVer M kf nw σ v0 k0); omega)⟩) hS (fun r29 Mx30 H locs hq31 hm hS => ?_)
          obtain ⟨hr9, h9⟩ := hq31
          rw [h9] at hm
          rw [eq8_w hf1 hf9] at hr9
          subst hr9
          have hPP : CP g M N Z x kp pf bs h nm ms sc sa fo br 0 (uVer M kf nw σ v0 k0) Mx27 σ := by rw [hu]; exact (hR1.tr hR9 (by omega)).CP hC9
          refine lv_if_ne (tgt := 82) hx hb dX3_verify_76 (by decide) (fun c_76 => ?_) (fun c_76 => ?_)
          · have c_76 := bI_t c_76
            refine lv_aload_n hx hb dX3_verify_82 rfl (lv_at hl 0 rfl) ?_
            refine hp_get (C := RX3) (T := TX3) (N := 6) (v := .ref pf) EE hm e_x inh3 rfl 3 (by decide) wf_X3_26 rfl dX3_verify_83 ?_
            refine hp_get (C := RX2) (T := TX2) (N := 5) (v := .int (bI (sPe σ))) EE hm e_pf inh2 rfl 2 (by decide) wf_X3_114 rfl dX3_verify_86 ?_
            refine lv_if_eq (tgt := 107) hx hb dX3_verify_89 (by decide) (fun c_89 => ?_) (fun c_89 => ?_)
            · have c_89 := bI_f c_89
              refine lv_iconst (v := 0) hx hb dX3_verify_107 (by decide) ?_
              exact ret dX3_verify_108 na_i hm hS (by omega) (by omega) (⟨by unfold rVer; rw [c_5, c_12, hcl, hfit, c_76]; first | (rw [c_89]; rfl) | (rw [c_89, hke, decide_eq_true c_100]; rfl) | (rw [c_89, hke, decide_eq_false c_100]; rfl), hPP⟩)
            · have c_89 := bI_t c_89
              refine lv_aload_n hx hb dX3_verify_92 rfl (lv_at hl 0 rfl) ?_
              refine hp_get (C := RX3) (T := TX3) (N := 6) (v := .ref pf) EE hm e_x inh3 rfl 3 (by decide) wf_X3_26 rfl dX3_verify_93 ?_
              refine hp_get (C := RX2) (T := TX2) (N := 5) (v := .int (sPk σ)) EE hm e_pf inh2 rfl 3 (by decide) wf_X3_118 rfl dX3_verify_96 ?_
              refine lv_iload_n hx hb dX3_verify_99 rfl (lv_at hl 2 rfl) ?_
              refine lv_icmp_ne (tgt := 107) hx hb dX3_verify_100 (by decide) (fun c_100 => ?_) (fun c_100 => ?_)
              · refine lv_iconst (v := 0) hx hb dX3_verify_107 (by decide) ?_
                exact ret dX3_verify_108 na_i hm hS (by omega) (by omega) (⟨by unfold rVer; rw [c_5, c_12, hcl, hfit, c_76]; first | (rw [c_89]; rfl) | (rw [c_89, hke, decide_eq_true c_100]; rfl) | (rw [c_89, hke, decide_eq_false c_100]; rfl), hPP⟩)
              · refine lv_iconst (v := 1) hx hb dX3_verify_103 (by decide) ?_
                refine lv_goto (tgt := 108) hx hb dX3_verify_104 (by decide) ?_
                exact ret dX3_verify_108 na_i hm hS (by omega) (by omega) (⟨by unfold rVer; rw [c_5, c_12, hcl, hfit, c_76]; first | (rw [c_89]; rfl) | (rw [c_89, hke, decide_eq_true c_100]; rfl) | (rw [c_89, hke, decide_eq_false c_100]; rfl), hPP⟩)
          · have c_76 := bI_f c_76
            refine lv_bipush (v := (-2)) hx hb dX3_verify_79 (by decide) ?_
            exact ret dX3_verify_81 na_i hm hS (by omega) (by omega) (⟨by unfold rVer; rw [c_5, c_12, hcl, hfit, c_76]; rfl, hPP⟩)
        · have hfit : fitV σ kn = false := by unfold fitV; rw [c_24, hpc, decide_eq_true (Int32.not_le.mp c_45)]; rfl
          refine lv_bipush (v := (-2)) hx hb dX3_verify_48 (by decide) ?_
          exact ret dX3_verify_50 na_i hm hS (by omega) (by omega) (⟨by unfold rVer; rw [c_5, c_12, hcl, hfit]; rfl, by unfold uVer; rw [c_5, c_12, hcl, hfit]; exact CP.rf hC0⟩)
    · have c_12 := bI_f c_12
      refine lv_iconst (v := (-1)) hx hb dX3_verify_15 (by decide) ?_
      exact ret dX3_verify_16 na_i hm hS (by omega) (by omega) (⟨by unfold rVer; first | (rw [c_5]; rfl) | (rw [c_5, c_12]; rfl), by unfold uVer; first | (rw [c_5]; exact CP.rf hC0) | (rw [c_5, c_12]; exact CP.rf hC0)⟩)
