section HA
variable {p : Program} {l : Launch} {e : Env} {R : Room} {s : State} {m : MethodId} {args : Array Value} {below : List Frame} {meth : Method} {c : Code} {H : Heap} {locs : List Loc} {cells slots : Nat} {Q : State → Prop}
variable {cc : ByteArray} {pc : Nat} {ls : Array Slot} {rest : List Value} {a : Nat} {g : hG} {M : hM} {own : String} {nL : Nat}
theorem hp_aaldNN (E : hE p c cc nL s args m own g) (hm : hp g M H) {n : Nat} {f : Nat → Option Nat} (he : M a = some (aN g n f)) {x : Int32} (i : Nat) (hi : x = nI i) (hlt : i < n) (hn : n < 2 ^ 31) (hdg : decode cc pc = .ok (.aaload, 1))
    (kk : W p l e R s m args below meth c H locs cells slots Q (F0 m (pc + 1) ls (va_rf (f i) :: rest))) : W p l e R s m args below meth c H locs cells slots Q (F0 m pc ls (.int x :: .ref a :: rest)) := by
  subst hi
  refine hp_aaldN E hm he (vp_in_nI hlt hn) hdg ?_
  rw [nI_clamp (by omega)]
  exact kk
theorem hp_aaldRN (E : hE p c cc nL s args m own g) (hm : hp g M H) {n : Nat} {f : Nat → Nat} (he : M a = some (aR g n (fun i => some (f i)))) {x : Int32} (i : Nat) (hi : x = nI i) (hlt : i < n) (hn : n < 2 ^ 31) (hdg : decode cc pc = .ok (.aaload, 1))
    (kk : W p l e R s m args below meth c H locs cells slots Q (F0 m (pc + 1) ls (.ref (f i) :: rest))) : W p l e R s m args below meth c H locs cells slots Q (F0 m pc ls (.int x :: .ref a :: rest)) := by
  subst hi
  refine hp_aaldR E hm he (vp_in_nI hlt hn) hdg ?_
  rw [nI_clamp (by omega)]
  exact kk
end HA
/-! the state that both programs hold: the map now, the versions, the proof at hand -/
abbrev cSt : Type := En × Nat × (Nat → En) × Nat × Bool × Int32 × Int32 × (Nat → Nat → Int32)
abbrev sNow (σ : cSt) : En := σ.1
abbrev sKc (σ : cSt) : Nat := σ.2.1
abbrev sVs (σ : cSt) : Nat → En := σ.2.2.1
abbrev sPl (σ : cSt) : Nat := σ.2.2.2.1
abbrev sPe (σ : cSt) : Bool := σ.2.2.2.2.1
abbrev sPk (σ : cSt) : Int32 := σ.2.2.2.2.2.1
abbrev sPv (σ : cSt) : Int32 := σ.2.2.2.2.2.2.1
abbrev sSb (σ : cSt) : Nat → Nat → Int32 := σ.2.2.2.2.2.2.2
def gE (E : En) : Prop := srt E ∧ E.length ≤ 300 ∧ ∀ x ∈ E, x.1 < 65536
def pOK (σ : cSt) : Prop := (sPe σ = true → ∃ k, k < 65536 ∧ sPk σ = nI k) ∧ (sPe σ = false → sPk σ = 0 ∧ sPv σ = 0)
/-- the state as such -/
def sOK (σ : cSt) : Prop := sKc σ ≤ 60 ∧ (∀ j, j < sKc σ → gE (sVs σ j)) ∧ gE (sNow σ) ∧ sPl σ ≤ 16 ∧ pOK σ
def isV (σ : cSt) (v : Int32) : Bool := decide (-1 ≤ v) && decide (v < nI (sKc σ))
def mapV (σ : cSt) (v : Int32) : En := if 0 ≤ v then sVs σ v.toNatClampNeg else sNow σ
theorem isV_nat {σ : cSt} {v : Int32} (hk : sKc σ ≤ 60) (h : isV σ v = true) : (v = -1 ∧ mapV σ v = sNow σ) ∨ ∃ j, j < sKc σ ∧ v = nI j ∧ mapV σ v = sVs σ j := by
  unfold isV at h
  rw [Bool.and_eq_true, decide_eq_true_eq, decide_eq_true_eq] at h
  obtain ⟨h1, h2⟩ := h
  by_cases h0 : v < 0
  · left
    have : v = -1 := by
      rw [Int32.le_iff_toInt_le] at h1
      rw [Int32.lt_iff_toInt_lt] at h0
      apply Int32.toInt_inj.mp
      have e1 : (-1 : Int32).toInt = -1 := by decide
      have e0 : (0 : Int32).toInt = 0 := by decide
      omega
    refine ⟨this, ?_⟩
    unfold mapV
    rw [if_neg (by rw [this]; decide)]
  · right
    obtain ⟨j, hj, rfl⟩ := nI_of h0
    refine ⟨j, (nI_ltI hj (by omega)).mp h2, rfl, ?_⟩
    unfold mapV
    rw [if_pos (i_nlt0 h0), nI_clamp hj]
/-- the rows of numbers that are the class's own, apart from each other -/
def DA (nm ms sc sa fo : Nat) (br : Nat → Nat) : Prop := fo ≠ nm ∧ fo ≠ ms ∧ fo ≠ sc ∧ fo ≠ sa ∧ (∀ i, i < 16 → br i ≠ nm ∧ br i ≠ ms ∧ br i ≠ sc ∧ br i ≠ sa ∧ br i ≠ fo) ∧ ∀ i j, i < 16 → j < 16 → br i = br j → i = j
def fxa (nm ms sc sa fo : Nat) (br : Nat → Nat) (q : Nat) : Prop := q = nm ∨ q = ms ∨ q = sc ∨ q = sa ∨ q = fo ∨ ∃ i, i < 16 ∧ q = br i
/-- the class's world -/
def CX (g : hG) (M : hM) (N Z : gT) (x kp pf bs h nm ms sc sa fo : Nat) (br : Nat → Nat) (kf : Nat → Option Nat) (nw : Option Nat) (fm fs fa ff : Nat → Int32) (rv : Nat → Nat → Int32) (σ : cSt) : Prop :=
  WF g M N Z ∧ HS g M h nm ms sc sa fm fs fa ∧ M x = some (.inr (3, [.ref kp, .int (nI (sKc σ)), va_rf nw, .ref pf, .ref h, .ref fo])) ∧ M kp = some (aN g 60 kf) ∧
  M pf = some (.inr (2, [.ref bs, .int (nI (sPl σ)), .int (bI (sPe σ)), .int (sPk σ), .int (sPv σ)])) ∧ M bs = some (aR g 16 (fun i => some (br i))) ∧ (∀ i, i < 16 → M (br i) = some (aI g 8 (rv i))) ∧ M fo = some (aI g 8 ff) ∧
  DA nm ms sc sa fo br ∧ (∀ q, fxa nm ms sc sa fo br q → Z q = none) ∧ sOK σ ∧ (∀ j, j < sKc σ → rt N (kf j) 16 (sVs σ j)) ∧ rt N nw 16 (sNow σ) ∧ ∀ i, i < sPl σ → ∀ j, j < 8 → rv i j = sSb σ i j
def rootR (kf : Nat → Option Nat) (nw : Option Nat) (v : Int32) : Option Nat := if 0 ≤ v ∧ v < 60 then kf v.toNatClampNeg else nw
theorem vp_in60 {v : Int32} {n : Nat} (hn : n < 2 ^ 31) (h : ¬ v < 0) (h2 : ¬ nI n ≤ v) : vp_in v n := by
  obtain ⟨j, hj, rfl⟩ := nI_of h
  refine vp_in_nI ?_ hn
  rcases Nat.lt_or_ge j n with q | q
  · exact q
  · exact absurd (nI_le q hj) h2
theorem isV_a {σ : cSt} {v : Int32} (h : v < -1) : isV σ v = false := by unfold isV; rw [decide_eq_false (Int32.not_le.mpr h)]; rfl
theorem isV_b {σ : cSt} {v : Int32} (h : nI (sKc σ) ≤ v) : isV σ v = false := by unfold isV; rw [decide_eq_false (Int32.not_lt.mpr h), Bool.and_false]
theorem isV_c {σ : cSt} {v : Int32} (h : ¬ v < -1) (h2 : ¬ nI (sKc σ) ≤ v) : isV σ v = true := by unfold isV; rw [decide_eq_true (Int32.not_lt.mp h), decide_eq_true (Int32.not_le.mp h2)]; rfl
def isS (σ : cSt) (k : Int32) : Bool := decide (0 ≤ k) && decide (k < nI (sPl σ))
theorem isS_a {σ : cSt} {v : Int32} (h : v < 0) : isS σ v = false := by unfold isS; rw [decide_eq_false (Int32.not_le.mpr h)]; rfl
theorem isS_b {σ : cSt} {v : Int32} (h : nI (sPl σ) ≤ v) : isS σ v = false := by unfold isS; rw [decide_eq_false (Int32.not_lt.mpr h), Bool.and_false]
theorem isS_c {σ : cSt} {v : Int32} (h : ¬ v < 0) (h2 : ¬ nI (sPl σ) ≤ v) : isS σ v = true := by unfold isS; rw [decide_eq_true (Int32.not_lt.mp h), decide_eq_true (Int32.not_le.mp h2)]; rfl
theorem isS_nat {σ : cSt} {v : Int32} (hl : sPl σ ≤ 16) (h : isS σ v = true) : ∃ j, j < sPl σ ∧ v = nI j := by
  unfold isS at h
  rw [Bool.and_eq_true, decide_eq_true_eq, decide_eq_true_eq] at h
  obtain ⟨j, hj, rfl⟩ := nI_of (Int32.not_lt.mpr h.1)
  exact ⟨j, (nI_ltI hj (by omega)).mp h.2, rfl⟩
theorem isW_nat {v : Int32} (h : isW v = true) : ∃ j, j < 8 ∧ v = nI j := by
  unfold isW at h
  rw [Bool.and_eq_true, decide_eq_true_eq, decide_eq_true_eq] at h
  obtain ⟨j, hj, rfl⟩ := nI_of (Int32.not_lt.mpr h.1)
  exact ⟨j, (nI_ltI (b := 8) hj (by decide)).mp h.2, rfl⟩
theorem isK_nat {v : Int32} (h : isK v = true) : ∃ j, j < 65536 ∧ v = nI j := by
  unfold isK at h
  rw [Bool.and_eq_true, decide_eq_true_eq, decide_eq_true_eq] at h
  obtain ⟨j, hj, rfl⟩ := nI_of (Int32.not_lt.mpr h.1)
  exact ⟨j, (nI_ltI (b := 65536) hj (by decide)).mp h.2, rfl⟩
set_option maxHeartbeats 4000000 in
set_option maxRecDepth 100000 in
theorem c_X3_isVersion (l : Launch) (g : hG) (M : hM) (N Z : gT) (x kp pf bs h nm ms sc sa fo : Nat) (br : Nat → Nat) (kf : Nat → Option Nat) (nw : Option Nat) (fm fs fa ff : Nat → Int32) (rv : Nat → Nat → Int32) (σ : cSt) (hC : CX g M N Z x kp pf bs h nm ms sc sa fo br kf nw fm fs fa ff rv σ) (v0 : Int32) : Ci l g yX3_isVersion cX3_isVersion 2 .boolean 1 0 0 [.ref x, .int v0] M (fun r M9 => r = bI (isV σ v0) ∧ M9 = M) := by
  have hC0 := hC
  obtain ⟨hW, hH, e_x, e_kp, e_pf, e_bs, e_br, e_fo, hDA, hZn, hok, hvs, hnw, hsb⟩ := hC
  obtain ⟨hkc, hvg, hgn, hpl, hpk⟩ := hok
  refine hp_startI (by decide) (by exact Nat.le_of_ble_eq_true rfl) ?_
  intro p e s m below meth c Q H locs ls EE hnm ret hm hS hl
  have hx := EE.1
  have hb := EE.2.1
  have hown := EE.2.2.2.1
  have hts := EE.2.2.2.2.1
  have hl : lv_has ls 2 [(0, .ref x), (1, .int v0)] := hl
  refine lv_iload_n hx hb dX3_isVersion_0 rfl (lv_at hl 1 rfl) ?_
  refine lv_iconst (v := (-1)) hx hb dX3_isVersion_1 (by decide) ?_
  refine lv_icmp_lt (tgt := 17) hx hb dX3_isVersion_2 (by decide) (fun c_2 => ?_) (fun c_2 => ?_)
  · refine lv_iconst (v := 0) hx hb dX3_isVersion_17 (by decide) ?_
    exact ret dX3_isVersion_18 na_0 hm hS (Nat.le_of_ble_eq_true rfl) (Nat.le_of_ble_eq_true rfl) (⟨by first | (rw [isV_a c_2]; rfl) | (rw [isV_b c_10]; rfl) | (rw [isV_c c_2 c_10]; rfl), rfl⟩)
  · refine lv_iload_n hx hb dX3_isVersion_5 rfl (lv_at hl 1 rfl) ?_
    refine lv_aload_n hx hb dX3_isVersion_6 rfl (lv_at hl 0 rfl) ?_
    refine hp_get (C := RX3) (T := TX3) (N := 6) (v := .int (nI (sKc σ))) EE hm e_x inh3 rfl 1 (by decide) wf_X3_15 rfl dX3_isVersion_7 ?_
    refine lv_icmp_ge (tgt := 17) hx hb dX3_isVersion_10 (by decide) (fun c_10 => ?_) (fun c_10 => ?_)
    · refine lv_iconst (v := 0) hx hb dX3_isVersion_17 (by decide) ?_
      exact ret dX3_isVersion_18 na_0 hm hS (Nat.le_of_ble_eq_true rfl) (Nat.le_of_ble_eq_true rfl) (⟨by first | (rw [isV_a c_2]; rfl) | (rw [isV_b c_10]; rfl) | (rw [isV_c c_2 c_10]; rfl), rfl⟩)
    · refine lv_iconst (v := 1) hx hb dX3_isVersion_13 (by decide) ?_
      refine lv_goto (tgt := 18) hx hb dX3_isVersion_14 (by decide) ?_
      exact ret dX3_isVersion_18 na_1 hm hS (Nat.le_of_ble_eq_true rfl) (Nat.le_of_ble_eq_true rfl) (⟨by first | (rw [isV_a c_2]; rfl) | (rw [isV_b c_10]; rfl) | (rw [isV_c c_2 c_10]; rfl), rfl⟩)
set_option maxHeartbeats 4000000 in
set_option maxRecDepth 100000 in
theorem c_X3_isSibling (l : Launch) (g : hG) (M : hM) (N Z : gT) (x kp pf bs h nm ms sc sa fo : Nat) (br : Nat → Nat) (kf : Nat → Option Nat) (nw : Option Nat) (fm fs fa ff : Nat → Int32) (rv : Nat → Nat → Int32) (σ : cSt) (hC : CX g M N Z x kp pf bs h nm ms sc sa fo br kf nw fm fs fa ff rv σ) (v0 : Int32) : Ci l g yX3_isSibling cX3_isSibling 2 .boolean 1 0 0 [.ref x, .int v0] M (fun r M9 => r = bI (isS σ v0) ∧ M9 = M) := by
  have hC0 := hC
  obtain ⟨hW, hH, e_x, e_kp, e_pf, e_bs, e_br, e_fo, hDA, hZn, hok, hvs, hnw, hsb⟩ := hC
  obtain ⟨hkc, hvg, hgn, hpl, hpk⟩ := hok
  refine hp_startI (by decide) (by exact Nat.le_of_ble_eq_true rfl) ?_
  intro p e s m below meth c Q H locs ls EE hnm ret hm hS hl
  have hx := EE.1
  have hb := EE.2.1
  have hown := EE.2.2.2.1
  have hts := EE.2.2.2.2.1
  have hl : lv_has ls 2 [(0, .ref x), (1, .int v0)] := hl
  refine lv_iload_n hx hb dX3_isSibling_0 rfl (lv_at hl 1 rfl) ?_
  refine lv_if_lt (tgt := 25) hx hb dX3_isSibling_1 (by decide) (fun c_1 => ?_) (fun c_1 => ?_)
  · refine lv_iconst (v := 0) hx hb dX3_isSibling_25 (by decide) ?_
    exact ret dX3_isSibling_26 na_0 hm hS (Nat.le_of_ble_eq_true rfl) (Nat.le_of_ble_eq_true rfl) (⟨by first | (rw [isS_a c_1]; rfl) | (rw [isS_b c_12]; rfl) | (rw [isS_c c_1 c_12]; rfl) | exact absurd (Int32.le_trans (nI_le (b := 16) hpl (by decide)) c_18) c_12, rfl⟩)
  · refine lv_iload_n hx hb dX3_isSibling_4 rfl (lv_at hl 1 rfl) ?_
    refine lv_aload_n hx hb dX3_isSibling_5 rfl (lv_at hl 0 rfl) ?_
    refine hp_get (C := RX3) (T := TX3) (N := 6) (v := .ref pf) EE hm e_x inh3 rfl 3 (by decide) wf_X3_26 rfl dX3_isSibling_6 ?_
    refine hp_get (C := RX2) (T := TX2) (N := 5) (v := .int (nI (sPl σ))) EE hm e_pf inh2 rfl 1 (by decide) wf_X3_99 rfl dX3_isSibling_9 ?_
    refine lv_icmp_ge (tgt := 25) hx hb dX3_isSibling_12 (by decide) (fun c_12 => ?_) (fun c_12 => ?_)
    · refine lv_iconst (v := 0) hx hb dX3_isSibling_25 (by decide) ?_
      exact ret dX3_isSibling_26 na_0 hm hS (Nat.le_of_ble_eq_true rfl) (Nat.le_of_ble_eq_true rfl) (⟨by first | (rw [isS_a c_1]; rfl) | (rw [isS_b c_12]; rfl) | (rw [isS_c c_1 c_12]; rfl) | exact absurd (Int32.le_trans (nI_le (b := 16) hpl (by decide)) c_18) c_12, rfl⟩)
    · refine lv_iload_n hx hb dX3_isSibling_15 rfl (lv_at hl 1 rfl) ?_
      refine lv_bipush (v := 16) hx hb dX3_isSibling_16 (by decide) ?_
      refine lv_icmp_ge (tgt := 25) hx hb dX3_isSibling_18 (by decide) (fun c_18 => ?_) (fun c_18 => ?_)
      · refine lv_iconst (v := 0) hx hb dX3_isSibling_25 (by decide) ?_
        exact ret dX3_isSibling_26 na_0 hm hS (Nat.le_of_ble_eq_true rfl) (Nat.le_of_ble_eq_true rfl) (⟨by first | (rw [isS_a c_1]; rfl) | (rw [isS_b c_12]; rfl) | (rw [isS_c c_1 c_12]; rfl) | exact absurd (Int32.le_trans (nI_le (b := 16) hpl (by decide)) c_18) c_12, rfl⟩)
      · refine lv_iconst (v := 1) hx hb dX3_isSibling_21 (by decide) ?_
        refine lv_goto (tgt := 26) hx hb dX3_isSibling_22 (by decide) ?_
        exact ret dX3_isSibling_26 na_1 hm hS (Nat.le_of_ble_eq_true rfl) (Nat.le_of_ble_eq_true rfl) (⟨by first | (rw [isS_a c_1]; rfl) | (rw [isS_b c_12]; rfl) | (rw [isS_c c_1 c_12]; rfl) | exact absurd (Int32.le_trans (nI_le (b := 16) hpl (by decide)) c_18) c_12, rfl⟩)
set_option maxHeartbeats 4000000 in
set_option maxRecDepth 100000 in
theorem c_X3_rootOf (l : Launch) (g : hG) (M : hM) (N Z : gT) (x kp pf bs h nm ms sc sa fo : Nat) (br : Nat → Nat) (kf : Nat → Option Nat) (nw : Option Nat) (fm fs fa ff : Nat → Int32) (rv : Nat → Nat → Int32) (σ : cSt) (hC : CX g M N Z x kp pf bs h nm ms sc sa fo br kf nw fm fs fa ff rv σ) (v0 : Int32) : Cq l g yX3_rootOf cX3_rootOf 2 ((.object "ProofMap$Node")) 1 0 0 [.ref x, .int v0] M (fun r M9 => r = rootR kf nw v0 ∧ M9 = M) := by
  have hC0 := hC
  obtain ⟨hW, hH, e_x, e_kp, e_pf, e_bs, e_br, e_fo, hDA, hZn, hok, hvs, hnw, hsb⟩ := hC
  obtain ⟨hkc, hvg, hgn, hpl, hpk⟩ := hok
  refine hp_startQ (by decide) (by exact Nat.le_of_ble_eq_true rfl) (by first | exact Or.inl ⟨_, rfl⟩ | exact Or.inr ⟨_, rfl⟩) ?_
  intro p e s m below meth c Q H locs ls EE hnm ret hm hS hl
  have hx := EE.1
  have hb := EE.2.1
  have hown := EE.2.2.2.1
  have hts := EE.2.2.2.2.1
  have hl : lv_has ls 2 [(0, .ref x), (1, .int v0)] := hl
  refine lv_iload_n hx hb dX3_rootOf_0 rfl (lv_at hl 1 rfl) ?_
  refine lv_if_lt (tgt := 19) hx hb dX3_rootOf_1 (by decide) (fun c_1 => ?_) (fun c_1 => ?_)
  · refine lv_aload_n hx hb dX3_rootOf_19 rfl (lv_at hl 0 rfl) ?_
    refine hp_get (C := RX3) (T := TX3) (N := 6) (v := va_rf nw) EE hm e_x inh3 rfl 2 (by decide) wf_X3_19 rfl dX3_rootOf_20 ?_
    exact ret (v := nw) dX3_rootOf_23 hm hS (Nat.le_of_ble_eq_true rfl) (Nat.le_of_ble_eq_true rfl) (⟨by unfold rootR; rw [if_neg (by first | exact fun h => absurd c_1 (Int32.not_lt.mpr h.1) | exact fun h => absurd c_7 (Int32.not_le.mpr h.2))], rfl⟩)
  · refine lv_iload_n hx hb dX3_rootOf_4 rfl (lv_at hl 1 rfl) ?_
    refine lv_bipush (v := 60) hx hb dX3_rootOf_5 (by decide) ?_
    refine lv_icmp_ge (tgt := 19) hx hb dX3_rootOf_7 (by decide) (fun c_7 => ?_) (fun c_7 => ?_)
    · refine lv_aload_n hx hb dX3_rootOf_19 rfl (lv_at hl 0 rfl) ?_
      refine hp_get (C := RX3) (T := TX3) (N := 6) (v := va_rf nw) EE hm e_x inh3 rfl 2 (by decide) wf_X3_19 rfl dX3_rootOf_20 ?_
      exact ret (v := nw) dX3_rootOf_23 hm hS (Nat.le_of_ble_eq_true rfl) (Nat.le_of_ble_eq_true rfl) (⟨by unfold rootR; rw [if_neg (by first | exact fun h => absurd c_1 (Int32.not_lt.mpr h.1) | exact fun h => absurd c_7 (Int32.not_le.mpr h.2))], rfl⟩)
    · refine lv_aload_n hx hb dX3_rootOf_10 rfl (lv_at hl 0 rfl) ?_
      refine hp_get (C := RX3) (T := TX3) (N := 6) (v := .ref kp) EE hm e_x inh3 rfl 0 (by decide) wf_X3_11 rfl dX3_rootOf_11 ?_
      refine lv_iload_n hx hb dX3_rootOf_14 rfl (lv_at hl 1 rfl) ?_
      refine hp_aaldN EE hm e_kp (vp_in60 (n := 60) (by decide) c_1 c_7) dX3_rootOf_15 ?_
      refine lv_goto (tgt := 23) hx hb dX3_rootOf_16 (by decide) ?_
      exact ret (v := kf v0.toNatClampNeg) dX3_rootOf_23 hm hS (Nat.le_of_ble_eq_true rfl) (Nat.le_of_ble_eq_true rfl) (⟨by unfold rootR; rw [if_pos ⟨i_nlt0 c_1, Int32.not_le.mp c_7⟩], rfl⟩)
set_option maxHeartbeats 4000000 in
set_option maxRecDepth 100000 in
theorem c_X3_siblings (l : Launch) (g : hG) (M : hM) (N Z : gT) (x kp pf bs h nm ms sc sa fo : Nat) (br : Nat → Nat) (kf : Nat → Option Nat) (nw : Option Nat) (fm fs fa ff : Nat → Int32) (rv : Nat → Nat → Int32) (σ : cSt) (hC : CX g M N Z x kp pf bs h nm ms sc sa fo br kf nw fm fs fa ff rv σ) : Ci l g yX3_siblings cX3_siblings 1 .int 1 0 0 [.ref x] M (fun r M9 => r = nI (sPl σ) ∧ M9 = M) := by
  have hC0 := hC
  obtain ⟨hW, hH, e_x, e_kp, e_pf, e_bs, e_br, e_fo, hDA, hZn, hok, hvs, hnw, hsb⟩ := hC
  obtain ⟨hkc, hvg, hgn, hpl, hpk⟩ := hok
  refine hp_startI (by decide) (by exact Nat.le_of_ble_eq_true rfl) ?_
  intro p e s m below meth c Q H locs ls EE hnm ret hm hS hl
  have hx := EE.1
  have hb := EE.2.1
  have hown := EE.2.2.2.1
  have hts := EE.2.2.2.2.1
  have hl : lv_has ls 1 [(0, .ref x)] := hl
  refine lv_aload_n hx hb dX3_siblings_0 rfl (lv_at hl 0 rfl) ?_
  refine hp_get (C := RX3) (T := TX3) (N := 6) (v := .ref pf) EE hm e_x inh3 rfl 3 (by decide) wf_X3_26 rfl dX3_siblings_1 ?_
  refine hp_get (C := RX2) (T := TX2) (N := 5) (v := .int (nI (sPl σ))) EE hm e_pf inh2 rfl 1 (by decide) wf_X3_99 rfl dX3_siblings_4 ?_
  exact ret dX3_siblings_7 na_i hm hS (Nat.le_of_ble_eq_true rfl) (Nat.le_of_ble_eq_true rfl) (⟨rfl, rfl⟩)
set_option maxHeartbeats 4000000 in
set_option maxRecDepth 100000 in
theorem c_X3_versions (l : Launch) (g : hG) (M : hM) (N Z : gT) (x kp pf bs h nm ms sc sa fo : Nat) (br : Nat → Nat) (kf : Nat → Option Nat) (nw : Option Nat) (fm fs fa ff : Nat → Int32) (rv : Nat → Nat → Int32) (σ : cSt) (hC : CX g M N Z x kp pf bs h nm ms sc sa fo br kf nw fm fs fa ff rv σ) : Ci l g yX3_versions cX3_versions 1 .int 1 0 0 [.ref x] M (fun r M9 => r = nI (sKc σ) ∧ M9 = M) := by
  have hC0 := hC
  obtain ⟨hW, hH, e_x, e_kp, e_pf, e_bs, e_br, e_fo, hDA, hZn, hok, hvs, hnw, hsb⟩ := hC
  obtain ⟨hkc, hvg, hgn, hpl, hpk⟩ := hok
  refine hp_startI (by decide) (by exact Nat.le_of_ble_eq_true rfl) ?_
  intro p e s m below meth c Q H locs ls EE hnm ret hm hS hl
  have hx := EE.1
  have hb := EE.2.1
  have hown := EE.2.2.2.1
  have hts := EE.2.2.2.2.1
  have hl : lv_has ls 1 [(0, .ref x)] := hl
  refine lv_aload_n hx hb dX3_versions_0 rfl (lv_at hl 0 rfl) ?_
  refine hp_get (C := RX3) (T := TX3) (N := 6) (v := .int (nI (sKc σ))) EE hm e_x inh3 rfl 1 (by decide) wf_X3_15 rfl dX3_versions_1 ?_
  exact ret dX3_versions_4 na_i hm hS (Nat.le_of_ble_eq_true rfl) (Nat.le_of_ble_eq_true rfl) (⟨rfl, rfl⟩)
theorem rootR_rt {N : gT} {kf : Nat → Option Nat} {nw : Option Nat} {σ : cSt} {v : Int32} (hk : sKc σ ≤ 60) (hvs : ∀ j, j < sKc σ → rt N (kf j) 16 (sVs σ j)) (hnw : rt N nw 16 (sNow σ)) (h : isV σ v = true) : rt N (rootR kf nw v) 16 (mapV σ v) := by
  rcases isV_nat hk h with ⟨h1, h2⟩ | ⟨j, h1, h2, h3⟩
  · rw [h2]; unfold rootR; rw [if_neg (by rw [h1]; decide)]; exact hnw
  · rw [h3]; unfold rootR
    rw [if_pos ⟨by rw [h2]; exact nI_pos' (by omega), by rw [h2]; exact nI_lt (b := 60) (by omega) (by decide)⟩, h2, nI_clamp (by omega)]
    exact hvs j h1
theorem mapV_g {σ : cSt} {v : Int32} (hok : sOK σ) (h : isV σ v = true) : gE (mapV σ v) := by
  obtain ⟨hk, hv, hn, -⟩ := hok
  rcases isV_nat hk h with ⟨h1, h2⟩ | ⟨j, h1, h2, h3⟩
  · rw [h2]; exact hn
  · rw [h3]; exact hv j h1
