theorem su32 : ∀ n, n < 32 → (((nI n).toUInt32 &&& Int32.toUInt32 31).toBitVec % 32).toNat = n := by decide +kernel
theorem ush_n {k n : Nat} (hk : k < 2 ^ 32) (hn : n < 32) : ush (nI k) (nI n) = nI (k / 2 ^ n) := pk_ushrN hk (nI n) n (su32 n hn)
theorem bit_n (k n : Nat) : nI (k / 2 ^ n % 2 ^ 1) = bI (k.testBit n) := by
  rw [Nat.testBit_eq_decide_div_mod_eq]
  rcases Nat.mod_two_eq_zero_or_one (k / 2 ^ n) with h | h
  · rw [show (2 : Nat) ^ 1 = 2 from rfl, h]; rfl
  · rw [show (2 : Nat) ^ 1 = 2 from rfl, h]; rfl
theorem bitA_n {k d n : Nat} (hk : k < 65536) (hd : d + n = 15) : bitA (nI k) (nI d) = bI (k.testBit n) := by
  unfold bitA
  rw [show (15 : Int32) - nI d = nI n from ix_sub (a := 15) (by omega), ush_n (by omega) (by omega), pk_andN (m := 1) (by have : k / 2 ^ n ≤ k := Nat.div_le_self _ _; omega) 1 (by decide), bit_n]
theorem bI_not (b : Bool) : (1 : Int32) - bI b = bI (!b) := by cases b <;> decide
theorem bI_inj {a b : Bool} (h : bI a = bI b) : a = b := by
  cases a <;> cases b <;> first | rfl | (exact absurd h (by decide))
/-! nodes: N tells what entries a node stands for, and for how many bits; Z the same of a digest's row -/
abbrev gT : Type := Nat → Option (Nat × En)
def rt (N : gT) (r : Option Nat) (n : Nat) (E : En) : Prop := match r with
  | none => E = []
  | some a => ∃ n', N a = some (n', E) ∧ E ≠ [] ∧ (2 ≤ E.length → n' = n)
def nd (M : hM) (N Z : gT) (a n : Nat) (E : En) : Prop := ∃ (ky vl : Int32) (z o dg : Option Nat), M a = some (.inr (1, [.int (nI E.length), .int ky, .int vl, va_rf z, va_rf o, va_rf dg])) ∧ (∀ b, dg = some b → Z b = some (n, E)) ∧ E.length < 2 ^ 30 ∧ ((∃ k, E = [(k, vl)] ∧ ky = nI k ∧ k < 65536 ∧ z = none ∧ o = none) ∨ (∃ n', n = n' + 1 ∧ n' < 16 ∧ 2 ≤ E.length ∧ rt N z n' (spl n' false E) ∧ rt N o n' (spl n' true E)))
def WF (g : hG) (M : hM) (N Z : gT) : Prop := (∀ a n E, N a = some (n, E) → nd M N Z a n E) ∧ ∀ b n E, Z b = some (n, E) → ∃ f, M b = some (aI g 8 f) ∧ ∀ j, j < 8 → f j = dgF n E j
theorem rt_len {g : hG} {M : hM} {N Z : gT} (hW : WF g M N Z) {r : Option Nat} {n : Nat} {E : En} (h : rt N r n E) : E.length < 2 ^ 30 := by
  cases r with
  | none => rw [show E = [] from h]; decide
  | some a =>
    obtain ⟨n', h1, h2, h3⟩ := h
    obtain ⟨ky, vl, z, o, dg, -, -, q, -⟩ := hW.1 a n' E h1
    exact q
def isEn (E : En) (k : Nat) : Bool := match E with
  | [(k', _)] => k' == k
  | _ => false
theorem rt_up {N : gT} {r : Option Nat} {n n' : Nat} {E : En} (h : rt N r n E) (hl : E.length ≤ 1) : rt N r n' E := by
  cases r with
  | none => exact h
  | some a =>
    obtain ⟨m, h1, h2, h3⟩ := h
    exact ⟨m, h1, h2, fun q => by omega⟩
set_option maxHeartbeats 4000000 in
set_option maxRecDepth 100000 in
theorem c_X3_countOf (l : Launch) (g : hG) (M : hM) (N Z : gT) (hW : WF g M N Z) (r : Option Nat) (n : Nat) (E : En) (hr : rt N r n E) : Ci l g yX3_countOf cX3_countOf 1 .int 1 0 0 [va_rf r] M (fun r M9 => r = nI E.length ∧ M9 = M) := by
  cases r with
  | none =>
    have hE : E = [] := hr
    show Ci l g yX3_countOf cX3_countOf 1 .int 1 0 0 [.null] M (fun r M9 => r = nI E.length ∧ M9 = M)
    refine hp_startI (by decide) (by exact Nat.le_of_ble_eq_true rfl) ?_
    intro p e s m below meth c Q H locs ls EE hnm ret hm hS hl
    have hx := EE.1
    have hb := EE.2.1
    have hown := EE.2.2.2.1
    have hts := EE.2.2.2.2.1
    have hl : lv_has ls 1 [(0, .null)] := hl
    refine lv_aload_nN hx hb dX3_countOf_0 rfl (lv_at hl 0 rfl) ?_
    refine lv_ifnonnullN hx hb dX3_countOf_1 ?_
    refine lv_iconst (v := 0) hx hb dX3_countOf_4 (by decide) ?_
    refine lv_goto (tgt := 12) hx hb dX3_countOf_5 (by decide) ?_
    exact ret dX3_countOf_12 na_i hm hS (Nat.le_of_ble_eq_true rfl) (Nat.le_of_ble_eq_true rfl) (⟨by rw [hE]; rfl, rfl⟩)
  | some a =>
    obtain ⟨n0, hN, hne, hn2⟩ := hr
    obtain ⟨ky, vl, z, o, dg, e_a, hdg, hlen, hcase⟩ := hW.1 a n0 E hN
    show Ci l g yX3_countOf cX3_countOf 1 .int 1 0 0 [.ref a] M (fun r M9 => r = nI E.length ∧ M9 = M)
    refine hp_startI (by decide) (by exact Nat.le_of_ble_eq_true rfl) ?_
    intro p e s m below meth c Q H locs ls EE hnm ret hm hS hl
    have hx := EE.1
    have hb := EE.2.1
    have hown := EE.2.2.2.1
    have hts := EE.2.2.2.2.1
    have hl : lv_has ls 1 [(0, .ref a)] := hl
    refine lv_aload_n hx hb dX3_countOf_0 rfl (lv_at hl 0 rfl) ?_
    refine lv_ifnonnull (tgt := 8) hx hb dX3_countOf_1 (by decide) ?_
    refine lv_aload_n hx hb dX3_countOf_8 rfl (lv_at hl 0 rfl) ?_
    refine hp_get (C := RX1) (T := TX1) (N := 6) (v := .int (nI E.length)) EE hm e_a inh1 rfl 0 (by decide) wf_X3_132 rfl dX3_countOf_9 ?_
    exact ret dX3_countOf_12 na_i hm hS (Nat.le_of_ble_eq_true rfl) (Nat.le_of_ble_eq_true rfl) (⟨rfl, rfl⟩)
set_option maxHeartbeats 4000000 in
set_option maxRecDepth 100000 in
theorem c_X3_isEntry (l : Launch) (g : hG) (M : hM) (N Z : gT) (hW : WF g M N Z) (r : Option Nat) (n : Nat) (E : En) (hr : rt N r n E) (k : Nat) (hk : k < 65536) : Ci l g yX3_isEntry cX3_isEntry 2 .boolean 1 0 0 [va_rf r, .int (nI k)] M (fun r M9 => r = bI (isEn E k) ∧ M9 = M) := by
  cases r with
  | none =>
    have hE : E = [] := hr
    show Ci l g yX3_isEntry cX3_isEntry 2 .boolean 1 0 0 [.null, .int (nI k)] M (fun r M9 => r = bI (isEn E k) ∧ M9 = M)
    refine hp_startI (by decide) (by exact Nat.le_of_ble_eq_true rfl) ?_
    intro p e s m below meth c Q H locs ls EE hnm ret hm hS hl
    have hx := EE.1
    have hb := EE.2.1
    have hown := EE.2.2.2.1
    have hts := EE.2.2.2.2.1
    have hl : lv_has ls 2 [(0, .null), (1, .int (nI k))] := hl
    refine lv_aload_nN hx hb dX3_isEntry_0 rfl (lv_at hl 0 rfl) ?_
    refine lv_ifnullN (tgt := 24) hx hb dX3_isEntry_1 (by decide) ?_
    refine lv_iconst (v := 0) hx hb dX3_isEntry_24 (by decide) ?_
    exact ret dX3_isEntry_25 na_0 hm hS (Nat.le_of_ble_eq_true rfl) (Nat.le_of_ble_eq_true rfl) (⟨by rw [hE]; rfl, rfl⟩)
  | some a =>
    obtain ⟨n0, hN, hne, hn2⟩ := hr
    obtain ⟨ky, vl, z, o, dg, e_a, hdg, hlen, hcase⟩ := hW.1 a n0 E hN
    show Ci l g yX3_isEntry cX3_isEntry 2 .boolean 1 0 0 [.ref a, .int (nI k)] M (fun r M9 => r = bI (isEn E k) ∧ M9 = M)
    refine hp_startI (by decide) (by exact Nat.le_of_ble_eq_true rfl) ?_
    intro p e s m below meth c Q H locs ls EE hnm ret hm hS hl
    have hx := EE.1
    have hb := EE.2.1
    have hown := EE.2.2.2.1
    have hts := EE.2.2.2.2.1
    have hl : lv_has ls 2 [(0, .ref a), (1, .int (nI k))] := hl
    refine lv_aload_n hx hb dX3_isEntry_0 rfl (lv_at hl 0 rfl) ?_
    refine lv_ifnull hx hb dX3_isEntry_1 ?_
    refine lv_aload_n hx hb dX3_isEntry_4 rfl (lv_at hl 0 rfl) ?_
    refine hp_get (C := RX1) (T := TX1) (N := 6) (v := .int (nI E.length)) EE hm e_a inh1 rfl 0 (by decide) wf_X3_132 rfl dX3_isEntry_5 ?_
    refine lv_iconst (v := 1) hx hb dX3_isEntry_8 (by decide) ?_
    refine lv_icmp_ne (tgt := 24) hx hb dX3_isEntry_9 (by decide) (fun c_9 => ?_) (fun c_9 => ?_)
    · have c_9 : ¬ E.length = 1 := fun h9 => c_9 ((nI_eq (a := E.length) (b := 1) (by omega) (by decide)).mpr h9)
      have hq : isEn E k = false := by
          rcases hcase with ⟨k9, h1, -⟩ | ⟨n9, -, -, h2, -⟩
          · rw [h1] at c_9; exact absurd rfl c_9
          · match E, h2 with
            | x :: y :: t, _ => rfl
      refine lv_iconst (v := 0) hx hb dX3_isEntry_24 (by decide) ?_
      exact ret dX3_isEntry_25 na_0 hm hS (Nat.le_of_ble_eq_true rfl) (Nat.le_of_ble_eq_true rfl) (⟨by first | (rw [hq]; rfl) | (rw [hE]; show _ = bI (k9 == k); rw [hky] at c_17; first | (rw [(nI_eq (by omega) (by omega)).mp c_17]; simp [bI]) | (rw [show (k9 == k) = false from by simp; intro q; exact c_17 (by rw [q])]; rfl)), rfl⟩)
    · have c_9 : E.length = 1 := (nI_eq (a := E.length) (b := 1) (by omega) (by decide)).mp c_9
      obtain ⟨k9, hE, hky, hk9, -, -⟩ : ∃ k9, E = [(k9, vl)] ∧ ky = nI k9 ∧ k9 < 65536 ∧ z = none ∧ o = none := by
          rcases hcase with h | ⟨n9, -, -, h2, -⟩
          · exact h
          · omega
      refine lv_aload_n hx hb dX3_isEntry_12 rfl (lv_at hl 0 rfl) ?_
      refine hp_get (C := RX1) (T := TX1) (N := 6) (v := .int ky) EE hm e_a inh1 rfl 1 (by decide) wf_X3_105 rfl dX3_isEntry_13 ?_
      refine lv_iload_n hx hb dX3_isEntry_16 rfl (lv_at hl 1 rfl) ?_
      refine lv_icmp_ne (tgt := 24) hx hb dX3_isEntry_17 (by decide) (fun c_17 => ?_) (fun c_17 => ?_)
      · refine lv_iconst (v := 0) hx hb dX3_isEntry_24 (by decide) ?_
        exact ret dX3_isEntry_25 na_0 hm hS (Nat.le_of_ble_eq_true rfl) (Nat.le_of_ble_eq_true rfl) (⟨by first | (rw [hq]; rfl) | (rw [hE]; show _ = bI (k9 == k); rw [hky] at c_17; first | (rw [(nI_eq (by omega) (by omega)).mp c_17]; simp [bI]) | (rw [show (k9 == k) = false from by simp; intro q; exact c_17 (by rw [q])]; rfl)), rfl⟩)
      · refine lv_iconst (v := 1) hx hb dX3_isEntry_20 (by decide) ?_
        refine lv_goto (tgt := 25) hx hb dX3_isEntry_21 (by decide) ?_
        exact ret dX3_isEntry_25 na_1 hm hS (Nat.le_of_ble_eq_true rfl) (Nat.le_of_ble_eq_true rfl) (⟨by first | (rw [hq]; rfl) | (rw [hE]; show _ = bI (k9 == k); rw [hky] at c_17; first | (rw [(nI_eq (by omega) (by omega)).mp c_17]; simp [bI]) | (rw [show (k9 == k) = false from by simp; intro q; exact c_17 (by rw [q])]; rfl)), rfl⟩)
set_option maxHeartbeats 4000000 in
set_option maxRecDepth 100000 in
theorem c_X3_half (l : Launch) (g : hG) (M : hM) (N Z : gT) (hW : WF g M N Z) (r : Option Nat) (n d : Nat) (hd : d + n = 15) (b : Bool) (E : En) (hr : rt N r (n + 1) E) : Cq l g yX3_half cX3_half 3 ((.object "ProofMap$Node")) 2 0 0 [va_rf r, .int (nI d), .int (bI b)] M (fun r M9 => rt N r n (spl n b E) ∧ M9 = M) := by
  cases r with
  | none =>
    have hE : E = [] := hr
    show Cq l g yX3_half cX3_half 3 ((.object "ProofMap$Node")) 2 0 0 [.null, .int (nI d), .int (bI b)] M (fun r M9 => rt N r n (spl n b E) ∧ M9 = M)
    refine hp_startQ (by decide) (by exact Nat.le_of_ble_eq_true rfl) (by first | exact Or.inl ⟨_, rfl⟩ | exact Or.inr ⟨_, rfl⟩) ?_
    intro p e s m below meth c Q H locs ls EE hnm ret hm hS hl
    have hx := EE.1
    have hb := EE.2.1
    have hown := EE.2.2.2.1
    have hts := EE.2.2.2.2.1
    have hl : lv_has ls 3 [(0, .null), (1, .int (nI d)), (2, .int (bI b))] := hl
    refine lv_aload_nN hx hb dX3_half_0 rfl (lv_at hl 0 rfl) ?_
    refine lv_ifnonnullN hx hb dX3_half_1 ?_
    refine lv_null hx hb dX3_half_4 ?_
    exact ret (v := none) dX3_half_5 hm hS (Nat.le_of_ble_eq_true rfl) (Nat.le_of_ble_eq_true rfl) (⟨by rw [hE]; rfl, rfl⟩)
  | some a =>
    obtain ⟨n0, hN, hne, hn2⟩ := hr
    obtain ⟨ky, vl, z, o, dg, e_a, hdg, hlen, hcase⟩ := hW.1 a n0 E hN
    show Cq l g yX3_half cX3_half 3 ((.object "ProofMap$Node")) 2 0 0 [.ref a, .int (nI d), .int (bI b)] M (fun r M9 => rt N r n (spl n b E) ∧ M9 = M)
    refine hp_startQ (by decide) (by exact Nat.le_of_ble_eq_true rfl) (by first | exact Or.inl ⟨_, rfl⟩ | exact Or.inr ⟨_, rfl⟩) ?_
    intro p e s m below meth c Q H locs ls EE hnm ret hm hS hl
    have hx := EE.1
    have hb := EE.2.1
    have hown := EE.2.2.2.1
    have hts := EE.2.2.2.2.1
    have hl : lv_has ls 3 [(0, .ref a), (1, .int (nI d)), (2, .int (bI b))] := hl
    refine lv_aload_n hx hb dX3_half_0 rfl (lv_at hl 0 rfl) ?_
    refine lv_ifnonnull (tgt := 6) hx hb dX3_half_1 (by decide) ?_
    refine lv_aload_n hx hb dX3_half_6 rfl (lv_at hl 0 rfl) ?_
    refine hp_get (C := RX1) (T := TX1) (N := 6) (v := .int (nI E.length)) EE hm e_a inh1 rfl 0 (by decide) wf_X3_132 rfl dX3_half_7 ?_
    refine lv_iconst (v := 1) hx hb dX3_half_10 (by decide) ?_
    refine lv_icmp_ne (tgt := 32) hx hb dX3_half_11 (by decide) (fun c_11 => ?_) (fun c_11 => ?_)
    · have c_11 : ¬ E.length = 1 := fun h9 => c_11 ((nI_eq (a := E.length) (b := 1) (by omega) (by decide)).mpr h9)
      obtain ⟨n9, hn9, hn16, h2, hz, ho⟩ : ∃ n9, n0 = n9 + 1 ∧ n9 < 16 ∧ 2 ≤ E.length ∧ rt N z n9 (spl n9 false E) ∧ rt N o n9 (spl n9 true E) := by
          rcases hcase with ⟨k9, h1, -⟩ | h
          · rw [h1] at c_11; exact absurd rfl c_11
          · exact h
      have hnn : n9 = n := by have := hn2 h2; omega
      rw [hnn] at hz ho
      refine lv_iload_n hx hb dX3_half_32 rfl (lv_at hl 2 rfl) ?_
      refine lv_if_ne (tgt := 43) hx hb dX3_half_33 (by decide) (fun c_33 => ?_) (fun c_33 => ?_)
      · refine lv_aload_n hx hb dX3_half_43 rfl (lv_at hl 0 rfl) ?_
        refine hp_get (C := RX1) (T := TX1) (N := 6) (v := va_rf o) EE hm e_a inh1 rfl 4 (by decide) wf_X3_138 rfl dX3_half_44 ?_
        exact ret (v := o) dX3_half_47 hm hS (Nat.le_of_ble_eq_true rfl) (Nat.le_of_ble_eq_true rfl) (⟨by cases b with
            | false => exact absurd rfl c_33
            | true => exact ho, rfl⟩)
      · refine lv_aload_n hx hb dX3_half_36 rfl (lv_at hl 0 rfl) ?_
        refine hp_get (C := RX1) (T := TX1) (N := 6) (v := va_rf z) EE hm e_a inh1 rfl 3 (by decide) wf_X3_135 rfl dX3_half_37 ?_
        refine lv_goto (tgt := 47) hx hb dX3_half_40 (by decide) ?_
        exact ret (v := z) dX3_half_47 hm hS (Nat.le_of_ble_eq_true rfl) (Nat.le_of_ble_eq_true rfl) (⟨by cases b with
            | false => exact hz
            | true => exact absurd c_33 (by decide), rfl⟩)
    · have c_11 : E.length = 1 := (nI_eq (a := E.length) (b := 1) (by omega) (by decide)).mp c_11
      obtain ⟨k9, hE, hky, hk9, -, -⟩ : ∃ k9, E = [(k9, vl)] ∧ ky = nI k9 ∧ k9 < 65536 ∧ z = none ∧ o = none := by
          rcases hcase with h | ⟨n9, -, -, h2, -⟩
          · exact h
          · omega
      refine lv_aload_n hx hb dX3_half_14 rfl (lv_at hl 0 rfl) ?_
      refine hp_get (C := RX1) (T := TX1) (N := 6) (v := .int ky) EE hm e_a inh1 rfl 1 (by decide) wf_X3_105 rfl dX3_half_15 ?_
      refine lv_iload_n hx hb dX3_half_18 rfl (lv_at hl 1 rfl) ?_
      refine hp_ci (hp_runS (np := 2) (k := 1) (mc := 0) (ms := 0) (As := [.int ky, .int (nI d)]) (rest := []) EE hm hS (c_X3_bitAt l g M ky (nI d)) ms_X3_bitAt wt_X3_bitAt wl_X3_83 rfl hl.1 rfl (Nat.le_of_ble_eq_true rfl) dX3_half_19 ⟨Nat.le_of_ble_eq_true rfl, Nat.le_of_ble_eq_true rfl⟩ ⟨(Nat.le_of_ble_eq_true rfl), (Nat.le_of_ble_eq_true rfl)⟩) hS (fun r1 Mx2 H locs hq3 hm hS => ?_)
      obtain ⟨rfl, h9⟩ := hq3
      rw [h9] at hm
      refine lv_iload_n hx hb dX3_half_22 rfl (lv_at hl 2 rfl) ?_
      refine lv_icmp_ne (tgt := 30) hx hb dX3_half_23 (by decide) (fun c_23 => ?_) (fun c_23 => ?_)
      · refine lv_null hx hb dX3_half_30 ?_
        exact ret (v := none) dX3_half_31 hm hS (Nat.le_of_ble_eq_true rfl) (Nat.le_of_ble_eq_true rfl) (⟨by rw [hky, bitA_n hk9 hd] at c_23; rw [hE]; show rt N none n _; show spl n b [(k9, vl)] = []; rw [spl_out (fun q => c_23 (by rw [← q]))]; rfl, rfl⟩)
      · refine lv_aload_n hx hb dX3_half_26 rfl (lv_at hl 0 rfl) ?_
        refine lv_goto (tgt := 31) hx hb dX3_half_27 (by decide) ?_
        exact ret (v := some a) dX3_half_31 hm hS (Nat.le_of_ble_eq_true rfl) (Nat.le_of_ble_eq_true rfl) (⟨by rw [hky, bitA_n hk9 hd] at c_23; rw [hE]; rw [spl_in (bI_inj c_23)]; exact ⟨n0, by rw [hN, hE]; rfl, by simp [spl], fun q => by simp [spl] at q⟩, rfl⟩)
