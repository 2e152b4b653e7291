/-- an entry comes (w = its value) or goes -/
def opL (w : Option Int32) (k : Nat) (E : En) : En := match w with
  | some v => putL k v E
  | none => remL k E
theorem opL_nil_len (w : Option Int32) (k : Nat) : (opL w k []).length ≤ 1 := by cases w <;> simp [opL, putL, remL]
theorem opL_one {w : Option Int32} {k : Nat} {E : En} (h : isEn E k = true) : opL w k E = opL w k [] := by
  match E, h with
  | [(k', v')], h =>
    have hk : k' = k := by simpa [isEn] using h
    subst hk
    cases w with
    | none => simp [opL, remL]
    | some v => simp [opL, putL]
theorem opL_spl {w : Option Int32} {n k : Nat} {b : Bool} {E : En} (hs : srt E) : spl n b (opL w k E) = if k.testBit n = b then opL w k (spl n b E) else spl n b E := by
  cases w with
  | some v => exact spl_putL hs
  | none =>
    show spl n b (remL k E) = if k.testBit n = b then remL k (spl n b E) else spl n b E
    rw [spl_remL]
    by_cases h : k.testBit n = b
    · rw [if_pos h]
    · rw [if_neg h]
      exact remL_out (fun x hx q => h (by rw [← q]; exact (spl_mem.mp hx).2))
theorem putL_len (k : Nat) (v : Int32) : ∀ E : En, (putL k v E).length ≤ E.length + 1
  | [] => Nat.le_refl 1
  | x :: t => by
    rw [putL_cons]
    by_cases h : k < x.1
    · rw [if_pos h]; simp
    · rw [if_neg h]
      by_cases h2 : k = x.1
      · rw [if_pos h2]; simp
      · rw [if_neg h2]
        have := putL_len k v t
        simp only [List.length_cons]
        omega
theorem opL_len (w : Option Int32) (k : Nat) (E : En) : (opL w k E).length ≤ E.length + 1 := by
  cases w with
  | some v => exact putL_len k v E
  | none => exact Nat.le_succ_of_le (List.length_filter_le _ _)
theorem opL_srt {w : Option Int32} {k : Nat} {E : En} (hs : srt E) : srt (opL w k E) := by
  cases w with
  | some v => exact putL_srt hs
  | none => exact List.Pairwise.filter _ hs
theorem spl_le (n : Nat) (b : Bool) (E : En) : (spl n b E).length ≤ E.length := List.length_filter_le _ _
theorem pre_opL {k : Nat} {w : Option Int32} {E : En} (h : pre 0 k E) (hs : srt E) : opL w k E = opL w k [] := by
  rcases pre_0 h hs with q | ⟨v, q⟩
  · rw [q]
  · rw [q]; exact opL_one (by simp [isEn])
set_option maxHeartbeats 4000000 in
set_option maxRecDepth 100000 in
theorem c_X3_replaced (l : Launch) (g : hG) (Z : gT) (k : Nat) (hk : k < 65536) (w : Option Int32) (ent : Option Nat) : ∀ (n : Nat) (M : hM) (N : gT) (hW : WF g M N Z) (r : Option Nat) (E : En) (hr : rt N r n E) (d : Nat) (hd : d + n = 16) (hs : srt E) (hpre : pre n k E) (hE : E.length < 2 ^ 29) (hent : rt N ent 0 (opL w k [])), Cq l g yX3_replaced cX3_replaced 7 ((.object "ProofMap$Node")) (4 + n) n (6 * n) [va_rf r, .int (nI d), .int (nI k), va_rf ent] M (fun r M9 => ∃ N9, WF g M9 N9 Z ∧ rt N9 r n (opL w k E) ∧ gr M N M9 N9 n) := by
  intro n
  induction n with
  | zero =>
    intro M N hW r E hr d hd hs hpre hE hent
    cases r with
    | none =>
      have hE0 : E = [] := hr
      show Cq l g yX3_replaced cX3_replaced 7 ((.object "ProofMap$Node")) 4 0 0 [.null, .int (nI d), .int (nI k), va_rf ent] M (fun r M9 => ∃ N9, WF g M9 N9 Z ∧ rt N9 r 0 (opL w k E) ∧ gr M N M9 N9 0)
      refine hp_startQ (by decide) (by cases ent <;> exact Nat.le_of_ble_eq_true rfl) (by first | exact Or.inl ⟨_, rfl⟩ | exact Or.inr ⟨_, rfl⟩) ?_
      intro p e s m below meth c Q H locs ls EE hnm ret hm hS hl
      have hx := EE.1
      have hb := EE.2.1
      have hown := EE.2.2.2.1
      have hts := EE.2.2.2.2.1
      have hl : lv_has ls 7 [(0, .null), (1, .int (nI d)), (2, .int (nI k)), (3, va_rf ent)] := by cases ent <;> exact hl
      refine lv_aload_nN hx hb dX3_replaced_0 rfl (lv_at hl 0 rfl) ?_
      refine lv_ifnullN (tgt := 18) hx hb dX3_replaced_1 (by decide) ?_
      refine hq_aload_n hx hb dX3_replaced_18 rfl (lv_at hl 3 rfl) ?_
      exact ret (v := ent) dX3_replaced_19 hm hS (Nat.le_of_ble_eq_true rfl) (Nat.le_of_ble_eq_true rfl) (⟨N, hW, by rw [hE0]; exact rt_up hent (opL_nil_len w k), gr.rf⟩)
    | some a =>
      have hr0 := hr
      show Cq l g yX3_replaced cX3_replaced 7 ((.object "ProofMap$Node")) 4 0 0 [.ref a, .int (nI d), .int (nI k), va_rf ent] M (fun r M9 => ∃ N9, WF g M9 N9 Z ∧ rt N9 r 0 (opL w k E) ∧ gr M N M9 N9 0)
      refine hp_startQ (by decide) (by cases ent <;> exact Nat.le_of_ble_eq_true rfl) (by first | exact Or.inl ⟨_, rfl⟩ | exact Or.inr ⟨_, rfl⟩) ?_
      intro p e s m below meth c Q H locs ls EE hnm ret hm hS hl
      have hx := EE.1
      have hb := EE.2.1
      have hown := EE.2.2.2.1
      have hts := EE.2.2.2.2.1
      have hl : lv_has ls 7 [(0, .ref a), (1, .int (nI d)), (2, .int (nI k)), (3, va_rf ent)] := by cases ent <;> exact hl
      refine lv_aload_n hx hb dX3_replaced_0 rfl (lv_at hl 0 rfl) ?_
      refine lv_ifnull hx hb dX3_replaced_1 ?_
      refine lv_iload_n hx hb dX3_replaced_4 rfl (lv_at hl 1 rfl) ?_
      refine lv_bipush (v := 16) hx hb dX3_replaced_5 (by decide) ?_
      refine lv_icmp_ge (tgt := 18) hx hb dX3_replaced_7 (by decide) (fun c_7 => ?_) (fun c_7 => ?_)
      · have c_7 : 16 ≤ d := (nI_leI (a := 16) (b := d) (by decide) (by omega)).mp c_7
        refine hq_aload_n hx hb dX3_replaced_18 rfl (lv_at hl 3 rfl) ?_
        exact ret (v := ent) dX3_replaced_19 hm hS (Nat.le_of_ble_eq_true rfl) (Nat.le_of_ble_eq_true rfl) (⟨N, hW, by rw [pre_opL hpre hs]; exact rt_up hent (opL_nil_len w k), gr.rf⟩)
      · have c_7 : ¬ 16 ≤ d := fun h9 => c_7 ((nI_leI (a := 16) (b := d) (by decide) (by omega)).mpr h9)
        exact absurd (by omega) c_7
  | succ n ih =>
    intro M N hW r E hr d hd hs hpre hE hent
    cases r with
    | none =>
      have hE0 : E = [] := hr
      show Cq l g yX3_replaced cX3_replaced 7 ((.object "ProofMap$Node")) (4 + (n + 1)) (n + 1) (6 * (n + 1)) [.null, .int (nI d), .int (nI k), va_rf ent] M (fun r M9 => ∃ N9, WF g M9 N9 Z ∧ rt N9 r (n + 1) (opL w k E) ∧ gr M N M9 N9 (n + 1))
      refine hp_startQ (by decide) (by cases ent <;> exact Nat.le_of_ble_eq_true rfl) (by first | exact Or.inl ⟨_, rfl⟩ | exact Or.inr ⟨_, rfl⟩) ?_
      intro p e s m below meth c Q H locs ls EE hnm ret hm hS hl
      have hx := EE.1
      have hb := EE.2.1
      have hown := EE.2.2.2.1
      have hts := EE.2.2.2.2.1
      have hl : lv_has ls 7 [(0, .null), (1, .int (nI d)), (2, .int (nI k)), (3, va_rf ent)] := by cases ent <;> exact hl
      refine lv_aload_nN hx hb dX3_replaced_0 rfl (lv_at hl 0 rfl) ?_
      refine lv_ifnullN (tgt := 18) hx hb dX3_replaced_1 (by decide) ?_
      refine hq_aload_n hx hb dX3_replaced_18 rfl (lv_at hl 3 rfl) ?_
      exact ret (v := ent) dX3_replaced_19 hm hS (by omega) (by omega) (⟨N, hW, by rw [hE0]; exact rt_up hent (opL_nil_len w k), gr.rf⟩)
    | some a =>
      have hr0 := hr
      show Cq l g yX3_replaced cX3_replaced 7 ((.object "ProofMap$Node")) (4 + (n + 1)) (n + 1) (6 * (n + 1)) [.ref a, .int (nI d), .int (nI k), va_rf ent] M (fun r M9 => ∃ N9, WF g M9 N9 Z ∧ rt N9 r (n + 1) (opL w k E) ∧ gr M N M9 N9 (n + 1))
      refine hp_startQ (by decide) (by cases ent <;> exact Nat.le_of_ble_eq_true rfl) (by first | exact Or.inl ⟨_, rfl⟩ | exact Or.inr ⟨_, rfl⟩) ?_
      intro p e s m below meth c Q H locs ls EE hnm ret hm hS hl
      have hx := EE.1
      have hb := EE.2.1
      have hown := EE.2.2.2.1
      have hts := EE.2.2.2.2.1
      have hl : lv_has ls 7 [(0, .ref a), (1, .int (nI d)), (2, .int (nI k)), (3, va_rf ent)] := by cases ent <;> exact hl
      refine lv_aload_n hx hb dX3_replaced_0 rfl (lv_at hl 0 rfl) ?_
      refine lv_ifnull hx hb dX3_replaced_1 ?_
      refine lv_iload_n hx hb dX3_replaced_4 rfl (lv_at hl 1 rfl) ?_
      refine lv_bipush (v := 16) hx hb dX3_replaced_5 (by decide) ?_
      refine lv_icmp_ge (tgt := 18) hx hb dX3_replaced_7 (by decide) (fun c_7 => ?_) (fun c_7 => ?_)
      · have c_7 : 16 ≤ d := (nI_leI (a := 16) (b := d) (by decide) (by omega)).mp c_7
        exact absurd c_7 (by omega)
      · have c_7 : ¬ 16 ≤ d := fun h9 => c_7 ((nI_leI (a := 16) (b := d) (by decide) (by omega)).mpr h9)
        refine lv_aload_n hx hb dX3_replaced_10 rfl (lv_at hl 0 rfl) ?_
        refine lv_iload_n hx hb dX3_replaced_11 rfl (lv_at hl 2 rfl) ?_
        refine hp_ci (hp_runS (np := 2) (k := 1) (mc := 0) (ms := 0) (As := [.ref a, .int (nI k)]) (rest := []) EE hm hS (c_X3_isEntry l g M N Z hW (some a) (n + 1) E hr0 k hk) ms_X3_isEntry wt_X3_isEntry wl_X3_49 rfl hl.1 rfl (Nat.le_of_ble_eq_true rfl) dX3_replaced_12 ⟨by show 1 + 1 ≤ 4 + (n + 1); omega, by show 8 + (2 + 11) + 100 * (1) ≤ 100 * (4 + (n + 1)); omega⟩ ⟨(by show 0 + 0 ≤ n + 1; omega), (by show 0 + 0 ≤ 6 * (n + 1); omega)⟩) hS (fun r1 Mx2 H locs hq3 hm hS => ?_)
        obtain ⟨rfl, h9⟩ := hq3
        rw [h9] at hm
        refine lv_if_eq (tgt := 20) hx hb dX3_replaced_15 (by decide) (fun c_15 => ?_) (fun c_15 => ?_)
        · refine lv_iload_n hx hb dX3_replaced_20 rfl (lv_at hl 2 rfl) ?_
          refine lv_iload_n hx hb dX3_replaced_21 rfl (lv_at hl 1 rfl) ?_
          refine hp_ci (hp_runS (np := 2) (k := 1) (mc := 0) (ms := 0) (As := [.int (nI k), .int (nI d)]) (rest := []) EE hm hS (c_X3_bitAt l g M (nI k) (nI d)) ms_X3_bitAt wt_X3_bitAt wl_X3_83 rfl hl.1 rfl (Nat.le_of_ble_eq_true rfl) dX3_replaced_22 ⟨by show 1 + 1 ≤ 4 + (n + 1); omega, by show 8 + (2 + 11) + 100 * (1) ≤ 100 * (4 + (n + 1)); omega⟩ ⟨(by show 0 + 0 ≤ n + 1; omega), (by show 0 + 0 ≤ 6 * (n + 1); omega)⟩) hS (fun r4 Mx5 H locs hq6 hm hS => ?_)
          obtain ⟨hr9, h9⟩ := hq6
          rw [h9] at hm
          rw [bitA_n hk (show d + n = 15 by omega)] at hr9
          subst hr9
          refine lv_istore (lv' := [(4, .int (bI (k.testBit n))), (0, .ref a), (1, .int (nI d)), (2, .int (nI k)), (3, va_rf ent)]) hx hb dX3_replaced_25 hl (by decide) (by cases ent <;> rfl) (fun ls hl => ?_)
          refine lv_aload_n hx hb dX3_replaced_27 rfl (lv_at hl 1 rfl) ?_
          refine lv_iload_n hx hb dX3_replaced_28 rfl (lv_at hl 2 rfl) ?_
          refine lv_iload hx hb dX3_replaced_29 (lv_at hl 0 rfl) ?_
          refine hp_cq (hp_runS (np := 3) (k := 2) (mc := 0) (ms := 0) (As := [.ref a, .int (nI d), .int (bI (k.testBit n))]) (rest := []) EE hm hS (c_X3_half l g M N Z hW (some a) n d (by omega) (k.testBit n) E hr0) ms_X3_half wt_X3_half wl_X3_87 rfl hl.1 rfl (Nat.le_of_ble_eq_true rfl) dX3_replaced_31 ⟨by show 2 + 1 ≤ 4 + (n + 1); omega, by show 8 + (3 + 11) + 100 * (2) ≤ 100 * (4 + (n + 1)); omega⟩ ⟨(by show 0 + 0 ≤ n + 1; omega), (by show 0 + 0 ≤ 6 * (n + 1); omega)⟩) hS (fun r7 Mx8 H locs hq9 hm hS => ?_)
          obtain ⟨hr1, h9⟩ := hq9
          rw [h9] at hm
          refine lv_iload_n hx hb dX3_replaced_34 rfl (lv_at hl 2 rfl) ?_
          refine lv_iconst (v := 1) hx hb dX3_replaced_35 (by decide) ?_
          refine lv_iadd hx hb dX3_replaced_36 ?_
          rw [nI_1 d]
          refine lv_iload_n hx hb dX3_replaced_37 rfl (lv_at hl 3 rfl) ?_
          refine hq_aload_n hx hb dX3_replaced_38 rfl (lv_at hl 4 rfl) ?_
          refine hp_cq (hp_runS (np := 4) (k := 4 + n) (mc := n) (ms := 6 * n) (As := [va_rf r7, .int (nI (d + 1)), .int (nI k), va_rf ent]) (rest := []) EE hm hS (ih M N hW r7 _ hr1 (d + 1) (by omega) (srt_spl hs _ _) (pre_spl hpre) (Nat.lt_of_le_of_lt (spl_le _ _ _) hE) hent) ms_X3_replaced wt_X3_replaced wl_X3_60 rfl hl.1 rfl (Nat.le_of_ble_eq_true rfl) dX3_replaced_39 ⟨by show 4 + n + 1 ≤ 4 + (n + 1); omega, by show 8 + (7 + 11) + 100 * (4 + n) ≤ 100 * (4 + (n + 1)); omega⟩ ⟨(by show 0 + n ≤ n + 1; omega), (by show 0 + 6 * n ≤ 6 * (n + 1); omega)⟩) hS (fun r10 Mx11 H locs hq12 hm hS => ?_)
          obtain ⟨N1, hW1, hr2, hg1⟩ := hq12
          refine hq_astore (lv' := [(5, va_rf r10), (4, .int (bI (k.testBit n))), (0, .ref a), (1, .int (nI d)), (2, .int (nI k)), (3, va_rf ent)]) hx hb dX3_replaced_42 hl (by decide) rfl (fun ls hl => ?_)
          refine lv_aload_n hx hb dX3_replaced_44 rfl (lv_at hl 2 rfl) ?_
          refine lv_iload_n hx hb dX3_replaced_45 rfl (lv_at hl 3 rfl) ?_
          refine lv_iconst (v := 1) hx hb dX3_replaced_46 (by decide) ?_
          refine lv_iload hx hb dX3_replaced_47 (lv_at hl 1 rfl) ?_
          refine lv_isub hx hb dX3_replaced_49 ?_
          rw [bI_not]
          refine hp_cq (hp_runS (np := 3) (k := 2) (mc := 0) (ms := 0) (As := [.ref a, .int (nI d), .int (bI (!(k.testBit n)))]) (rest := []) EE hm hS (c_X3_half l g Mx11 N1 Z hW1 (some a) n d (by omega) (!(k.testBit n)) E (rt.mono hg1.1 hr0)) ms_X3_half wt_X3_half wl_X3_87 rfl hl.1 rfl (Nat.le_of_ble_eq_true rfl) dX3_replaced_50 ⟨by show 2 + 1 ≤ 4 + (n + 1); omega, by show 8 + (3 + 11) + 100 * (2) ≤ 100 * (4 + (n + 1)); omega⟩ ⟨(by show 0 + n + 0 ≤ n + 1; omega), (by show 0 + (6 * n) + 0 ≤ 6 * (n + 1); omega)⟩) hS (fun r13 Mx14 H locs hq15 hm hS => ?_)
          obtain ⟨hr3, h9⟩ := hq15
          rw [h9] at hm
          refine hq_astore (lv' := [(6, va_rf r13), (5, va_rf r10), (4, .int (bI (k.testBit n))), (0, .ref a), (1, .int (nI d)), (2, .int (nI k)), (3, va_rf ent)]) hx hb dX3_replaced_53 hl (by decide) (by cases r10 <;> rfl) (fun ls hl => ?_)
          refine lv_iload hx hb dX3_replaced_55 (lv_at hl 2 rfl) ?_
          refine lv_if_ne (tgt := 70) hx hb dX3_replaced_57 (by decide) (fun c_57 => ?_) (fun c_57 => ?_)
          · have hb1 : k.testBit n = true := by
                cases h8 : k.testBit n with
                | true => rfl
                | false => rw [h8] at c_57; exact absurd rfl c_57
            rw [hb1] at hr2 hr3
            have hsp0 : spl n false (opL w k E) = spl n false E := by rw [opL_spl hs, if_neg (by rw [hb1]; decide)]
            have hsp1 : spl n true (opL w k E) = opL w k (spl n true E) := by rw [opL_spl hs, if_pos hb1]
            refine hq_aload hx hb dX3_replaced_70 (lv_at hl 0 rfl) ?_
            refine hq_aload hx hb dX3_replaced_72 (lv_at hl 1 rfl) ?_
            refine hp_cq (hp_runS (np := 2) (k := 3) (mc := 1) (ms := 6) (As := [va_rf r13, va_rf r10]) (rest := []) EE hm hS (c_X3_joined l g Mx11 N1 Z hW1 r13 r10 n (by omega) (opL w k E) (Nat.lt_of_le_of_lt (opL_len w k E) (by omega)) (by rw [hsp0]; exact hr3) (by rw [hsp1]; exact hr2)) ms_X3_joined wt_X3_joined wl_X3_141 rfl hl.1 rfl (Nat.le_of_ble_eq_true rfl) dX3_replaced_74 ⟨by show 3 + 1 ≤ 4 + (n + 1); omega, by show 8 + (2 + 11) + 100 * (3) ≤ 100 * (4 + (n + 1)); omega⟩ ⟨(by show 0 + n + 1 ≤ n + 1; omega), (by show 0 + (6 * n) + 6 ≤ 6 * (n + 1); omega)⟩) hS (fun r16 Mx17 H locs hq18 hm hS => ?_)
            obtain ⟨N2, hW2, hr4, hg2⟩ := hq18
            exact ret (v := r16) dX3_replaced_77 hm hS (by omega) (by omega) (⟨N2, hW2, hr4, hg1.tr hg2 (Nat.le_refl _)⟩)
          · have hb1 : k.testBit n = false := by
                cases h8 : k.testBit n with
                | false => rfl
                | true => rw [h8] at c_57; exact absurd c_57 (by decide)
            rw [hb1] at hr2 hr3
            have hsp0 : spl n false (opL w k E) = opL w k (spl n false E) := by rw [opL_spl hs, if_pos hb1]
            have hsp1 : spl n true (opL w k E) = spl n true E := by rw [opL_spl hs, if_neg (by rw [hb1]; decide)]
            refine hq_aload hx hb dX3_replaced_60 (lv_at hl 1 rfl) ?_
            refine hq_aload hx hb dX3_replaced_62 (lv_at hl 0 rfl) ?_
            refine hp_cq (hp_runS (np := 2) (k := 3) (mc := 1) (ms := 6) (As := [va_rf r10, va_rf r13]) (rest := []) EE hm hS (c_X3_joined l g Mx11 N1 Z hW1 r10 r13 n (by omega) (opL w k E) (Nat.lt_of_le_of_lt (opL_len w k E) (by omega)) (by rw [hsp0]; exact hr2) (by rw [hsp1]; exact hr3)) ms_X3_joined wt_X3_joined wl_X3_141 rfl hl.1 rfl (Nat.le_of_ble_eq_true rfl) dX3_replaced_64 ⟨by show 3 + 1 ≤ 4 + (n + 1); omega, by show 8 + (2 + 11) + 100 * (3) ≤ 100 * (4 + (n + 1)); omega⟩ ⟨(by show 0 + n + 1 ≤ n + 1; omega), (by show 0 + (6 * n) + 6 ≤ 6 * (n + 1); omega)⟩) hS (fun r19 Mx20 H locs hq21 hm hS => ?_)
            obtain ⟨N2, hW2, hr4, hg2⟩ := hq21
            refine lv_goto (tgt := 77) hx hb dX3_replaced_67 (by decide) ?_
            exact ret (v := r19) dX3_replaced_77 hm hS (by omega) (by omega) (⟨N2, hW2, hr4, hg1.tr hg2 (Nat.le_refl _)⟩)
        · have hie : isEn E k = true := by
              cases h8 : isEn E k with
              | true => rfl
              | false => rw [h8] at c_15; exact absurd rfl c_15
          refine hq_aload_n hx hb dX3_replaced_18 rfl (lv_at hl 3 rfl) ?_
          exact ret (v := ent) dX3_replaced_19 hm hS (by omega) (by omega) (⟨N, hW, by rw [opL_one hie]; exact rt_up hent (opL_nil_len w k), gr.rf⟩)
