/-- what the way of a key ends with -/
def endE : Nat → Nat → En → En
  | 0, _, E => E
  | n + 1, k, E => if E.length ≤ 1 then E else endE n k (spl n (k.testBit n) E)
theorem endE_1 {n k : Nat} {E : En} (h : E.length ≤ 1) : endE n k E = E := by
  cases n with
  | zero => rfl
  | succ n => show (if E.length ≤ 1 then E else _) = E; rw [if_pos h]
theorem endE_2 {n k : Nat} {E : En} (h : ¬ E.length ≤ 1) : endE (n + 1) k E = endE n k (spl n (k.testBit n) E) := by
  show (if E.length ≤ 1 then E else _) = _
  rw [if_neg h]
set_option maxHeartbeats 4000000 in
set_option maxRecDepth 100000 in
theorem c_X3_endOf (l : Launch) (g : hG) (M : hM) (N Z : gT) (hW : WF g M N Z) (r : Option Nat) (E : En) (hr : rt N r 16 E) (k : Nat) (hk : k < 65536) : Cq l g yX3_endOf cX3_endOf 4 ((.object "ProofMap$Node")) 3 0 0 [va_rf r, .int (nI k)] M (fun r M9 => (∃ n9, rt N r n9 (endE 16 k E)) ∧ M9 = M) := by
  refine hp_startQ (by decide) (by cases r <;> exact Nat.le_of_ble_eq_true rfl) (by first | exact Or.inl ⟨_, rfl⟩ | exact Or.inr ⟨_, rfl⟩) ?_
  intro p e s m below meth c Q H locs ls EE hnm ret hm hS hl
  have hx := EE.1
  have hb := EE.2.1
  have hown := EE.2.2.2.1
  have hts := EE.2.2.2.2.1
  have hl : lv_has ls 4 [(0, va_rf r), (1, .int (nI k))] := by cases r <;> exact hl
  refine hq_aload_n hx hb dX3_endOf_0 rfl (lv_at hl 0 rfl) ?_
  refine hq_astore_n (lv' := [(2, va_rf r), (0, va_rf r), (1, .int (nI k))]) hx hb dX3_endOf_1 rfl hl (by decide) rfl (fun ls hl => ?_)
  refine lv_iconst (v := 0) hx hb dX3_endOf_2 (by decide) ?_
  refine lv_istore_n (lv' := [(3, .int 0), (2, va_rf r), (0, va_rf r), (1, .int (nI k))]) hx hb dX3_endOf_3 rfl hl (by decide) (by cases r <;> rfl) (fun ls hl => ?_)
  have lp : ∀ (n d : Nat) (nn : Nat) (r1 : Option Nat) (E1 : En) (H : Heap) (locs : List Loc) (ls : Array Slot), 17 ≤ d + n → d + nn = 16 → rt N r1 nn E1 → endE nn k E1 = endE 16 k E → hp g M H → va_S (hA g) s.heap H locs → lv_has ls 4 [(3, .int (nI d)), (2, va_rf r1), (0, va_rf r), (1, .int (nI k))] → W p l e (hR 3 0 0) s m [va_rf r, .int (nI k)].toArray below meth c H locs 0 0 Q (F0 m 4 ls []) := by
    intro n
    induction n with
    | zero => intro d nn r1 E1 H locs ls hn hd hr1 hen; exact absurd hn (by omega)
    | succ n ih =>
      intro d nn r1 E1 H locs ls hn hd hr1 hen hm hS hl
      have hlen := rt_len hW hr1
      refine lv_iload_n hx hb dX3_endOf_4 rfl (lv_at hl 0 rfl) ?_
      refine lv_bipush (v := 16) hx hb dX3_endOf_5 (by decide) ?_
      refine lv_icmp_ge (tgt := 35) hx hb dX3_endOf_7 (by decide) (fun c_7 => ?_) (fun c_7 => ?_)
      · have c_7 : 16 ≤ d := (nI_leI (a := 16) (b := d) (by decide) (by omega)).mp c_7
        have hn0 : nn = 0 := by omega
        subst hn0
        refine hq_aload_n hx hb dX3_endOf_35 rfl (lv_at hl 1 rfl) ?_
        exact ret (v := r1) dX3_endOf_36 hm hS (Nat.le_of_ble_eq_true rfl) (Nat.le_of_ble_eq_true rfl) (⟨⟨_, by rw [← hen]; exact hr1⟩, rfl⟩)
      · have c_7 : ¬ 16 ≤ d := fun h9 => c_7 ((nI_leI (a := 16) (b := d) (by decide) (by omega)).mpr h9)
        obtain ⟨n1, hn1⟩ : ∃ n1, nn = n1 + 1 := ⟨nn - 1, by omega⟩
        subst hn1
        refine hq_aload_n hx hb dX3_endOf_10 rfl (lv_at hl 1 rfl) ?_
        refine hp_ci (hp_runS (np := 1) (k := 1) (mc := 0) (ms := 0) (As := [va_rf r1]) (rest := []) EE hm hS (c_X3_countOf l g M N Z hW r1 _ E1 hr1) ms_X3_countOf wt_X3_countOf wl_X3_53 rfl hl.1 rfl (Nat.le_of_ble_eq_true rfl) dX3_endOf_11 ⟨Nat.le_of_ble_eq_true rfl, Nat.le_of_ble_eq_true rfl⟩ ⟨(Nat.le_of_ble_eq_true rfl), (Nat.le_of_ble_eq_true rfl)⟩) hS (fun r1 Mx2 H locs hq3 hm hS => ?_)
        obtain ⟨rfl, h9⟩ := hq3
        rw [h9] at hm
        refine lv_iconst (v := 1) hx hb dX3_endOf_14 (by decide) ?_
        refine lv_icmp_le (tgt := 35) hx hb dX3_endOf_15 (by decide) (fun c_15 => ?_) (fun c_15 => ?_)
        · have c_15 : E1.length ≤ 1 := (nI_leI (a := E1.length) (b := 1) (by omega) (by decide)).mp c_15
          refine hq_aload_n hx hb dX3_endOf_35 rfl (lv_at hl 1 rfl) ?_
          exact ret (v := r1) dX3_endOf_36 hm hS (Nat.le_of_ble_eq_true rfl) (Nat.le_of_ble_eq_true rfl) (⟨⟨_, by rw [← hen, endE_1 (by omega)]; exact hr1⟩, rfl⟩)
        · have c_15 : ¬ E1.length ≤ 1 := fun h9 => c_15 ((nI_leI (a := E1.length) (b := 1) (by omega) (by decide)).mpr h9)
          refine hq_aload_n hx hb dX3_endOf_18 rfl (lv_at hl 1 rfl) ?_
          refine lv_iload_n hx hb dX3_endOf_19 rfl (lv_at hl 0 rfl) ?_
          refine lv_iload_n hx hb dX3_endOf_20 rfl (lv_at hl 3 rfl) ?_
          refine lv_iload_n hx hb dX3_endOf_21 rfl (lv_at hl 0 rfl) ?_
          refine hp_ci (hp_runS (np := 2) (k := 1) (mc := 0) (ms := 0) (As := [.int (nI k), .int (nI d)]) (rest := [.int (nI d), va_rf r1]) EE hm hS (c_X3_bitAt l g M (nI k) (nI d)) ms_X3_bitAt wt_X3_bitAt wl_X3_83 rfl hl.1 rfl (by cases r1 <;> exact Nat.le_of_ble_eq_true rfl) dX3_endOf_22 ⟨Nat.le_of_ble_eq_true rfl, Nat.le_of_ble_eq_true rfl⟩ ⟨(Nat.le_of_ble_eq_true rfl), (Nat.le_of_ble_eq_true rfl)⟩) hS (fun r4 Mx5 H locs hq6 hm hS => ?_)
          obtain ⟨hr9, h9⟩ := hq6
          rw [h9] at hm
          rw [bitA_n hk (show d + n1 = 15 by omega)] at hr9
          subst hr9
          refine hp_cq (hp_runS (np := 3) (k := 2) (mc := 0) (ms := 0) (As := [va_rf r1, .int (nI d), .int (bI (k.testBit n1))]) (rest := []) EE hm hS (c_X3_half l g M N Z hW r1 n1 d (by omega) (k.testBit n1) E1 hr1) ms_X3_half wt_X3_half wl_X3_87 rfl hl.1 rfl (Nat.le_of_ble_eq_true rfl) dX3_endOf_25 ⟨Nat.le_of_ble_eq_true rfl, Nat.le_of_ble_eq_true rfl⟩ ⟨(Nat.le_of_ble_eq_true rfl), (Nat.le_of_ble_eq_true rfl)⟩) hS (fun r7 Mx8 H locs hq9 hm hS => ?_)
          obtain ⟨hr2, h9⟩ := hq9
          rw [h9] at hm
          refine hq_astore_n (lv' := [(2, va_rf r7), (3, .int (nI d)), (0, va_rf r), (1, .int (nI k))]) hx hb dX3_endOf_28 rfl hl (by decide) rfl (fun ls hl => ?_)
          refine lv_iinc (v := nI (d + 1)) (lv' := [(3, .int (nI (d + 1))), (2, va_rf r7), (0, va_rf r), (1, .int (nI k))]) hx hb dX3_endOf_29 hl (k := 1) rfl (nI_1 _) (by decide) (by cases r7 <;> rfl) (fun ls hl => ?_)
          refine lv_goto (tgt := 4) hx hb dX3_endOf_32 (by decide) ?_
          exact ih (d + 1) n1 _ _ H locs ls (by omega) (by omega) hr2 (by rw [← hen, endE_2 (by omega)]) hm hS (lv_sub hl [0, 1, 2, 3] rfl)
  exact lp 17 0 16 r E H locs ls (by omega) (by omega) hr rfl hm hS (lv_sub hl [0, 1, 2, 3] rfl)
set_option maxHeartbeats 4000000 in
set_option maxRecDepth 100000 in
theorem c_X1_init (l : Launch) (g : hG) (M : hM) (q : Nat) (k0 v0 : Int32) (e_q : M q = some (.inr (1, [.int 0, .int 0, .int 0, .null, .null, .null]))) : Cv l g yX1_init cX1_init 3 1 0 0 [.ref q, .int k0, .int v0] M (fun M9 => M9 q = some (.inr (1, [.int 1, .int k0, .int v0, .null, .null, .null])) ∧ ∀ x, x ≠ q → M9 x = M x) := by
  refine hp_startV (by decide) (by exact Nat.le_of_ble_eq_true rfl) ?_
  intro p e s m below meth c Q H locs ls EE hnm ret hm hS hl
  have hx := EE.1
  have hb := EE.2.1
  have hown := EE.2.2.2.1
  have hts := EE.2.2.2.2.1
  have hl : lv_has ls 3 [(0, .ref q), (1, .int k0), (2, .int v0)] := hl
  refine lv_aload_n hx hb dX1_init_0 rfl (lv_at hl 0 rfl) ?_
  refine hp_obj EE wl_X1_1 wi_objectInit wcode_objectInit hl.1 dX1_init_1 (Nat.le_of_ble_eq_true rfl) (Nat.le_of_ble_eq_true rfl) ?_
  refine lv_aload_n hx hb dX1_init_4 rfl (lv_at hl 0 rfl) ?_
  refine lv_iconst (v := 1) hx hb dX1_init_5 (by decide) ?_
  refine hp_putF (C := RX1) (T := TX1) (N := 6) (v := .int 1) (ty := .int) EE hm hS e_q inh1 tyX1 tyX1_ok nmX1 rfl 0 (by decide) wf_X1_7 rfl hnm rfl (by decide +kernel) rfl rfl (Nat.le_of_ble_eq_true rfl) dX1_init_6 (fun H locs hm hS => ?_)
  obtain ⟨Mx1, hMx1⟩ : ∃ Mz, Mz = hm_up M q (.inr (1, [.int 1, .int 0, .int 0, .null, .null, .null])) := ⟨_, rfl⟩
  have hm : hp g Mx1 H := by rw [hMx1]; exact hm
  have e_q : Mx1 q = some (.inr (1, [.int 1, .int 0, .int 0, .null, .null, .null])) := by rw [hMx1]; exact up_eq
  refine lv_aload_n hx hb dX1_init_9 rfl (lv_at hl 0 rfl) ?_
  refine lv_iload_n hx hb dX1_init_10 rfl (lv_at hl 1 rfl) ?_
  refine hp_putF (C := RX1) (T := TX1) (N := 6) (v := .int k0) (ty := .int) EE hm hS e_q inh1 tyX1 tyX1_ok nmX1 rfl 1 (by decide) wf_X1_13 rfl hnm rfl (by decide +kernel) rfl rfl (Nat.le_of_ble_eq_true rfl) dX1_init_11 (fun H locs hm hS => ?_)
  obtain ⟨Mx2, hMx2⟩ : ∃ Mz, Mz = hm_up Mx1 q (.inr (1, [.int 1, .int k0, .int 0, .null, .null, .null])) := ⟨_, rfl⟩
  have hm : hp g Mx2 H := by rw [hMx2]; exact hm
  have e_q : Mx2 q = some (.inr (1, [.int 1, .int k0, .int 0, .null, .null, .null])) := by rw [hMx2]; exact up_eq
  refine lv_aload_n hx hb dX1_init_14 rfl (lv_at hl 0 rfl) ?_
  refine lv_iload_n hx hb dX1_init_15 rfl (lv_at hl 2 rfl) ?_
  refine hp_putF (C := RX1) (T := TX1) (N := 6) (v := .int v0) (ty := .int) EE hm hS e_q inh1 tyX1 tyX1_ok nmX1 rfl 2 (by decide) wf_X1_16 rfl hnm rfl (by decide +kernel) rfl rfl (Nat.le_of_ble_eq_true rfl) dX1_init_16 (fun H locs hm hS => ?_)
  obtain ⟨Mx3, hMx3⟩ : ∃ Mz, Mz = hm_up Mx2 q (.inr (1, [.int 1, .int k0, .int v0, .null, .null, .null])) := ⟨_, rfl⟩
  have hm : hp g Mx3 H := by rw [hMx3]; exact hm
  have e_q : Mx3 q = some (.inr (1, [.int 1, .int k0, .int v0, .null, .null, .null])) := by rw [hMx3]; exact up_eq
  refine lv_aload_n hx hb dX1_init_19 rfl (lv_at hl 0 rfl) ?_
  refine lv_null hx hb dX1_init_20 ?_
  refine hp_putF (C := RX1) (T := TX1) (N := 6) (v := .null) (ty := .object "ProofMap$Node") EE hm hS e_q inh1 tyX1 tyX1_ok nmX1 rfl 3 (by decide) wf_X1_19 rfl hnm rfl (by decide +kernel) rfl rfl (Nat.le_of_ble_eq_true rfl) dX1_init_21 (fun H locs hm hS => ?_)
  obtain ⟨Mx4, hMx4⟩ : ∃ Mz, Mz = hm_up Mx3 q (.inr (1, [.int 1, .int k0, .int v0, .null, .null, .null])) := ⟨_, rfl⟩
  have hm : hp g Mx4 H := by rw [hMx4]; exact hm
  have e_q : Mx4 q = some (.inr (1, [.int 1, .int k0, .int v0, .null, .null, .null])) := by rw [hMx4]; exact up_eq
  refine lv_aload_n hx hb dX1_init_24 rfl (lv_at hl 0 rfl) ?_
  refine lv_null hx hb dX1_init_25 ?_
  refine hp_putF (C := RX1) (T := TX1) (N := 6) (v := .null) (ty := .object "ProofMap$Node") EE hm hS e_q inh1 tyX1 tyX1_ok nmX1 rfl 4 (by decide) wf_X1_23 rfl hnm rfl (by decide +kernel) rfl rfl (Nat.le_of_ble_eq_true rfl) dX1_init_26 (fun H locs hm hS => ?_)
  obtain ⟨Mx5, hMx5⟩ : ∃ Mz, Mz = hm_up Mx4 q (.inr (1, [.int 1, .int k0, .int v0, .null, .null, .null])) := ⟨_, rfl⟩
  have hm : hp g Mx5 H := by rw [hMx5]; exact hm
  have e_q : Mx5 q = some (.inr (1, [.int 1, .int k0, .int v0, .null, .null, .null])) := by rw [hMx5]; exact up_eq
  refine lv_aload_n hx hb dX1_init_29 rfl (lv_at hl 0 rfl) ?_
  refine lv_null hx hb dX1_init_30 ?_
  refine hp_put (C := RX1) (T := TX1) (N := 6) (v := .null) (ty := .array .int) EE hm hS e_q inh1 tyX1 tyX1_ok nmX1 rfl 5 (by decide) wf_X1_26 rfl (by decide +kernel) rfl rfl (Nat.le_of_ble_eq_true rfl) dX1_init_31 (fun H locs hm hS => ?_)
  obtain ⟨Mx6, hMx6⟩ : ∃ Mz, Mz = hm_up Mx5 q (.inr (1, [.int 1, .int k0, .int v0, .null, .null, .null])) := ⟨_, rfl⟩
  have hm : hp g Mx6 H := by rw [hMx6]; exact hm
  have e_q : Mx6 q = some (.inr (1, [.int 1, .int k0, .int v0, .null, .null, .null])) := by rw [hMx6]; exact up_eq
  exact ret dX1_init_34 hm hS (Nat.le_of_ble_eq_true rfl) (Nat.le_of_ble_eq_true rfl) (⟨e_q, fun x hx => by rw [hMx6, up_ne hx, hMx5, up_ne hx, hMx4, up_ne hx, hMx3, up_ne hx, hMx2, up_ne hx, hMx1, up_ne hx]⟩)
set_option maxHeartbeats 4000000 in
set_option maxRecDepth 100000 in
theorem c_X1_init_ (l : Launch) (g : hG) (M : hM) (N Z : gT) (hW : WF g M N Z) (q n : Nat) (z o : Option Nat) (E0 E1 : En) (hz : rt N z n E0) (ho : rt N o n E1) (e_q : M q = some (.inr (1, [.int 0, .int 0, .int 0, .null, .null, .null]))) : Cv l g yX1_init_ cX1_init_ 3 2 0 0 [.ref q, va_rf z, va_rf o] M (fun M9 => M9 q = some (.inr (1, [.int (nI (E0.length + E1.length)), .int 0, .int 0, va_rf z, va_rf o, .null])) ∧ ∀ x, x ≠ q → M9 x = M x) := by
  refine hp_startV (by decide) (by cases z <;> cases o <;> exact Nat.le_of_ble_eq_true rfl) ?_
  intro p e s m below meth c Q H locs ls EE hnm ret hm hS hl
  have hx := EE.1
  have hb := EE.2.1
  have hown := EE.2.2.2.1
  have hts := EE.2.2.2.2.1
  have hl : lv_has ls 3 [(0, .ref q), (1, va_rf z), (2, va_rf o)] := by cases z <;> cases o <;> exact hl
  refine lv_aload_n hx hb dX1_init__0 rfl (lv_at hl 0 rfl) ?_
  refine hp_obj EE wl_X1_1 wi_objectInit wcode_objectInit hl.1 dX1_init__1 (Nat.le_of_ble_eq_true rfl) (Nat.le_of_ble_eq_true rfl) ?_
  refine lv_aload_n hx hb dX1_init__4 rfl (lv_at hl 0 rfl) ?_
  refine hq_aload_n hx hb dX1_init__5 rfl (lv_at hl 1 rfl) ?_
  refine hp_ci (hp_runN (np := 1) (k := 1) (mc := 0) (ms := 0) (As := [va_rf z]) (rest := [.ref q]) EE hm hS (c_X3_countOf l g M N Z hW z n E0 hz) ms_X3_countOf wt_X3_countOf EE.2.2.2.2.2.2.2.2.2.2.2.2.2.1 rfl hl.1 rfl (Nat.le_of_ble_eq_true rfl) dX1_init__6 ⟨Nat.le_of_ble_eq_true rfl, Nat.le_of_ble_eq_true rfl⟩ ⟨(Nat.le_of_ble_eq_true rfl), (Nat.le_of_ble_eq_true rfl)⟩) hS (fun r1 Mx2 H locs hq3 hm hS => ?_)
  obtain ⟨rfl, h9⟩ := hq3
  rw [h9] at hm
  refine hq_aload_n hx hb dX1_init__9 rfl (lv_at hl 2 rfl) ?_
  refine hp_ci (hp_runN (np := 1) (k := 1) (mc := 0) (ms := 0) (As := [va_rf o]) (rest := [.int (nI E0.length), .ref q]) EE hm hS (c_X3_countOf l g M N Z hW o n E1 ho) ms_X3_countOf wt_X3_countOf EE.2.2.2.2.2.2.2.2.2.2.2.2.2.1 rfl hl.1 rfl (Nat.le_of_ble_eq_true rfl) dX1_init__10 ⟨Nat.le_of_ble_eq_true rfl, Nat.le_of_ble_eq_true rfl⟩ ⟨(Nat.le_of_ble_eq_true rfl), (Nat.le_of_ble_eq_true rfl)⟩) hS (fun r4 Mx5 H locs hq6 hm hS => ?_)
  obtain ⟨rfl, h9⟩ := hq6
  rw [h9] at hm
  refine lv_iadd hx hb dX1_init__13 ?_
  rw [nI_add E0.length E1.length]
  refine hp_putF (C := RX1) (T := TX1) (N := 6) (v := .int (nI (E0.length + E1.length))) (ty := .int) EE hm hS e_q inh1 tyX1 tyX1_ok nmX1 rfl 0 (by decide) wf_X1_7 rfl hnm rfl (by decide +kernel) rfl rfl (Nat.le_of_ble_eq_true rfl) dX1_init__14 (fun H locs hm hS => ?_)
  obtain ⟨Mx7, hMx7⟩ : ∃ Mz, Mz = hm_up M q (.inr (1, [.int (nI (E0.length + E1.length)), .int 0, .int 0, .null, .null, .null])) := ⟨_, rfl⟩
  have hm : hp g Mx7 H := by rw [hMx7]; exact hm
  have e_q : Mx7 q = some (.inr (1, [.int (nI (E0.length + E1.length)), .int 0, .int 0, .null, .null, .null])) := by rw [hMx7]; exact up_eq
  refine lv_aload_n hx hb dX1_init__17 rfl (lv_at hl 0 rfl) ?_
  refine lv_iconst (v := 0) hx hb dX1_init__18 (by decide) ?_
  refine hp_putF (C := RX1) (T := TX1) (N := 6) (v := .int 0) (ty := .int) EE hm hS e_q inh1 tyX1 tyX1_ok nmX1 rfl 1 (by decide) wf_X1_13 rfl hnm rfl (by decide +kernel) rfl rfl (Nat.le_of_ble_eq_true rfl) dX1_init__19 (fun H locs hm hS => ?_)
  obtain ⟨Mx8, hMx8⟩ : ∃ Mz, Mz = hm_up Mx7 q (.inr (1, [.int (nI (E0.length + E1.length)), .int 0, .int 0, .null, .null, .null])) := ⟨_, rfl⟩
  have hm : hp g Mx8 H := by rw [hMx8]; exact hm
  have e_q : Mx8 q = some (.inr (1, [.int (nI (E0.length + E1.length)), .int 0, .int 0, .null, .null, .null])) := by rw [hMx8]; exact up_eq
  refine lv_aload_n hx hb dX1_init__22 rfl (lv_at hl 0 rfl) ?_
  refine lv_iconst (v := 0) hx hb dX1_init__23 (by decide) ?_
  refine hp_putF (C := RX1) (T := TX1) (N := 6) (v := .int 0) (ty := .int) EE hm hS e_q inh1 tyX1 tyX1_ok nmX1 rfl 2 (by decide) wf_X1_16 rfl hnm rfl (by decide +kernel) rfl rfl (Nat.le_of_ble_eq_true rfl) dX1_init__24 (fun H locs hm hS => ?_)
  obtain ⟨Mx9, hMx9⟩ : ∃ Mz, Mz = hm_up Mx8 q (.inr (1, [.int (nI (E0.length + E1.length)), .int 0, .int 0, .null, .null, .null])) := ⟨_, rfl⟩
  have hm : hp g Mx9 H := by rw [hMx9]; exact hm
  have e_q : Mx9 q = some (.inr (1, [.int (nI (E0.length + E1.length)), .int 0, .int 0, .null, .null, .null])) := by rw [hMx9]; exact up_eq
  refine lv_aload_n hx hb dX1_init__27 rfl (lv_at hl 0 rfl) ?_
  refine hq_aload_n hx hb dX1_init__28 rfl (lv_at hl 1 rfl) ?_
  refine hp_putF (C := RX1) (T := TX1) (N := 6) (v := va_rf z) (ty := .object "ProofMap$Node") EE hm hS e_q inh1 tyX1 tyX1_ok nmX1 rfl 3 (by decide) wf_X1_19 rfl hnm rfl (by decide +kernel) (by cases z <;> rfl) (by cases z <;> rfl) (Nat.le_of_ble_eq_true rfl) dX1_init__29 (fun H locs hm hS => ?_)
  obtain ⟨Mx10, hMx10⟩ : ∃ Mz, Mz = hm_up Mx9 q (.inr (1, [.int (nI (E0.length + E1.length)), .int 0, .int 0, va_rf z, .null, .null])) := ⟨_, rfl⟩
  have hm : hp g Mx10 H := by rw [hMx10]; exact hm
  have e_q : Mx10 q = some (.inr (1, [.int (nI (E0.length + E1.length)), .int 0, .int 0, va_rf z, .null, .null])) := by rw [hMx10]; exact up_eq
  refine lv_aload_n hx hb dX1_init__32 rfl (lv_at hl 0 rfl) ?_
  refine hq_aload_n hx hb dX1_init__33 rfl (lv_at hl 2 rfl) ?_
  refine hp_putF (C := RX1) (T := TX1) (N := 6) (v := va_rf o) (ty := .object "ProofMap$Node") EE hm hS e_q inh1 tyX1 tyX1_ok nmX1 rfl 4 (by decide) wf_X1_23 rfl hnm rfl (by decide +kernel) (by cases o <;> rfl) (by cases o <;> rfl) (Nat.le_of_ble_eq_true rfl) dX1_init__34 (fun H locs hm hS => ?_)
  obtain ⟨Mx11, hMx11⟩ : ∃ Mz, Mz = hm_up Mx10 q (.inr (1, [.int (nI (E0.length + E1.length)), .int 0, .int 0, va_rf z, va_rf o, .null])) := ⟨_, rfl⟩
  have hm : hp g Mx11 H := by rw [hMx11]; exact hm
  have e_q : Mx11 q = some (.inr (1, [.int (nI (E0.length + E1.length)), .int 0, .int 0, va_rf z, va_rf o, .null])) := by rw [hMx11]; exact up_eq
  refine lv_aload_n hx hb dX1_init__37 rfl (lv_at hl 0 rfl) ?_
  refine lv_null hx hb dX1_init__38 ?_
  refine hp_put (C := RX1) (T := TX1) (N := 6) (v := .null) (ty := .array .int) EE hm hS e_q inh1 tyX1 tyX1_ok nmX1 rfl 5 (by decide) wf_X1_26 rfl (by decide +kernel) rfl rfl (Nat.le_of_ble_eq_true rfl) dX1_init__39 (fun H locs hm hS => ?_)
  obtain ⟨Mx12, hMx12⟩ : ∃ Mz, Mz = hm_up Mx11 q (.inr (1, [.int (nI (E0.length + E1.length)), .int 0, .int 0, va_rf z, va_rf o, .null])) := ⟨_, rfl⟩
  have hm : hp g Mx12 H := by rw [hMx12]; exact hm
  have e_q : Mx12 q = some (.inr (1, [.int (nI (E0.length + E1.length)), .int 0, .int 0, va_rf z, va_rf o, .null])) := by rw [hMx12]; exact up_eq
  exact ret dX1_init__42 hm hS (Nat.le_of_ble_eq_true rfl) (Nat.le_of_ble_eq_true rfl) (⟨e_q, fun x hx => by rw [hMx12, up_ne hx, hMx11, up_ne hx, hMx10, up_ne hx, hMx9, up_ne hx, hMx8, up_ne hx, hMx7, up_ne hx]⟩)
/-- M and N grow: at most k new cells, all of them new addresses -/
def gr (M : hM) (N : gT) (M9 : hM) (N9 : gT) (k : Nat) : Prop := (∀ q x, N q = some x → N9 q = some x) ∧ (∀ q, N9 q ≠ none → N q = none → M q = none) ∧ (∀ q e, M q = some e → M9 q = some e) ∧ ∃ L : List Nat, L.length ≤ k ∧ ∀ q, M q = none → M9 q ≠ none → q ∈ L
theorem gr.rf {M : hM} {N : gT} {k : Nat} : gr M N M N k := ⟨fun _ _ h => h, fun q h1 h2 => absurd h2 h1, fun _ _ h => h, [], Nat.zero_le _, fun q h1 h2 => absurd h1 h2⟩
theorem gr.tr {M M1 M2 : hM} {N N1 N2 : gT} {k1 k2 k : Nat} (h : gr M N M1 N1 k1) (h2 : gr M1 N1 M2 N2 k2) (hk : k1 + k2 ≤ k) : gr M N M2 N2 k := by
  obtain ⟨a1, a2, a3, L1, a4, a5⟩ := h
  obtain ⟨b1, b2, b3, L2, b4, b5⟩ := h2
  refine ⟨fun q x hx => b1 q x (a1 q x hx), fun q hq h0 => ?_, fun q e he => b3 q e (a3 q e he), L1 ++ L2, by rw [List.length_append]; omega, fun q h0 h2 => ?_⟩
  · cases h9 : N1 q with
    | some x => exact a2 q (by rw [h9]; exact fun z => by cases z) h0
    | none =>
      have h8 := b2 q hq h9
      cases h7 : M q with
      | none => rfl
      | some e => rw [a3 q e h7] at h8; cases h8
  · cases h9 : M1 q with
    | some e => exact List.mem_append_left _ (a5 q h0 (by rw [h9]; exact fun z => by cases z))
    | none => exact List.mem_append_right _ (b5 q h9 h2)
theorem rt.mono {N N9 : gT} (h : ∀ q x, N q = some x → N9 q = some x) {r : Option Nat} {n : Nat} {E : En} (hr : rt N r n E) : rt N9 r n E := by
  cases r with
  | none => exact hr
  | some a =>
    obtain ⟨n', h1, h2⟩ := hr
    exact ⟨n', h a _ h1, h2⟩
theorem nd.mono {M M9 : hM} {N N9 Z : gT} (hM : ∀ q e, M q = some e → M9 q = some e) (hN : ∀ q x, N q = some x → N9 q = some x) {a n : Nat} {E : En} (h : nd M N Z a n E) : nd M9 N9 Z a n E := by
  obtain ⟨ky, vl, z, o, dg, h1, h2, h3, h4⟩ := h
  refine ⟨ky, vl, z, o, dg, hM _ _ h1, h2, h3, ?_⟩
  rcases h4 with h | ⟨n', q1, q2, q3, q4, q5⟩
  · exact Or.inl h
  · exact Or.inr ⟨n', q1, q2, q3, q4.mono hN, q5.mono hN⟩
theorem WF.mono {g : hG} {M M9 : hM} {N Z : gT} (hW : WF g M N Z) (hM : ∀ q e, M q = some e → M9 q = some e) : WF g M9 N Z :=
  ⟨fun a n E h => (hW.1 a n E h).mono hM (fun _ _ h => h), fun b n E h => by obtain ⟨f, h1, h2⟩ := hW.2 b n E h; exact ⟨f, hM _ _ h1, h2⟩⟩
def nUp (N : gT) (a : Nat) (x : Nat × En) : gT := fun q => if q = a then some x else N q
theorem nUp_eq {N : gT} {a : Nat} {x : Nat × En} : nUp N a x a = some x := if_pos rfl
theorem nUp_ne {N : gT} {a q : Nat} {x : Nat × En} (h : q ≠ a) : nUp N a x q = N q := if_neg h
/-- a new node -/
theorem WF.add {g : hG} {M M9 : hM} {N Z : gT} {q n : Nat} {E : En} (hW : WF g M N Z) (hq : M q = none) (hM : ∀ x, x ≠ q → M9 x = M x) (hnd : ∀ N9 : gT, (∀ p x, N p = some x → N9 p = some x) → nd M9 N9 Z q n E) : WF g M9 (nUp N q (n, E)) Z ∧ gr M N M9 (nUp N q (n, E)) 1 := by
  have hN0 : N q = none := by
    cases h : N q with
    | none => rfl
    | some x =>
      obtain ⟨ky, vl, z, o, dg, h1, -⟩ := hW.1 q x.1 x.2 h
      rw [hq] at h1; cases h1
  have hN : ∀ p x, N p = some x → nUp N q (n, E) p = some x := fun p x h => by
    rw [nUp_ne (fun z => by rw [z, hN0] at h; cases h)]; exact h
  have hMM : ∀ p e, M p = some e → M9 p = some e := fun p e h => by
    rw [hM p (fun z => by rw [z, hq] at h; cases h)]; exact h
  refine ⟨⟨fun a m F h => ?_, fun b m F h => ?_⟩, hN, fun p h1 h2 => ?_, hMM, [q], Nat.le_refl 1, fun p h1 h2 => ?_⟩
  · by_cases ha : a = q
    · subst ha
      rw [nUp_eq] at h
      cases h
      exact hnd _ hN
    · rw [nUp_ne ha] at h
      exact (hW.1 a m F h).mono hMM hN
  · obtain ⟨f, q1, q2⟩ := hW.2 b m F h
    exact ⟨f, hMM _ _ q1, q2⟩
  · by_cases ha : p = q
    · rw [ha]; exact hq
    · rw [nUp_ne ha] at h1; exact absurd h2 h1
  · by_cases ha : p = q
    · rw [ha]; exact List.mem_singleton.mpr rfl
    · rw [hM p ha] at h2; exact absurd h1 h2
theorem spl_all {n : Nat} {b : Bool} {E : En} (h : spl n (!b) E = []) : spl n b E = E := by
  unfold spl
  refine List.filter_eq_self.mpr (fun x hx => ?_)
  cases hb : (x.1.testBit n == b) with
  | true => rfl
  | false =>
    have : x ∈ spl n (!b) E := spl_mem.mpr ⟨hx, by cases b <;> cases hq : x.1.testBit n <;> simp_all⟩
    rw [h] at this
    cases this
set_option maxHeartbeats 4000000 in
set_option maxRecDepth 100000 in
theorem c_X3_joined (l : Launch) (g : hG) (M : hM) (N Z : gT) (hW : WF g M N Z) (z o : Option Nat) (n : Nat) (hn : n < 16) (E : En) (hE : E.length < 2 ^ 30) (hz : rt N z n (spl n false E)) (ho : rt N o n (spl n true E)) : Cq l g yX3_joined cX3_joined 2 ((.object "ProofMap$Node")) 3 1 6 [va_rf z, va_rf o] M (fun r M9 => ∃ N9, WF g M9 N9 Z ∧ rt N9 r (n + 1) E ∧ gr M N M9 N9 1) := by
  have hsum := spl_len n E
  refine hp_startQ (by decide) (by cases z <;> cases o <;> exact Nat.le_of_ble_eq_true rfl) (by first | exact Or.inl ⟨_, rfl⟩ | exact Or.inr ⟨_, rfl⟩) ?_
  intro p e s m below meth c Q H locs ls EE hnm ret hm hS hl
  have hx := EE.1
  have hb := EE.2.1
  have hown := EE.2.2.2.1
  have hts := EE.2.2.2.2.1
  have hl : lv_has ls 2 [(0, va_rf z), (1, va_rf o)] := by cases z <;> cases o <;> exact hl
  refine hq_aload_n hx hb dX3_joined_0 rfl (lv_at hl 0 rfl) ?_
  refine hp_ci (hp_runS (np := 1) (k := 1) (mc := 0) (ms := 0) (As := [va_rf z]) (rest := []) EE hm hS (c_X3_countOf l g M N Z hW z n (spl n false E) hz) ms_X3_countOf wt_X3_countOf wl_X3_53 rfl hl.1 rfl (Nat.le_of_ble_eq_true rfl) dX3_joined_1 ⟨Nat.le_of_ble_eq_true rfl, Nat.le_of_ble_eq_true rfl⟩ ⟨(Nat.le_of_ble_eq_true rfl), (Nat.le_of_ble_eq_true rfl)⟩) hS (fun r1 Mx2 H locs hq3 hm hS => ?_)
  obtain ⟨rfl, h9⟩ := hq3
  rw [h9] at hm
  refine hq_aload_n hx hb dX3_joined_4 rfl (lv_at hl 1 rfl) ?_
  refine hp_ci (hp_runS (np := 1) (k := 1) (mc := 0) (ms := 0) (As := [va_rf o]) (rest := [.int (nI (spl n false E).length)]) EE hm hS (c_X3_countOf l g M N Z hW o n (spl n true E) ho) ms_X3_countOf wt_X3_countOf wl_X3_53 rfl hl.1 rfl (Nat.le_of_ble_eq_true rfl) dX3_joined_5 ⟨Nat.le_of_ble_eq_true rfl, Nat.le_of_ble_eq_true rfl⟩ ⟨(Nat.le_of_ble_eq_true rfl), (Nat.le_of_ble_eq_true rfl)⟩) hS (fun r4 Mx5 H locs hq6 hm hS => ?_)
  obtain ⟨rfl, h9⟩ := hq6
  rw [h9] at hm
  refine lv_iadd hx hb dX3_joined_8 ?_
  rw [nI_add, hsum]
  refine lv_iconst (v := 1) hx hb dX3_joined_9 (by decide) ?_
  refine lv_icmp_le (tgt := 23) hx hb dX3_joined_10 (by decide) (fun c_10 => ?_) (fun c_10 => ?_)
  · have c_10 : E.length ≤ 1 := (nI_leI (a := E.length) (b := 1) (by omega) (by decide)).mp c_10
    refine hq_aload_n hx hb dX3_joined_23 rfl (lv_at hl 0 rfl) ?_
    refine hq_ifnonnull (tgt := 31) hx hb dX3_joined_24 (by decide) (fun a hz9 => ?_) (fun hz9 => ?_)
    · have hz8 : spl n true E = [] := by
          rw [hz9] at hz
          obtain ⟨n8, -, h8, -⟩ := hz
          have : 0 < (spl n false E).length := List.length_pos_iff.mpr h8
          exact List.length_eq_zero_iff.mp (by omega)
      refine hq_aload_n hx hb dX3_joined_31 rfl (lv_at hl 0 rfl) ?_
      exact ret (v := z) dX3_joined_32 hm hS (Nat.le_of_ble_eq_true rfl) (Nat.le_of_ble_eq_true rfl) (⟨N, hW, by rw [spl_all (b := false) hz8] at hz; exact rt_up hz (by omega), gr.rf⟩)
    · have hz8 : spl n false E = [] := by rw [hz9] at hz; exact hz
      refine hq_aload_n hx hb dX3_joined_27 rfl (lv_at hl 1 rfl) ?_
      refine lv_goto (tgt := 32) hx hb dX3_joined_28 (by decide) ?_
      exact ret (v := o) dX3_joined_32 hm hS (Nat.le_of_ble_eq_true rfl) (Nat.le_of_ble_eq_true rfl) (⟨N, hW, by rw [spl_all (b := true) hz8] at ho; exact rt_up ho (by omega), gr.rf⟩)
  · have c_10 : ¬ E.length ≤ 1 := fun h9 => c_10 ((nI_leI (a := E.length) (b := 1) (by omega) (by decide)).mpr h9)
    refine hp_new (C := RX1) (T := TX1) (N := 6) (ci := 1) (fs := [.int 0, .int 0, .int 0, .null, .null, .null]) EE hm hS inh1 tyX1 tyX1_ok rfl wc_X3_9 wa_X1 wn_X1 (by decide +kernel) (Nat.le_of_ble_eq_true rfl) (Nat.le_of_ble_eq_true rfl) dX3_joined_13 (fun q7 H hq7 hm hS => ?_)
    obtain ⟨Mx8, hMx8⟩ : ∃ Mz, Mz = hm_up M q7 (.inr (1, [.int 0, .int 0, .int 0, .null, .null, .null])) := ⟨_, rfl⟩
    have hm : hp g Mx8 H := by rw [hMx8]; exact hm
    have e_q7 : Mx8 q7 = some (.inr (1, [.int 0, .int 0, .int 0, .null, .null, .null])) := by rw [hMx8]; exact up_eq
    refine lv_dup hx hb dX3_joined_16 rfl ?_
    refine hq_aload_n hx hb dX3_joined_17 rfl (lv_at hl 0 rfl) ?_
    refine hq_aload_n hx hb dX3_joined_18 rfl (lv_at hl 1 rfl) ?_
    refine hp_cv (hp_runI (np := 2) (k := 2) (mc := 0) (ms := 0) (As := [va_rf z, va_rf o]) (rest := [.ref q7]) EE hm hS (c_X1_init_ l g Mx8 N Z (hW.mono (fun x e9 h9 => by rw [hMx8]; exact up_at (ne_new hq7 h9) h9)) q7 n z o _ _ hz ho e_q7) ms_X1_init_ wi_X1_init_ rfl wl_X3_145 rfl hl.1 rfl (Nat.le_of_ble_eq_true rfl) dX3_joined_19 ⟨Nat.le_of_ble_eq_true rfl, Nat.le_of_ble_eq_true rfl⟩ ⟨(Nat.le_of_ble_eq_true rfl), (Nat.le_of_ble_eq_true rfl)⟩) hS (fun Mx9 H locs hq10 hm hS => ?_)
    obtain ⟨e_q, hfr⟩ := hq10
    rw [hsum] at e_q
    have hadd := WF.add (M9 := Mx9) (q := q7) (n := n + 1) (E := E) hW hq7 (fun x hx => by rw [hfr x hx, hMx8, up_ne hx]) (fun N9 hN9 => ⟨0, 0, z, o, none, e_q, fun b hb => (by cases hb), hE, Or.inr ⟨n, rfl, hn, (by omega), hz.mono hN9, ho.mono hN9⟩⟩)
    exact ret (v := some q7) dX3_joined_22 hm hS (Nat.le_of_ble_eq_true rfl) (Nat.le_of_ble_eq_true rfl) (⟨_, hadd.1, ⟨n + 1, nUp_eq, (by intro h; rw [h] at c_10; simp at c_10), fun _ => rfl⟩, hadd.2⟩)
