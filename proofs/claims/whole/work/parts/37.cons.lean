section HC
variable {p : Program} {l : Launch} {e : Env} {R : Room} {s : State} {m : MethodId} {args : Array Value} {below : List Frame} {meth : Method} {c : Code} {H : Heap} {locs : List Loc} {cells slots : Nat} {Q : State → Prop}
variable {cc : ByteArray} {pc : Nat} {ls : Array Slot} {rest : List Value} {a : Nat} {g : hG} {M : hM} {own : String} {nL : Nat}
theorem hp_out (hm : hp g M H) {q : Nat} (hq : H.size ≤ q) : M q = none := by
  cases h : M q with
  | none => rfl
  | some e0 => exact absurd ((hm _ _ h).2.lt) (Nat.not_lt.mpr hq)
/-- a new Node[] -/
theorem hp_anw (E : hE p c cc nL s args m own g) (hm : hp g M H) (hS : va_S (hA g) s.heap H locs) {index : Nat} (hcl : Cond.classLink own index "ProofMap$Node" ∈ hT) {n : Int32} {N' : Nat} (hn : ¬ n < 0) (hN : n.toNatClampNeg = N') (hbytes : N' * 4 ≤ 536870912) (hcells : cells + 1 ≤ R.cells) (hslots : slots + N' ≤ R.slots) (hdg : decode cc pc = .ok (.anewarray index, 3))
    (kk : ∀ (q : Nat) (H1 : Heap), M q = none → hp g (hm_up M q (aN g N' (fun _ => none))) H1 → va_S (hA g) s.heap H1 locs → W p l e R s m args below meth c H1 locs (cells + 1) (slots + N') Q (F0 m (pc + 3) ls (.ref q :: rest))) : W p l e R s m args below meth c H locs cells slots Q (F0 m pc ls (.int n :: rest)) := by
  obtain ⟨hx, hb, -, hown, hts, hG⟩ := E
  subst hN
  refine W.anew hx hb hown (hts _ hcl) (va_AO.use hG.2.2.2.2.2.2.2.2.2.2.1) rfl hdg rfl hn hbytes hcells hslots fun cA kA comp f1 f2 f3 f4 => ?_
  obtain ⟨-, -, -, -, -, hf⟩ := (hG.1.2 1 (gN g, .object "ProofMap$Node") rfl).2
  have hcA : cA = gN g := Option.some.inj (f1.symm.trans hf)
  subst hcA
  generalize hH1 : H.push ({ cls := gN g, slots := Array.replicate n.toNatClampNeg .null, vm := .none } : Cell) = H1
  have z1 : H1.size = H.size + 1 := by rw [← hH1, Array.size_push]
  have e1 : H1[H.size]? = some (arrV (gN g) n.toNatClampNeg (fun _ => .null)) := by rw [← hH1, Array.getElem?_push_size, ← arrV_new]
  have o1 : ∀ q : Nat, q < H.size → H1[q]? = H[q]? := fun q hq => by rw [← hH1, Array.getElem?_push, if_neg (Nat.ne_of_lt hq)]
  refine kk H.size H1 (hp_out hm (Nat.le_refl _)) (fun b eb hb => ?_) ⟨Nat.le_trans hS.1 (by omega), fun x h1 h2 => (o1 x (Nat.lt_of_lt_of_le h1 hS.1)).trans (hS.2.1 x h1 h2), hS.2.2⟩
  by_cases hba : b = H.size
  · subst hba
    rw [up_eq] at hb
    cases hb
    exact ⟨Nat.le_trans hG.2.1 hS.1, e1⟩
  · rw [up_ne hba] at hb
    have := (hm _ _ hb).2.lt
    exact ⟨(hm _ _ hb).1, (hm _ _ hb).2.kept (o1 _ this)⟩
theorem outer_arr (c : ClassId) (N h0 : Nat) : ∀ i : Nat, Jvm.Free.Multi.outerC c N h0 i = arrV c N (fun j => if j < i then .ref (h0 + 1 + j) else .null)
  | 0 => by
    show ({ cls := c, slots := Array.replicate N .null, vm := .none } : Cell) = _
    rw [arrV_new]
    rfl
  | i + 1 => by
    show (Jvm.Free.Multi.outerC c N h0 i).setSlot i (.ref (h0 + 1 + i)) = _
    rw [outer_arr c N h0 i, arrV_store]
    refine congrArg (arrV c N) (funext fun j => ?_)
    unfold updV
    by_cases h : j = i
    · rw [if_pos h, if_pos (by omega), h]
    · rw [if_neg h]
      show (if j < i then _ else _) = _
      by_cases h2 : j < i
      · rw [if_pos h2, if_pos (by omega)]
      · rw [if_neg h2, if_neg (by omega)]
theorem arrV_ext {c : ClassId} {N : Nat} {f f2 : Nat → Value} (h : ∀ j, j < N → f j = f2 j) : arrV c N f = arrV c N f2 := by
  unfold arrV
  congr 2
  funext j
  exact h j.val j.isLt
/-- a new int[][] -/
theorem hp_mna (E : hE p c cc nL s args m own g) (hm : hp g M H) (hS : va_S (hA g) s.heap H locs) {index : Nat} (hcl : Cond.classLink own index "[[I" ∈ hT) (harr : Cond.arrayClass .int ∈ hT) {n k : Int32} {N' K' : Nat} (hn : ¬ n < 0) (hk : ¬ k < 0) (hN : n.toNatClampNeg = N') (hK : k.toNatClampNeg = K') (hb1 : N' * 4 ≤ 536870912) (hb2 : K' * 4 ≤ 536870912) (hcells : cells + (1 + N') ≤ R.cells) (hslots : slots + (N' + N' * K') ≤ R.slots) (hdg : decode cc pc = .ok (.multianewarray index 2, 4))
    (kk : ∀ (q : Nat) (M1 : hM) (H1 : Heap), M q = none → (∀ i, i < N' → M (q + 1 + i) = none) → M1 q = some (aR g N' (fun i => some (q + 1 + i))) → (∀ i, i < N' → M1 (q + 1 + i) = some (aI g K' (fun _ => 0))) → (∀ x, x ≠ q → (∀ i, i < N' → x ≠ q + 1 + i) → M1 x = M x) → hp g M1 H1 → va_S (hA g) s.heap H1 locs → W p l e R s m args below meth c H1 locs (cells + 1 + N') (slots + N' + N' * K') Q (F0 m (pc + 4) ls (.ref q :: rest))) : W p l e R s m args below meth c H locs cells slots Q (F0 m pc ls (.int k :: .int n :: rest)) := by
  obtain ⟨hx, hb, -, hown, hts, hG⟩ := E
  subst hN
  subst hK
  intro T hT Xs
  obtain ⟨vm₁, cA, comp, -, fA, fC, hO, -, X', step⟩ := Xs.multianewarray2F (ty := .int) hx hown (hts _ hcl) (show (Cond.arrayOver (.array .int)).before args s = true from hG.2.2.2.2.2.2.2.2.2.2.2) (hts _ harr) (g := F0 m pc ls (.int k :: .int n :: rest)) rfl (by rw [hb]; exact hdg) rfl hn hk hb1 hb2 (by omega) rfl rfl hcells hslots
  have hcA : cA = gR g := Option.some.inj (fA.symm.trans (hG.1.2 2 (gR g, .array .int) rfl).2)
  have hcC : comp = gI g := Option.some.inj (fC.symm.trans (hG.1.2 0 (gI g, .int) rfl).2)
  subst hcA
  subst hcC
  generalize hF : Jvm.Free.Multi.fill (T.setVm vm₁) (gR g) (gI g) n.toNatClampNeg k.toNatClampNeg (defaultValue .int) n.toNatClampNeg = F at X' step
  have hTh : (T.setVm vm₁).heap = H := hT
  obtain ⟨f1, f2, -, -⟩ := Jvm.Free.Multi.fill_facts (T.setVm vm₁) (gR g) (gI g) n.toNatClampNeg k.toNatClampNeg (defaultValue .int) n.toNatClampNeg
  rw [hF, hTh] at f1 f2
  have hold : ∀ x : Nat, x < H.size → F.heap[x]? = H[x]? := fun x hx => by
    have := Jvm.Free.Multi.fill_old (T.setVm vm₁) (gR g) (gI g) n.toNatClampNeg k.toNatClampNeg (defaultValue .int) (a := x) (by rw [hTh]; exact hx) n.toNatClampNeg
    rw [hF, hTh] at this
    exact this
  have hrow : ∀ j : Nat, j < n.toNatClampNeg → F.heap[H.size + 1 + j]? = some (Jvm.Free.Multi.innerC (gI g) k.toNatClampNeg (defaultValue .int)) := fun j hj => by
    have := Jvm.Free.Multi.fill_inner (T.setVm vm₁) (gR g) (gI g) n.toNatClampNeg k.toNatClampNeg (defaultValue .int) n.toNatClampNeg j hj
    rw [hF, hTh] at this
    exact this
  have hgB : gB g ≤ H.size := Nat.le_trans hG.2.1 hS.1
  obtain ⟨M1, hM1⟩ : ∃ M1 : hM, M1 = fun x => if x = H.size then some (aR g n.toNatClampNeg (fun i => some (H.size + 1 + i))) else if H.size < x ∧ x < H.size + 1 + n.toNatClampNeg then some (aI g k.toNatClampNeg (fun _ => 0)) else M x := ⟨_, rfl⟩
  have m1 : M1 H.size = some (aR g n.toNatClampNeg (fun i => some (H.size + 1 + i))) := by rw [hM1]; exact if_pos rfl
  have m2 : ∀ x, x ≠ H.size → (H.size < x ∧ x < H.size + 1 + n.toNatClampNeg) → M1 x = some (aI g k.toNatClampNeg (fun _ => 0)) := fun x h1 h2 => by rw [hM1]; exact (if_neg h1).trans (if_pos h2)
  have m3 : ∀ x, x ≠ H.size → ¬ (H.size < x ∧ x < H.size + 1 + n.toNatClampNeg) → M1 x = M x := fun x h1 h2 => by rw [hM1]; exact (if_neg h1).trans (if_neg h2)
  have hpm : hp g M1 F.heap := fun b eb hb => by
    by_cases hb1 : b = H.size
    · rw [hb1, m1] at hb
      cases hb
      rw [hb1]
      refine ⟨hgB, ?_⟩
      show F.heap[H.size]? = some (vp_cell _ _)
      rw [f2, outer_arr, vp_cell_q]
      exact congrArg some (arrV_ext (fun j hj => if_pos hj))
    · by_cases hb2 : H.size < b ∧ b < H.size + 1 + n.toNatClampNeg
      · rw [m2 b hb1 hb2] at hb
        cases hb
        refine ⟨by omega, ?_⟩
        show F.heap[b]? = some (vp_cell _ _)
        have := hrow (b - H.size - 1) (by omega)
        rw [show H.size + 1 + (b - H.size - 1) = b by omega] at this
        rw [this, vp_cell_i, ← arrV_new]
        rfl
      · rw [m3 b hb1 hb2] at hb
        have := (hm _ _ hb).2.lt
        exact ⟨(hm _ _ hb).1, (hm _ _ hb).2.kept (hold _ this)⟩
  obtain ⟨t, a1, b1⟩ := kk H.size M1 F.heap (hp_out hm (Nat.le_refl _)) (fun i _ => hp_out hm (by omega)) m1 (fun i hi => m2 _ (by omega) (by omega)) (fun x h1 h2 => m3 x h1 (fun h3 => h2 (x - H.size - 1) (by omega) (by omega))) hpm ⟨by rw [f1]; have := hS.1; omega, fun x h1 h2 => (hold x (Nat.lt_of_lt_of_le h1 hS.1)).trans (hS.2.1 x h1 h2), hS.2.2⟩ F rfl X'
  refine ⟨t, step t ?_, b1⟩
  have e : T.heap.size = H.size := by rw [hT]
  rw [e]
  exact a1
end HC
theorem un {M M2 : hM} {a b : Nat} {e : va_E} (h : M2 = hm_up M b e) (h2 : M2 a = none) : M a = none := by
  rw [h] at h2
  by_cases t : a = b
  · rw [t, up_eq] at h2; cases h2
  · rw [up_ne t] at h2; exact h2
set_option maxHeartbeats 4000000 in
set_option maxRecDepth 100000 in
theorem c_X0_init (l : Launch) (g : hG) (M : hM) (q : Nat) (e_q : M q = some (.inr (0, [.null, .null, .null, .null]))) : Cv l g yX0_init cX0_init 1 1 4 112 [.ref q] M (fun M9 => ∃ nm ms sc sa, HS g M9 q nm ms sc sa (fun _ => 0) (fun _ => 0) (fun _ => 0) ∧ M nm = none ∧ M ms = none ∧ M sc = none ∧ M sa = none ∧ ∀ x, x ≠ q → x ≠ nm → x ≠ ms → x ≠ sc → x ≠ sa → M9 x = M x) := by
  refine hp_startV (by decide) (by exact Nat.le_of_ble_eq_true rfl) ?_
  intro p e s m below meth c Q H locs ls EE hnm ret hm hS hl
  have hx := EE.1
  have hb := EE.2.1
  have hown := EE.2.2.2.1
  have hts := EE.2.2.2.2.1
  have hl : lv_has ls 1 [(0, .ref q)] := hl
  refine lv_aload_n hx hb dX0_init_0 rfl (lv_at hl 0 rfl) ?_
  refine hp_obj EE wl_X0_3 wi_objectInit wcode_objectInit hl.1 dX0_init_1 (Nat.le_of_ble_eq_true rfl) (Nat.le_of_ble_eq_true rfl) ?_
  refine lv_aload_n hx hb dX0_init_4 rfl (lv_at hl 0 rfl) ?_
  refine lv_bipush (v := 8) hx hb dX0_init_5 (by decide) ?_
  refine hp_newa (N' := 8) EE hm hS warr (by decide) (by decide) (by decide) (Nat.le_of_ble_eq_true rfl) (Nat.le_of_ble_eq_true rfl) dX0_init_7 (fun q1 H hq1 hm hS => ?_)
  obtain ⟨Mx2, hMx2⟩ : ∃ Mz, Mz = hm_up M q1 (aI g 8 (fun _ => 0)) := ⟨_, rfl⟩
  have hm : hp g Mx2 H := by rw [hMx2]; exact hm
  have e_q : Mx2 q = some (.inr (0, [.null, .null, .null, .null])) := by rw [hMx2]; exact up_at (ne_new hq1 e_q) e_q
  have e_q1 : Mx2 q1 = some (aI g 8 (fun _ => 0)) := by rw [hMx2]; exact up_eq
  refine hp_putF (C := RX0) (T := TX0) (N := 4) (v := .ref q1) (ty := .array .int) EE hm hS e_q inh0 tyX0 tyX0_ok nmX0 rfl 0 (by decide) wf_X0_9 rfl hnm rfl (by decide +kernel) rfl rfl (Nat.le_of_ble_eq_true rfl) dX0_init_9 (fun H locs hm hS => ?_)
  obtain ⟨Mx3, hMx3⟩ : ∃ Mz, Mz = hm_up Mx2 q (.inr (0, [.ref q1, .null, .null, .null])) := ⟨_, rfl⟩
  have hm : hp g Mx3 H := by rw [hMx3]; exact hm
  have e_q1 : Mx3 q1 = some (aI g 8 (fun _ => 0)) := by rw [hMx3]; exact up_at (ne_lk e_q1 e_q (by simp)) e_q1
  have e_q : Mx3 q = some (.inr (0, [.ref q1, .null, .null, .null])) := by rw [hMx3]; exact up_eq
  refine lv_aload_n hx hb dX0_init_12 rfl (lv_at hl 0 rfl) ?_
  refine lv_bipush (v := 32) hx hb dX0_init_13 (by decide) ?_
  have ev15_q1 := e_q1
  refine hp_newa (N' := 32) EE hm hS warr (by decide) (by decide) (by decide) (Nat.le_of_ble_eq_true rfl) (Nat.le_of_ble_eq_true rfl) dX0_init_15 (fun q4 H hq4 hm hS => ?_)
  obtain ⟨Mx5, hMx5⟩ : ∃ Mz, Mz = hm_up Mx3 q4 (aI g 32 (fun _ => 0)) := ⟨_, rfl⟩
  have hm : hp g Mx5 H := by rw [hMx5]; exact hm
  have e_q : Mx5 q = some (.inr (0, [.ref q1, .null, .null, .null])) := by rw [hMx5]; exact up_at (ne_new hq4 e_q) e_q
  have e_q1 : Mx5 q1 = some (aI g 8 (fun _ => 0)) := by rw [hMx5]; exact up_at (ne_new hq4 e_q1) e_q1
  have e_q4 : Mx5 q4 = some (aI g 32 (fun _ => 0)) := by rw [hMx5]; exact up_eq
  have n0_q1_q4 : q1 ≠ q4 := ne_new hq4 ev15_q1
  have n_q1_q4 := n0_q1_q4
  refine hp_putF (C := RX0) (T := TX0) (N := 4) (v := .ref q4) (ty := .array .int) EE hm hS e_q inh0 tyX0 tyX0_ok nmX0 rfl 1 (by decide) wf_X0_15 rfl hnm rfl (by decide +kernel) rfl rfl (Nat.le_of_ble_eq_true rfl) dX0_init_17 (fun H locs hm hS => ?_)
  obtain ⟨Mx6, hMx6⟩ : ∃ Mz, Mz = hm_up Mx5 q (.inr (0, [.ref q1, .ref q4, .null, .null])) := ⟨_, rfl⟩
  have hm : hp g Mx6 H := by rw [hMx6]; exact hm
  have e_q1 : Mx6 q1 = some (aI g 8 (fun _ => 0)) := by rw [hMx6]; exact up_at (ne_lk e_q1 e_q (by simp)) e_q1
  have e_q4 : Mx6 q4 = some (aI g 32 (fun _ => 0)) := by rw [hMx6]; exact up_at (ne_lk e_q4 e_q (by simp)) e_q4
  have e_q : Mx6 q = some (.inr (0, [.ref q1, .ref q4, .null, .null])) := by rw [hMx6]; exact up_eq
  refine lv_aload_n hx hb dX0_init_20 rfl (lv_at hl 0 rfl) ?_
  refine lv_bipush (v := 64) hx hb dX0_init_21 (by decide) ?_
  have ev23_q1 := e_q1
  have ev23_q4 := e_q4
  refine hp_newa (N' := 64) EE hm hS warr (by decide) (by decide) (by decide) (Nat.le_of_ble_eq_true rfl) (Nat.le_of_ble_eq_true rfl) dX0_init_23 (fun q7 H hq7 hm hS => ?_)
  obtain ⟨Mx8, hMx8⟩ : ∃ Mz, Mz = hm_up Mx6 q7 (aI g 64 (fun _ => 0)) := ⟨_, rfl⟩
  have hm : hp g Mx8 H := by rw [hMx8]; exact hm
  have e_q : Mx8 q = some (.inr (0, [.ref q1, .ref q4, .null, .null])) := by rw [hMx8]; exact up_at (ne_new hq7 e_q) e_q
  have e_q1 : Mx8 q1 = some (aI g 8 (fun _ => 0)) := by rw [hMx8]; exact up_at (ne_new hq7 e_q1) e_q1
  have e_q4 : Mx8 q4 = some (aI g 32 (fun _ => 0)) := by rw [hMx8]; exact up_at (ne_new hq7 e_q4) e_q4
  have e_q7 : Mx8 q7 = some (aI g 64 (fun _ => 0)) := by rw [hMx8]; exact up_eq
  have n0_q1_q7 : q1 ≠ q7 := ne_new hq7 ev23_q1
  have n0_q4_q7 : q4 ≠ q7 := ne_new hq7 ev23_q4
  have n_q1_q7 := n0_q1_q7
  have n_q4_q7 := n0_q4_q7
  refine hp_putF (C := RX0) (T := TX0) (N := 4) (v := .ref q7) (ty := .array .int) EE hm hS e_q inh0 tyX0 tyX0_ok nmX0 rfl 2 (by decide) wf_X0_18 rfl hnm rfl (by decide +kernel) rfl rfl (Nat.le_of_ble_eq_true rfl) dX0_init_25 (fun H locs hm hS => ?_)
  obtain ⟨Mx9, hMx9⟩ : ∃ Mz, Mz = hm_up Mx8 q (.inr (0, [.ref q1, .ref q4, .ref q7, .null])) := ⟨_, rfl⟩
  have hm : hp g Mx9 H := by rw [hMx9]; exact hm
  have e_q1 : Mx9 q1 = some (aI g 8 (fun _ => 0)) := by rw [hMx9]; exact up_at (ne_lk e_q1 e_q (by simp)) e_q1
  have e_q4 : Mx9 q4 = some (aI g 32 (fun _ => 0)) := by rw [hMx9]; exact up_at (ne_lk e_q4 e_q (by simp)) e_q4
  have e_q7 : Mx9 q7 = some (aI g 64 (fun _ => 0)) := by rw [hMx9]; exact up_at (ne_lk e_q7 e_q (by simp)) e_q7
  have e_q : Mx9 q = some (.inr (0, [.ref q1, .ref q4, .ref q7, .null])) := by rw [hMx9]; exact up_eq
  refine lv_aload_n hx hb dX0_init_28 rfl (lv_at hl 0 rfl) ?_
  refine lv_bipush (v := 8) hx hb dX0_init_29 (by decide) ?_
  have ev31_q1 := e_q1
  have ev31_q4 := e_q4
  have ev31_q7 := e_q7
  refine hp_newa (N' := 8) EE hm hS warr (by decide) (by decide) (by decide) (Nat.le_of_ble_eq_true rfl) (Nat.le_of_ble_eq_true rfl) dX0_init_31 (fun q10 H hq10 hm hS => ?_)
  obtain ⟨Mx11, hMx11⟩ : ∃ Mz, Mz = hm_up Mx9 q10 (aI g 8 (fun _ => 0)) := ⟨_, rfl⟩
  have hm : hp g Mx11 H := by rw [hMx11]; exact hm
  have e_q : Mx11 q = some (.inr (0, [.ref q1, .ref q4, .ref q7, .null])) := by rw [hMx11]; exact up_at (ne_new hq10 e_q) e_q
  have e_q1 : Mx11 q1 = some (aI g 8 (fun _ => 0)) := by rw [hMx11]; exact up_at (ne_new hq10 e_q1) e_q1
  have e_q4 : Mx11 q4 = some (aI g 32 (fun _ => 0)) := by rw [hMx11]; exact up_at (ne_new hq10 e_q4) e_q4
  have e_q7 : Mx11 q7 = some (aI g 64 (fun _ => 0)) := by rw [hMx11]; exact up_at (ne_new hq10 e_q7) e_q7
  have e_q10 : Mx11 q10 = some (aI g 8 (fun _ => 0)) := by rw [hMx11]; exact up_eq
  have n0_q1_q10 : q1 ≠ q10 := ne_new hq10 ev31_q1
  have n0_q4_q10 : q4 ≠ q10 := ne_new hq10 ev31_q4
  have n0_q7_q10 : q7 ≠ q10 := ne_new hq10 ev31_q7
  have n_q1_q10 := n0_q1_q10
  have n_q4_q10 := n0_q4_q10
  have n_q7_q10 := n0_q7_q10
  refine hp_putF (C := RX0) (T := TX0) (N := 4) (v := .ref q10) (ty := .array .int) EE hm hS e_q inh0 tyX0 tyX0_ok nmX0 rfl 3 (by decide) wf_X0_21 rfl hnm rfl (by decide +kernel) rfl rfl (Nat.le_of_ble_eq_true rfl) dX0_init_33 (fun H locs hm hS => ?_)
  obtain ⟨Mx12, hMx12⟩ : ∃ Mz, Mz = hm_up Mx11 q (.inr (0, [.ref q1, .ref q4, .ref q7, .ref q10])) := ⟨_, rfl⟩
  have hm : hp g Mx12 H := by rw [hMx12]; exact hm
  have e_q1 : Mx12 q1 = some (aI g 8 (fun _ => 0)) := by rw [hMx12]; exact up_at (ne_lk e_q1 e_q (by simp)) e_q1
  have e_q4 : Mx12 q4 = some (aI g 32 (fun _ => 0)) := by rw [hMx12]; exact up_at (ne_lk e_q4 e_q (by simp)) e_q4
  have e_q7 : Mx12 q7 = some (aI g 64 (fun _ => 0)) := by rw [hMx12]; exact up_at (ne_lk e_q7 e_q (by simp)) e_q7
  have e_q10 : Mx12 q10 = some (aI g 8 (fun _ => 0)) := by rw [hMx12]; exact up_at (ne_lk e_q10 e_q (by simp)) e_q10
  have e_q : Mx12 q = some (.inr (0, [.ref q1, .ref q4, .ref q7, .ref q10])) := by rw [hMx12]; exact up_eq
  exact ret dX0_init_36 hm hS (Nat.le_of_ble_eq_true rfl) (Nat.le_of_ble_eq_true rfl) (⟨q1, q4, q7, q10, ⟨e_q, e_q4, e_q7, e_q10, ⟨_, e_q1, fun _ _ => rfl⟩, n_q4_q7, n_q4_q10, n_q7_q10, n_q1_q4, n_q1_q7, n_q1_q10⟩, hq1, (un hMx2 (un hMx3 hq4)), (un hMx2 (un hMx3 (un hMx5 (un hMx6 hq7)))), (un hMx2 (un hMx3 (un hMx5 (un hMx6 (un hMx8 (un hMx9 hq10)))))), fun x h0 h1 h2 h3 h4 => by rw [hMx12, up_ne h0, hMx11, up_ne h4, hMx9, up_ne h0, hMx8, up_ne h3, hMx6, up_ne h0, hMx5, up_ne h2, hMx3, up_ne h0, hMx2, up_ne h1]⟩)
set_option maxHeartbeats 4000000 in
set_option maxRecDepth 100000 in
theorem c_X2_init (l : Launch) (g : hG) (M : hM) (q : Nat) (e_q : M q = some (.inr (2, [.null, .int 0, .int 0, .int 0, .int 0]))) : Cv l g yX2_init cX2_init 1 1 17 144 [.ref q] M (fun M9 => ∃ bs, M9 q = some (.inr (2, [.ref bs, .int 0, .int 0, .int 0, .int 0])) ∧ M9 bs = some (aR g 16 (fun i => some (bs + 1 + i))) ∧ (∀ i, i < 16 → M9 (bs + 1 + i) = some (aI g 8 (fun _ => 0))) ∧ M bs = none ∧ (∀ i, i < 16 → M (bs + 1 + i) = none) ∧ ∀ x, x ≠ q → x ≠ bs → (∀ i, i < 16 → x ≠ bs + 1 + i) → M9 x = M x) := by
  refine hp_startV (by decide) (by exact Nat.le_of_ble_eq_true rfl) ?_
  intro p e s m below meth c Q H locs ls EE hnm ret hm hS hl
  have hx := EE.1
  have hb := EE.2.1
  have hown := EE.2.2.2.1
  have hts := EE.2.2.2.2.1
  have hl : lv_has ls 1 [(0, .ref q)] := hl
  refine lv_aload_n hx hb dX2_init_0 rfl (lv_at hl 0 rfl) ?_
  refine hp_obj EE wl_X2_3 wi_objectInit wcode_objectInit hl.1 dX2_init_1 (Nat.le_of_ble_eq_true rfl) (Nat.le_of_ble_eq_true rfl) ?_
  refine lv_aload_n hx hb dX2_init_4 rfl (lv_at hl 0 rfl) ?_
  refine lv_bipush (v := 16) hx hb dX2_init_5 (by decide) ?_
  refine lv_bipush (v := 8) hx hb dX2_init_7 (by decide) ?_
  refine hp_mna (N' := 16) (K' := 8) EE hm hS wc_X2_9 warr (by decide) (by decide) (by decide) (by decide) (by decide) (by decide) (Nat.le_of_ble_eq_true rfl) (Nat.le_of_ble_eq_true rfl) dX2_init_9 (fun bs Mb H hb0 hbr0 e_bs hbr hbo hm hS => ?_)
  have nqi : ∀ i, i < 16 → bs + 1 + i ≠ q := fun i hi => Ne.symm (ne_new (hbr0 i hi) e_q)
  have e_q : Mb q = some (.inr (2, [.null, .int 0, .int 0, .int 0, .int 0])) := (hbo q (ne_new hb0 e_q) (fun i hi => Ne.symm (nqi i hi))).trans e_q
  refine hp_putF (C := RX2) (T := TX2) (N := 5) (v := .ref bs) (ty := .array (.array .int)) EE hm hS e_q inh2 tyX2 tyX2_ok nmX2 rfl 0 (by decide) wf_X2_11 rfl hnm rfl (by decide +kernel) rfl rfl (Nat.le_of_ble_eq_true rfl) dX2_init_13 (fun H locs hm hS => ?_)
  obtain ⟨Mx1, hMx1⟩ : ∃ Mz, Mz = hm_up Mb q (.inr (2, [.ref bs, .int 0, .int 0, .int 0, .int 0])) := ⟨_, rfl⟩
  have hm : hp g Mx1 H := by rw [hMx1]; exact hm
  have e_bs : Mx1 bs = some (aR g 16 (fun i => some (bs + 1 + i))) := by rw [hMx1]; exact up_at (ne_lk e_bs e_q (by simp)) e_bs
  have e_q : Mx1 q = some (.inr (2, [.ref bs, .int 0, .int 0, .int 0, .int 0])) := by rw [hMx1]; exact up_eq
  refine lv_aload_n hx hb dX2_init_16 rfl (lv_at hl 0 rfl) ?_
  refine lv_iconst (v := 0) hx hb dX2_init_17 (by decide) ?_
  refine hp_put (C := RX2) (T := TX2) (N := 5) (v := .int 0) (ty := .int) EE hm hS e_q inh2 tyX2 tyX2_ok nmX2 rfl 1 (by decide) wf_X2_16 rfl (by decide +kernel) rfl rfl (Nat.le_of_ble_eq_true rfl) dX2_init_18 (fun H locs hm hS => ?_)
  obtain ⟨Mx2, hMx2⟩ : ∃ Mz, Mz = hm_up Mx1 q (.inr (2, [.ref bs, .int 0, .int 0, .int 0, .int 0])) := ⟨_, rfl⟩
  have hm : hp g Mx2 H := by rw [hMx2]; exact hm
  have e_bs : Mx2 bs = some (aR g 16 (fun i => some (bs + 1 + i))) := by rw [hMx2]; exact up_at (ne_lk e_bs e_q (by simp)) e_bs
  have e_q : Mx2 q = some (.inr (2, [.ref bs, .int 0, .int 0, .int 0, .int 0])) := by rw [hMx2]; exact up_eq
  refine lv_aload_n hx hb dX2_init_21 rfl (lv_at hl 0 rfl) ?_
  refine lv_iconst (v := 0) hx hb dX2_init_22 (by decide) ?_
  refine hp_put (C := RX2) (T := TX2) (N := 5) (v := .int 0) (ty := .boolean) EE hm hS e_q inh2 tyX2 tyX2_ok nmX2 rfl 2 (by decide) wf_X2_20 rfl (by decide +kernel) (by decide) (by decide) (Nat.le_of_ble_eq_true rfl) dX2_init_23 (fun H locs hm hS => ?_)
  obtain ⟨Mx3, hMx3⟩ : ∃ Mz, Mz = hm_up Mx2 q (.inr (2, [.ref bs, .int 0, .int 0, .int 0, .int 0])) := ⟨_, rfl⟩
  have hm : hp g Mx3 H := by rw [hMx3]; exact hm
  have e_bs : Mx3 bs = some (aR g 16 (fun i => some (bs + 1 + i))) := by rw [hMx3]; exact up_at (ne_lk e_bs e_q (by simp)) e_bs
  have e_q : Mx3 q = some (.inr (2, [.ref bs, .int 0, .int 0, .int 0, .int 0])) := by rw [hMx3]; exact up_eq
  refine lv_aload_n hx hb dX2_init_26 rfl (lv_at hl 0 rfl) ?_
  refine lv_iconst (v := 0) hx hb dX2_init_27 (by decide) ?_
  refine hp_put (C := RX2) (T := TX2) (N := 5) (v := .int 0) (ty := .int) EE hm hS e_q inh2 tyX2 tyX2_ok nmX2 rfl 3 (by decide) wf_X2_24 rfl (by decide +kernel) rfl rfl (Nat.le_of_ble_eq_true rfl) dX2_init_28 (fun H locs hm hS => ?_)
  obtain ⟨Mx4, hMx4⟩ : ∃ Mz, Mz = hm_up Mx3 q (.inr (2, [.ref bs, .int 0, .int 0, .int 0, .int 0])) := ⟨_, rfl⟩
  have hm : hp g Mx4 H := by rw [hMx4]; exact hm
  have e_bs : Mx4 bs = some (aR g 16 (fun i => some (bs + 1 + i))) := by rw [hMx4]; exact up_at (ne_lk e_bs e_q (by simp)) e_bs
  have e_q : Mx4 q = some (.inr (2, [.ref bs, .int 0, .int 0, .int 0, .int 0])) := by rw [hMx4]; exact up_eq
  refine lv_aload_n hx hb dX2_init_31 rfl (lv_at hl 0 rfl) ?_
  refine lv_iconst (v := 0) hx hb dX2_init_32 (by decide) ?_
  refine hp_put (C := RX2) (T := TX2) (N := 5) (v := .int 0) (ty := .int) EE hm hS e_q inh2 tyX2 tyX2_ok nmX2 rfl 4 (by decide) wf_X2_27 rfl (by decide +kernel) rfl rfl (Nat.le_of_ble_eq_true rfl) dX2_init_33 (fun H locs hm hS => ?_)
  obtain ⟨Mx5, hMx5⟩ : ∃ Mz, Mz = hm_up Mx4 q (.inr (2, [.ref bs, .int 0, .int 0, .int 0, .int 0])) := ⟨_, rfl⟩
  have hm : hp g Mx5 H := by rw [hMx5]; exact hm
  have e_bs : Mx5 bs = some (aR g 16 (fun i => some (bs + 1 + i))) := by rw [hMx5]; exact up_at (ne_lk e_bs e_q (by simp)) e_bs
  have e_q : Mx5 q = some (.inr (2, [.ref bs, .int 0, .int 0, .int 0, .int 0])) := by rw [hMx5]; exact up_eq
  exact ret dX2_init_36 hm hS (Nat.le_of_ble_eq_true rfl) (by omega) (⟨bs, e_q, e_bs, fun i hi => by rw [hMx5, up_ne (nqi i hi), hMx4, up_ne (nqi i hi), hMx3, up_ne (nqi i hi), hMx2, up_ne (nqi i hi), hMx1, up_ne (nqi i hi)]; exact hbr i hi, hb0, hbr0, fun x h0 h1 h2 => by rw [hMx5, up_ne h0, hMx4, up_ne h0, hMx3, up_ne h0, hMx2, up_ne h0, hMx1, up_ne h0]; exact hbo x h1 h2⟩)
