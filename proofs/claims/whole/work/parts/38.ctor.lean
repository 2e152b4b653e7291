/-- the state of a new object -/
def σ0 : cSt := ([], 0, fun _ => [], 0, false, 0, 0, fun _ _ => 0)
theorem gE_0 : gE [] := ⟨List.Pairwise.nil, Nat.zero_le _, fun x hx => by cases hx⟩
theorem sOK_0 : sOK σ0 := ⟨Nat.zero_le _, fun j hj => absurd hj (Nat.not_lt_zero j), gE_0, Nat.zero_le _, (fun h => by cases h), fun _ => ⟨rfl, rfl⟩⟩
theorem WF_0 {g : hG} {M : hM} : WF g M (fun _ => none) (fun _ => none) := ⟨(fun a n E h => by cases h), fun b n E h => by cases h⟩
set_option maxHeartbeats 4000000 in
set_option maxRecDepth 100000 in
theorem c_X3_init (l : Launch) (g : hG) (M : hM) (x : Nat) (e_x : M x = some (.inr (3, [.null, .int 0, .null, .null, .null, .null]))) : Cv l g yX3_init cX3_init 1 2 25 333 [.ref x] M (fun M9 => ∃ kp pf bs h nm ms sc sa fo br fm fs fa ff rv, CX g M9 (fun _ => none) (fun _ => none) x kp pf bs h nm ms sc sa fo br (fun _ => none) none fm fs fa ff rv σ0 ∧ ∀ q, und M9 q = true → und M q = true) := by
  refine hp_startV (by decide) (by exact Nat.le_of_ble_eq_true rfl) ?_
  intro p e s m below meth c Q H locs ls EE hnm ret hm hS hl
  have hx := EE.1
  have hb := EE.2.1
  have hown := EE.2.2.2.1
  have hts := EE.2.2.2.2.1
  have hl : lv_has ls 1 [(0, .ref x)] := hl
  refine lv_aload_n hx hb dX3_init_0 rfl (lv_at hl 0 rfl) ?_
  refine hp_obj EE wl_X3_1 wi_objectInit wcode_objectInit hl.1 dX3_init_1 (Nat.le_of_ble_eq_true rfl) (Nat.le_of_ble_eq_true rfl) ?_
  refine lv_aload_n hx hb dX3_init_4 rfl (lv_at hl 0 rfl) ?_
  refine lv_bipush (v := 60) hx hb dX3_init_5 (by decide) ?_
  refine hp_anw (N' := 60) EE hm hS wc_X3_9 (by decide) (by decide) (by decide) (Nat.le_of_ble_eq_true rfl) (Nat.le_of_ble_eq_true rfl) dX3_init_7 (fun kp H hkp hm hS => ?_)
  obtain ⟨Mx1, hMx1⟩ : ∃ Mz, Mz = hm_up M kp (aN g 60 (fun _ => none)) := ⟨_, rfl⟩
  have hm : hp g Mx1 H := by rw [hMx1]; exact hm
  have e_x : Mx1 x = some (.inr (3, [.null, .int 0, .null, .null, .null, .null])) := by rw [hMx1]; exact up_at (ne_new hkp e_x) e_x
  have e_kp : Mx1 kp = some (aN g 60 (fun _ => none)) := by rw [hMx1]; exact up_eq
  refine hp_putF (C := RX3) (T := TX3) (N := 6) (v := .ref kp) (ty := .array (.object "ProofMap$Node")) EE hm hS e_x inh3 tyX3 tyX3_ok nmX3 rfl 0 (by decide) wf_X3_11 rfl hnm rfl (by decide +kernel) rfl rfl (Nat.le_of_ble_eq_true rfl) dX3_init_10 (fun H locs hm hS => ?_)
  obtain ⟨Mx2, hMx2⟩ : ∃ Mz, Mz = hm_up Mx1 x (.inr (3, [.ref kp, .int 0, .null, .null, .null, .null])) := ⟨_, rfl⟩
  have hm : hp g Mx2 H := by rw [hMx2]; exact hm
  have e_kp : Mx2 kp = some (aN g 60 (fun _ => none)) := by rw [hMx2]; exact up_at (ne_lk e_kp e_x (by simp)) e_kp
  have e_x : Mx2 x = some (.inr (3, [.ref kp, .int 0, .null, .null, .null, .null])) := by rw [hMx2]; exact up_eq
  refine lv_aload_n hx hb dX3_init_13 rfl (lv_at hl 0 rfl) ?_
  refine lv_iconst (v := 0) hx hb dX3_init_14 (by decide) ?_
  refine hp_put (C := RX3) (T := TX3) (N := 6) (v := .int 0) (ty := .int) EE hm hS e_x inh3 tyX3 tyX3_ok nmX3 rfl 1 (by decide) wf_X3_15 rfl (by decide +kernel) rfl rfl (Nat.le_of_ble_eq_true rfl) dX3_init_15 (fun H locs hm hS => ?_)
  obtain ⟨Mx3, hMx3⟩ : ∃ Mz, Mz = hm_up Mx2 x (.inr (3, [.ref kp, .int 0, .null, .null, .null, .null])) := ⟨_, rfl⟩
  have hm : hp g Mx3 H := by rw [hMx3]; exact hm
  have e_kp : Mx3 kp = some (aN g 60 (fun _ => none)) := by rw [hMx3]; exact up_at (ne_lk e_kp e_x (by simp)) e_kp
  have e_x : Mx3 x = some (.inr (3, [.ref kp, .int 0, .null, .null, .null, .null])) := by rw [hMx3]; exact up_eq
  refine lv_aload_n hx hb dX3_init_18 rfl (lv_at hl 0 rfl) ?_
  refine lv_null hx hb dX3_init_19 ?_
  refine hp_put (C := RX3) (T := TX3) (N := 6) (v := .null) (ty := .object "ProofMap$Node") EE hm hS e_x inh3 tyX3 tyX3_ok nmX3 rfl 2 (by decide) wf_X3_19 rfl (by decide +kernel) rfl rfl (Nat.le_of_ble_eq_true rfl) dX3_init_20 (fun H locs hm hS => ?_)
  obtain ⟨Mx4, hMx4⟩ : ∃ Mz, Mz = hm_up Mx3 x (.inr (3, [.ref kp, .int 0, .null, .null, .null, .null])) := ⟨_, rfl⟩
  have hm : hp g Mx4 H := by rw [hMx4]; exact hm
  have e_kp : Mx4 kp = some (aN g 60 (fun _ => none)) := by rw [hMx4]; exact up_at (ne_lk e_kp e_x (by simp)) e_kp
  have e_x : Mx4 x = some (.inr (3, [.ref kp, .int 0, .null, .null, .null, .null])) := by rw [hMx4]; exact up_eq
  refine lv_aload_n hx hb dX3_init_23 rfl (lv_at hl 0 rfl) ?_
  refine hp_new (C := RX2) (T := TX2) (N := 5) (ci := 2) (fs := [.null, .int 0, .int 0, .int 0, .int 0]) EE hm hS inh2 tyX2 tyX2_ok rfl wc_X3_23 wa_X2 wn_X2 (by decide +kernel) (Nat.le_of_ble_eq_true rfl) (Nat.le_of_ble_eq_true rfl) dX3_init_24 (fun q5 H hq5 hm hS => ?_)
  obtain ⟨Mx6, hMx6⟩ : ∃ Mz, Mz = hm_up Mx4 q5 (.inr (2, [.null, .int 0, .int 0, .int 0, .int 0])) := ⟨_, rfl⟩
  have hm : hp g Mx6 H := by rw [hMx6]; exact hm
  have e_x : Mx6 x = some (.inr (3, [.ref kp, .int 0, .null, .null, .null, .null])) := by rw [hMx6]; exact up_at (ne_new hq5 e_x) e_x
  have e_kp : Mx6 kp = some (aN g 60 (fun _ => none)) := by rw [hMx6]; exact up_at (ne_new hq5 e_kp) e_kp
  have e_q5 : Mx6 q5 = some (.inr (2, [.null, .int 0, .int 0, .int 0, .int 0])) := by rw [hMx6]; exact up_eq
  refine lv_dup hx hb dX3_init_27 rfl ?_
  refine hp_cv (hp_runI (np := 0) (k := 1) (mc := 17) (ms := 144) (As := ([] : List Value)) (rest := [.ref q5, .ref x]) EE hm hS (c_X2_init l g Mx6 q5 e_q5) ms_X2_init wi_X2_init rfl wl_X3_25 rfl hl.1 rfl (Nat.le_of_ble_eq_true rfl) dX3_init_28 ⟨Nat.le_of_ble_eq_true rfl, Nat.le_of_ble_eq_true rfl⟩ ⟨(Nat.le_of_ble_eq_true rfl), (Nat.le_of_ble_eq_true rfl)⟩) hS (fun Mx7 H locs hq8 hm hS => ?_)
  obtain ⟨bs, e_pf_, e_bs_, hbr, hbs0, hbr0, hfp⟩ := hq8
  have nxb : ∀ i, i < 16 → bs + 1 + i ≠ x := fun i hi => Ne.symm (ne_new (hbr0 i hi) e_x)
  have e_x_ : Mx7 x = some (.inr (3, [.ref kp, .int 0, .null, .null, .null, .null])) := (hfp x (ne_lk e_x e_q5 (by simp)) (ne_new hbs0 e_x) (fun i hi => ne_new (hbr0 i hi) e_x)).trans e_x
  have e_kp_ : Mx7 kp = some (aN g 60 (fun _ => none)) := (hfp kp (ne_lk e_kp e_q5 (by simp)) (ne_new hbs0 e_kp) (fun i hi => ne_new (hbr0 i hi) e_kp)).trans e_kp
  have e_x := e_x_
  have e_kp := e_kp_
  have e_q5 := e_pf_
  have e_bs := e_bs_
  have n_kb : kp ≠ bs := fun t => absurd (Prod.mk.inj (Prod.mk.inj (Sum.inl.inj (Option.some.inj (e_kp.symm.trans ((congrArg Mx7 t).trans e_bs))))).2).1 (by decide)
  refine hp_putF (C := RX3) (T := TX3) (N := 6) (v := .ref q5) (ty := .object "ProofMap$Proof") EE hm hS e_x inh3 tyX3 tyX3_ok nmX3 rfl 3 (by decide) wf_X3_26 rfl hnm rfl (by decide +kernel) rfl rfl (Nat.le_of_ble_eq_true rfl) dX3_init_31 (fun H locs hm hS => ?_)
  obtain ⟨Mx9, hMx9⟩ : ∃ Mz, Mz = hm_up Mx7 x (.inr (3, [.ref kp, .int 0, .null, .ref q5, .null, .null])) := ⟨_, rfl⟩
  have hm : hp g Mx9 H := by rw [hMx9]; exact hm
  have e_kp : Mx9 kp = some (aN g 60 (fun _ => none)) := by rw [hMx9]; exact up_at (ne_lk e_kp e_x (by simp)) e_kp
  have e_q5 : Mx9 q5 = some (.inr (2, [.ref bs, .int 0, .int 0, .int 0, .int 0])) := by rw [hMx9]; exact up_at (ne_lk e_q5 e_x (by simp)) e_q5
  have e_bs : Mx9 bs = some (aR g 16 (fun i => some (bs + 1 + i))) := by rw [hMx9]; exact up_at (ne_lk e_bs e_x (by simp)) e_bs
  have e_x : Mx9 x = some (.inr (3, [.ref kp, .int 0, .null, .ref q5, .null, .null])) := by rw [hMx9]; exact up_eq
  have hbr : ∀ i, i < 16 → Mx9 (bs + 1 + i) = some (aI g 8 (fun _ => 0)) := fun i hi => by rw [hMx9]; exact up_at (nxb i hi) (hbr i hi)
  refine lv_aload_n hx hb dX3_init_34 rfl (lv_at hl 0 rfl) ?_
  refine hp_new (C := RX0) (T := TX0) (N := 4) (ci := 0) (fs := [.null, .null, .null, .null]) EE hm hS inh0 tyX0 tyX0_ok rfl wc_X3_30 wa_X0 wn_X0 (by decide +kernel) (Nat.le_of_ble_eq_true rfl) (Nat.le_of_ble_eq_true rfl) dX3_init_35 (fun q10 H hq10 hm hS => ?_)
  obtain ⟨Mx11, hMx11⟩ : ∃ Mz, Mz = hm_up Mx9 q10 (.inr (0, [.null, .null, .null, .null])) := ⟨_, rfl⟩
  have hm : hp g Mx11 H := by rw [hMx11]; exact hm
  have e_x : Mx11 x = some (.inr (3, [.ref kp, .int 0, .null, .ref q5, .null, .null])) := by rw [hMx11]; exact up_at (ne_new hq10 e_x) e_x
  have e_kp : Mx11 kp = some (aN g 60 (fun _ => none)) := by rw [hMx11]; exact up_at (ne_new hq10 e_kp) e_kp
  have e_q5 : Mx11 q5 = some (.inr (2, [.ref bs, .int 0, .int 0, .int 0, .int 0])) := by rw [hMx11]; exact up_at (ne_new hq10 e_q5) e_q5
  have e_bs : Mx11 bs = some (aR g 16 (fun i => some (bs + 1 + i))) := by rw [hMx11]; exact up_at (ne_new hq10 e_bs) e_bs
  have e_q10 : Mx11 q10 = some (.inr (0, [.null, .null, .null, .null])) := by rw [hMx11]; exact up_eq
  have hbr : ∀ i, i < 16 → Mx11 (bs + 1 + i) = some (aI g 8 (fun _ => 0)) := fun i hi => by rw [hMx11]; exact up_at (ne_new hq10 (hbr i hi)) (hbr i hi)
  refine lv_dup hx hb dX3_init_38 rfl ?_
  refine hp_cv (hp_runI (np := 0) (k := 1) (mc := 4) (ms := 112) (As := ([] : List Value)) (rest := [.ref q10, .ref x]) EE hm hS (c_X0_init l g Mx11 q10 e_q10) ms_X0_init wi_X0_init rfl wl_X3_32 rfl hl.1 rfl (Nat.le_of_ble_eq_true rfl) dX3_init_39 ⟨Nat.le_of_ble_eq_true rfl, Nat.le_of_ble_eq_true rfl⟩ ⟨(Nat.le_of_ble_eq_true rfl), (Nat.le_of_ble_eq_true rfl)⟩) hS (fun Mx12 H locs hq13 hm hS => ?_)
  obtain ⟨nm, ms, sc, sa, hHS, hnm0, hms0, hsc0, hsa0, hfh⟩ := hq13
  have e_x_ : Mx12 x = some (.inr (3, [.ref kp, .int 0, .null, .ref q5, .null, .null])) := (hfh x (ne_lk e_x e_q10 (by simp)) (ne_new hnm0 e_x) (ne_new hms0 e_x) (ne_new hsc0 e_x) (ne_new hsa0 e_x)).trans e_x
  have e_kp_ : Mx12 kp = some (aN g 60 (fun _ => none)) := (hfh kp (ne_lk e_kp e_q10 (by simp)) (ne_new hnm0 e_kp) (ne_new hms0 e_kp) (ne_new hsc0 e_kp) (ne_new hsa0 e_kp)).trans e_kp
  have e_q5_ : Mx12 q5 = some (.inr (2, [.ref bs, .int 0, .int 0, .int 0, .int 0])) := (hfh q5 (ne_lk e_q5 e_q10 (by simp)) (ne_new hnm0 e_q5) (ne_new hms0 e_q5) (ne_new hsc0 e_q5) (ne_new hsa0 e_q5)).trans e_q5
  have e_bs_ : Mx12 bs = some (aR g 16 (fun i => some (bs + 1 + i))) := (hfh bs (ne_lk e_bs e_q10 (by simp)) (ne_new hnm0 e_bs) (ne_new hms0 e_bs) (ne_new hsc0 e_bs) (ne_new hsa0 e_bs)).trans e_bs
  have nbn : ∀ i, i < 16 → bs + 1 + i ≠ nm ∧ bs + 1 + i ≠ ms ∧ bs + 1 + i ≠ sc ∧ bs + 1 + i ≠ sa := fun i hi => ⟨ne_new hnm0 (hbr i hi), ne_new hms0 (hbr i hi), ne_new hsc0 (hbr i hi), ne_new hsa0 (hbr i hi)⟩
  have hbr : ∀ i, i < 16 → Mx12 (bs + 1 + i) = some (aI g 8 (fun _ => 0)) := fun i hi => (hfh _ (ne_lk (hbr i hi) e_q10 (by simp)) (nbn i hi).1 (nbn i hi).2.1 (nbn i hi).2.2.1 (nbn i hi).2.2.2).trans (hbr i hi)
  have e_x := e_x_
  have e_kp := e_kp_
  have e_q5 := e_q5_
  have e_bs := e_bs_
  obtain ⟨u1, u2, u3, u4, ⟨fn, u5, u6⟩, u7⟩ := hHS
  refine hp_putF (C := RX3) (T := TX3) (N := 6) (v := .ref q10) (ty := .object "ProofMap$Hasher") EE hm hS e_x inh3 tyX3 tyX3_ok nmX3 rfl 4 (by decide) wf_X3_33 rfl hnm rfl (by decide +kernel) rfl rfl (Nat.le_of_ble_eq_true rfl) dX3_init_42 (fun H locs hm hS => ?_)
  obtain ⟨Mx14, hMx14⟩ : ∃ Mz, Mz = hm_up Mx12 x (.inr (3, [.ref kp, .int 0, .null, .ref q5, .ref q10, .null])) := ⟨_, rfl⟩
  have hm : hp g Mx14 H := by rw [hMx14]; exact hm
  have e_kp : Mx14 kp = some (aN g 60 (fun _ => none)) := by rw [hMx14]; exact up_at (ne_lk e_kp e_x (by simp)) e_kp
  have e_q5 : Mx14 q5 = some (.inr (2, [.ref bs, .int 0, .int 0, .int 0, .int 0])) := by rw [hMx14]; exact up_at (ne_lk e_q5 e_x (by simp)) e_q5
  have e_bs : Mx14 bs = some (aR g 16 (fun i => some (bs + 1 + i))) := by rw [hMx14]; exact up_at (ne_lk e_bs e_x (by simp)) e_bs
  have u1 : Mx14 q10 = some (.inr (0, [.ref nm, .ref ms, .ref sc, .ref sa])) := by rw [hMx14]; exact up_at (ne_lk u1 e_x (by simp)) u1
  have u2 : Mx14 ms = some (aI g 32 (fun _ => 0)) := by rw [hMx14]; exact up_at (ne_lk u2 e_x (by simp)) u2
  have u3 : Mx14 sc = some (aI g 64 (fun _ => 0)) := by rw [hMx14]; exact up_at (ne_lk u3 e_x (by simp)) u3
  have u4 : Mx14 sa = some (aI g 8 (fun _ => 0)) := by rw [hMx14]; exact up_at (ne_lk u4 e_x (by simp)) u4
  have u5 : Mx14 nm = some (aI g 8 fn) := by rw [hMx14]; exact up_at (ne_lk u5 e_x (by simp)) u5
  have e_x : Mx14 x = some (.inr (3, [.ref kp, .int 0, .null, .ref q5, .ref q10, .null])) := by rw [hMx14]; exact up_eq
  have hbr : ∀ i, i < 16 → Mx14 (bs + 1 + i) = some (aI g 8 (fun _ => 0)) := fun i hi => by rw [hMx14]; exact up_at (nxb i hi) (hbr i hi)
  refine lv_aload_n hx hb dX3_init_45 rfl (lv_at hl 0 rfl) ?_
  refine lv_bipush (v := 8) hx hb dX3_init_46 (by decide) ?_
  have z_nm := u5
  have z_ms := u2
  have z_sc := u3
  have z_sa := u4
  have z_br := hbr
  refine hp_newa (N' := 8) EE hm hS warr (by decide) (by decide) (by decide) (Nat.le_of_ble_eq_true rfl) (Nat.le_of_ble_eq_true rfl) dX3_init_48 (fun q15 H hq15 hm hS => ?_)
  obtain ⟨Mx16, hMx16⟩ : ∃ Mz, Mz = hm_up Mx14 q15 (aI g 8 (fun _ => 0)) := ⟨_, rfl⟩
  have hm : hp g Mx16 H := by rw [hMx16]; exact hm
  have e_x : Mx16 x = some (.inr (3, [.ref kp, .int 0, .null, .ref q5, .ref q10, .null])) := by rw [hMx16]; exact up_at (ne_new hq15 e_x) e_x
  have e_kp : Mx16 kp = some (aN g 60 (fun _ => none)) := by rw [hMx16]; exact up_at (ne_new hq15 e_kp) e_kp
  have e_q5 : Mx16 q5 = some (.inr (2, [.ref bs, .int 0, .int 0, .int 0, .int 0])) := by rw [hMx16]; exact up_at (ne_new hq15 e_q5) e_q5
  have e_bs : Mx16 bs = some (aR g 16 (fun i => some (bs + 1 + i))) := by rw [hMx16]; exact up_at (ne_new hq15 e_bs) e_bs
  have u1 : Mx16 q10 = some (.inr (0, [.ref nm, .ref ms, .ref sc, .ref sa])) := by rw [hMx16]; exact up_at (ne_new hq15 u1) u1
  have u2 : Mx16 ms = some (aI g 32 (fun _ => 0)) := by rw [hMx16]; exact up_at (ne_new hq15 u2) u2
  have u3 : Mx16 sc = some (aI g 64 (fun _ => 0)) := by rw [hMx16]; exact up_at (ne_new hq15 u3) u3
  have u4 : Mx16 sa = some (aI g 8 (fun _ => 0)) := by rw [hMx16]; exact up_at (ne_new hq15 u4) u4
  have u5 : Mx16 nm = some (aI g 8 fn) := by rw [hMx16]; exact up_at (ne_new hq15 u5) u5
  have e_q15 : Mx16 q15 = some (aI g 8 (fun _ => 0)) := by rw [hMx16]; exact up_eq
  have nf_nm : q15 ≠ nm := Ne.symm (ne_new hq15 z_nm)
  have nf_ms : q15 ≠ ms := Ne.symm (ne_new hq15 z_ms)
  have nf_sc : q15 ≠ sc := Ne.symm (ne_new hq15 z_sc)
  have nf_sa : q15 ≠ sa := Ne.symm (ne_new hq15 z_sa)
  have nbf : ∀ i, i < 16 → bs + 1 + i ≠ q15 := fun i hi => ne_new hq15 (z_br i hi)
  have hbr : ∀ i, i < 16 → Mx16 (bs + 1 + i) = some (aI g 8 (fun _ => 0)) := fun i hi => by rw [hMx16]; exact up_at (ne_new hq15 (hbr i hi)) (hbr i hi)
  refine hp_putF (C := RX3) (T := TX3) (N := 6) (v := .ref q15) (ty := .array .int) EE hm hS e_x inh3 tyX3 tyX3_ok nmX3 rfl 5 (by decide) wf_X3_37 rfl hnm rfl (by decide +kernel) rfl rfl (Nat.le_of_ble_eq_true rfl) dX3_init_50 (fun H locs hm hS => ?_)
  obtain ⟨Mx17, hMx17⟩ : ∃ Mz, Mz = hm_up Mx16 x (.inr (3, [.ref kp, .int 0, .null, .ref q5, .ref q10, .ref q15])) := ⟨_, rfl⟩
  have hm : hp g Mx17 H := by rw [hMx17]; exact hm
  have e_kp : Mx17 kp = some (aN g 60 (fun _ => none)) := by rw [hMx17]; exact up_at (ne_lk e_kp e_x (by simp)) e_kp
  have e_q5 : Mx17 q5 = some (.inr (2, [.ref bs, .int 0, .int 0, .int 0, .int 0])) := by rw [hMx17]; exact up_at (ne_lk e_q5 e_x (by simp)) e_q5
  have e_bs : Mx17 bs = some (aR g 16 (fun i => some (bs + 1 + i))) := by rw [hMx17]; exact up_at (ne_lk e_bs e_x (by simp)) e_bs
  have u1 : Mx17 q10 = some (.inr (0, [.ref nm, .ref ms, .ref sc, .ref sa])) := by rw [hMx17]; exact up_at (ne_lk u1 e_x (by simp)) u1
  have u2 : Mx17 ms = some (aI g 32 (fun _ => 0)) := by rw [hMx17]; exact up_at (ne_lk u2 e_x (by simp)) u2
  have u3 : Mx17 sc = some (aI g 64 (fun _ => 0)) := by rw [hMx17]; exact up_at (ne_lk u3 e_x (by simp)) u3
  have u4 : Mx17 sa = some (aI g 8 (fun _ => 0)) := by rw [hMx17]; exact up_at (ne_lk u4 e_x (by simp)) u4
  have u5 : Mx17 nm = some (aI g 8 fn) := by rw [hMx17]; exact up_at (ne_lk u5 e_x (by simp)) u5
  have e_q15 : Mx17 q15 = some (aI g 8 (fun _ => 0)) := by rw [hMx17]; exact up_at (ne_lk e_q15 e_x (by simp)) e_q15
  have e_x : Mx17 x = some (.inr (3, [.ref kp, .int 0, .null, .ref q5, .ref q10, .ref q15])) := by rw [hMx17]; exact up_eq
  have hbr : ∀ i, i < 16 → Mx17 (bs + 1 + i) = some (aI g 8 (fun _ => 0)) := fun i hi => by rw [hMx17]; exact up_at (nxb i hi) (hbr i hi)
  have hund : ∀ q, und Mx17 q = true → und M q = true := fun q hq => by
    have n_x : q ≠ x := fun t => by rw [t, und_obj e_x (by decide)] at hq; cases hq
    have n_kp : q ≠ kp := fun t => by rw [t, und_arr e_kp] at hq; cases hq
    have n_pf : q ≠ q5 := fun t => by rw [t, und_obj e_q5 (by decide)] at hq; cases hq
    have n_bs : q ≠ bs := fun t => by rw [t, und_arr e_bs] at hq; cases hq
    have n_br : ∀ i, i < 16 → q ≠ bs + 1 + i := fun i hi t => by rw [t, und_arr (hbr i hi)] at hq; cases hq
    have n_h : q ≠ q10 := fun t => by rw [t, und_obj u1 (by decide)] at hq; cases hq
    have n_nm : q ≠ nm := fun t => by rw [t, und_arr u5] at hq; cases hq
    have n_ms : q ≠ ms := fun t => by rw [t, und_arr u2] at hq; cases hq
    have n_sc : q ≠ sc := fun t => by rw [t, und_arr u3] at hq; cases hq
    have n_sa : q ≠ sa := fun t => by rw [t, und_arr u4] at hq; cases hq
    have n_fo : q ≠ q15 := fun t => by rw [t, und_arr e_q15] at hq; cases hq
    rw [← und_same (show Mx17 q = M q by rw [hMx17, up_ne n_x, hMx16, up_ne n_fo, hMx14, up_ne n_x, hfh q n_h n_nm n_ms n_sc n_sa, hMx11, up_ne n_h, hMx9, up_ne n_x, hfp q n_pf n_bs n_br, hMx6, up_ne n_pf, hMx4, up_ne n_x, hMx3, up_ne n_x, hMx2, up_ne n_x, hMx1, up_ne n_kp])]
    exact hq
  exact ret dX3_init_53 hm hS (Nat.le_of_ble_eq_true rfl) (Nat.le_of_ble_eq_true rfl) (⟨kp, q5, bs, q10, nm, ms, sc, sa, q15, fun i => bs + 1 + i, fun _ => 0, fun _ => 0, fun _ => 0, fun _ => 0, fun _ _ => 0, ⟨WF_0, ⟨u1, u2, u3, u4, ⟨fn, u5, u6⟩, u7⟩, e_x, e_kp, e_q5, e_bs, hbr, e_q15, ⟨nf_nm, nf_ms, nf_sc, nf_sa, (fun i hi => ⟨(nbn i hi).1, (nbn i hi).2.1, (nbn i hi).2.2.1, (nbn i hi).2.2.2, nbf i hi⟩), fun i j _ _ h9 => Nat.add_left_cancel (show bs + 1 + i = bs + 1 + j from h9)⟩, fun _ _ => rfl, sOK_0, (fun j hj => absurd hj (Nat.not_lt_zero j)), rfl, fun i hi => absurd hi (Nat.not_lt_zero i)⟩, hund⟩)
