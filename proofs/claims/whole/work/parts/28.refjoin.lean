theorem clB_lo {b : Nat → Int32} {n e q : Nat} {hi lo : Int32} (h : q < n) : clB b n e hi lo q = b q := if_pos h
theorem join_w {b z o : Nat → Int32} (h0 : b 0 = 1) (hz : ∀ i, i < 8 → ∀ k, k < 4 → b (1 + 32 * 0 + 4 * i + k) = byt (z i) k) (ho : ∀ i, i < 8 → ∀ k, k < 4 → b (1 + 32 * 1 + 4 * i + k) = byt (o i) k) {t : Nat} (ht : t < 16) : wB (clB b 65 (64 * 2) 2 8) (64 * 0) t = mp z o t := by
  have hb1 : byt 1 3 = 1 := by decide
  unfold wB
  rw [clB_lo (by omega), clB_lo (by omega), clB_lo (by omega), clB_lo (by omega)]
  rcases (show t = 0 ∨ (0 < t ∧ t < 8) ∨ t = 8 ∨ (8 < t ∧ t < 16) by omega) with h | h | h | h
  · subst h
    rw [show b (64 * 0 + 4 * 0) = byt 1 3 from h0.trans hb1.symm, show b (64 * 0 + 4 * 0 + 1) = byt (z 0) 0 from hz 0 (by decide) 0 (by decide), show b (64 * 0 + 4 * 0 + 2) = byt (z 0) 1 from hz 0 (by decide) 1 (by decide), show b (64 * 0 + 4 * 0 + 3) = byt (z 0) 2 from hz 0 (by decide) 2 (by decide), join4]
    rfl
  · obtain ⟨s, rfl⟩ : ∃ s, t = s + 1 := ⟨t - 1, by omega⟩
    have e0 := hz s (by omega) 3 (by decide)
    have e1 := hz (s + 1) (by omega) 0 (by decide)
    have e2 := hz (s + 1) (by omega) 1 (by decide)
    have e3 := hz (s + 1) (by omega) 2 (by decide)
    rw [show 64 * 0 + 4 * (s + 1) = 1 + 32 * 0 + 4 * s + 3 by omega, e0, show 1 + 32 * 0 + 4 * s + 3 + 1 = 1 + 32 * 0 + 4 * (s + 1) + 0 by omega, e1, show 1 + 32 * 0 + 4 * s + 3 + 2 = 1 + 32 * 0 + 4 * (s + 1) + 1 by omega, e2, show 1 + 32 * 0 + 4 * s + 3 + 3 = 1 + 32 * 0 + 4 * (s + 1) + 2 by omega, e3, join4]
    unfold mp
    rw [if_pos (by omega)]
    rfl
  · subst h
    rw [show b (64 * 0 + 4 * 8) = byt (z 7) 3 from hz 7 (by decide) 3 (by decide), show b (64 * 0 + 4 * 8 + 1) = byt (o 0) 0 from ho 0 (by decide) 0 (by decide), show b (64 * 0 + 4 * 8 + 2) = byt (o 0) 1 from ho 0 (by decide) 1 (by decide), show b (64 * 0 + 4 * 8 + 3) = byt (o 0) 2 from ho 0 (by decide) 2 (by decide), join4]
    rfl
  · obtain ⟨s, rfl⟩ : ∃ s, t = s + 9 := ⟨t - 9, by omega⟩
    have e0 := ho s (by omega) 3 (by decide)
    have e1 := ho (s + 1) (by omega) 0 (by decide)
    have e2 := ho (s + 1) (by omega) 1 (by decide)
    have e3 := ho (s + 1) (by omega) 2 (by decide)
    rw [show 64 * 0 + 4 * (s + 9) = 1 + 32 * 1 + 4 * s + 3 by omega, e0, show 1 + 32 * 1 + 4 * s + 3 + 1 = 1 + 32 * 1 + 4 * (s + 1) + 0 by omega, e1, show 1 + 32 * 1 + 4 * s + 3 + 2 = 1 + 32 * 1 + 4 * (s + 1) + 1 by omega, e2, show 1 + 32 * 1 + 4 * s + 3 + 3 = 1 + 32 * 1 + 4 * (s + 1) + 2 by omega, e3, join4]
    unfold mp
    rw [if_neg (by omega), if_pos (by omega), show s + 9 - 8 = s + 1 by omega]
    rfl
theorem clB_hi {b : Nat → Int32} {q : Nat} (h : 65 < q) (h2 : q < 126) : clB b 65 (64 * 2) 2 8 q = 0 := by
  unfold clB
  rw [if_neg (by omega), if_neg (by omega), if_neg (by omega), if_neg (by omega)]
theorem join_w2 {b z o : Nat → Int32} (ho : ∀ i, i < 8 → ∀ k, k < 4 → b (1 + 32 * 1 + 4 * i + k) = byt (o i) k) {t : Nat} (ht : t < 16) : wB (clB b 65 (64 * 2) 2 8) (64 * 1) t = mp z o (16 + t) := by
  rcases (show t = 0 ∨ (0 < t ∧ t < 15) ∨ t = 15 by omega) with h | h | h
  · subst h
    unfold wB
    rw [show clB b 65 (64 * 2) 2 8 (64 * 1 + 4 * 0) = byt (o 7) 3 from (clB_lo (by decide)).trans (ho 7 (by decide) 3 (by decide)), last4]
    show (((o 7 <<< ((24 : Int32) &&& 31)) ||| ((128 : Int32) <<< ((16 : Int32) &&& 31))) ||| ((0 : Int32) <<< ((8 : Int32) &&& 31))) ||| 0 = (o 7 <<< ((24 : Int32) &&& 31)) ||| 8388608
    rw [show (128 : Int32) <<< ((16 : Int32) &&& 31) = 8388608 from by decide, show (0 : Int32) <<< ((8 : Int32) &&& 31) = 0 from by decide]
    refine b_ext (fun i hi => ?_)
    rw [b_or, b_or _ 0, b_0, Bool.or_false, Bool.or_false]
  · unfold wB
    rw [clB_hi (by omega) (by omega), clB_hi (by omega) (by omega), clB_hi (by omega) (by omega), clB_hi (by omega) (by omega)]
    unfold mp
    rw [if_neg (by omega), if_neg (by omega), if_neg (by omega), if_neg (by omega)]
    decide
  · subst h
    show ((((0 : Int32) <<< ((24 : Int32) &&& 31)) ||| ((0 : Int32) <<< ((16 : Int32) &&& 31))) ||| ((2 : Int32) <<< ((8 : Int32) &&& 31))) ||| 8 = 520
    decide
set_option maxHeartbeats 4000000 in
set_option maxRecDepth 100000 in
theorem c_X4_join (l : Launch) (g : hG) (M : hM) (y : Nat) (ad : Nat → Nat) (S : Nat → Nat → Int32) (V : Nat → Int32) (hRs : RS g M y ad S V) (hk0 : ∀ j, j < 64 → S 0 j = kRound j) (hk1 : ∀ j, j < 8 → S 1 j = kStart j) (z o : Nat → Int32) (hz : ∀ i, i < 8 → ∀ k, k < 4 → S 8 (1 + 32 * 0 + 4 * i + k) = byt (z i) k) (ho : ∀ i, i < 8 → ∀ k, k < 4 → S 8 (1 + 32 * 1 + 4 * i + k) = byt (o i) k) : Cv l g yX4_join cX4_join 1 4 0 0 [.ref y] M (fun M9 => ∃ S9, RS g M9 y ad S9 V ∧ (∀ q, ¬ rO y ad q → M9 q = M q) ∧ (∀ k9, k9 ≠ 8 → k9 ≠ 9 → k9 ≠ 10 → S9 k9 = S k9) ∧ ∀ j, j < 8 → S9 10 j = hPair z o j) := by
  refine hp_startV (by decide) (by exact Nat.le_of_ble_eq_true rfl) ?_
  intro p e s m below meth c Q H locs ls EE hnm ret hm hS hl
  have hx := EE.1
  have hb := EE.2.1
  have hown := EE.2.2.2.1
  have hts := EE.2.2.2.2.1
  have hl : lv_has ls 1 [(0, .ref y)] := hl
  have hF : ∀ q, ¬ rO y ad q → M q = M q := fun _ _ => rfl
  refine lv_aload_n hx hb dX4_join_0 rfl (lv_at hl 0 rfl) ?_
  refine hr_get EE hm hRs 8 (by decide) wf_X4_100 (v := .ref (ad 8)) rfl dX4_join_1 ?_
  refine lv_iconst (v := 0) hx hb dX4_join_4 (by decide) ?_
  refine lv_iconst (v := 1) hx hb dX4_join_5 (by decide) ?_
  refine hr_ast EE hm hS hRs hF 8 0 (by decide) rfl (by decide) (by decide) dX4_join_6 (fun H locs Mx1 hm hS hRs hF => ?_)
  obtain ⟨Sx2, hSx2⟩ : ∃ z, z = sU S 8 0 1 := ⟨_, rfl⟩
  rw [← hSx2] at hRs
  have hoA : ∀ k9, k9 ≠ 8 → Sx2 k9 = S k9 := fun k9 h8 => by rw [hSx2, sU_o h8]
  have g0 : Sx2 8 0 = 1 := by rw [hSx2, sU_i]
  have gz : ∀ i, i < 8 → ∀ k, k < 4 → Sx2 8 (1 + 32 * 0 + 4 * i + k) = byt (z i) k := fun i hi k hk => by rw [hSx2, sU_n (by omega)]; exact hz i hi k hk
  have go : ∀ i, i < 8 → ∀ k, k < 4 → Sx2 8 (1 + 32 * 1 + 4 * i + k) = byt (o i) k := fun i hi k hk => by rw [hSx2, sU_n (by omega)]; exact ho i hi k hk
  refine lv_aload_n hx hb dX4_join_7 rfl (lv_at hl 0 rfl) ?_
  refine lv_bipush (v := 65) hx hb dX4_join_8 (by decide) ?_
  refine hp_cv (hp_runV (C := RX4) (T := TX4) (N := 24) (np := 1) (k := 3) (mc := 0) (ms := 0) (As := [.int 65]) (rest := []) EE hm hS (c_X4_digest l g Mx1 y ad Sx2 V hRs (fun j hj => by rw [hoA 0 (by decide)]; exact hk0 j hj) (fun j hj => by rw [hoA 1 (by decide)]; exact hk1 j hj) 65 2 2 8 (Or.inr ⟨rfl, rfl, rfl, rfl⟩)) ms_X4_digest wi_X4_digest ws_X4_digest wl_X4_146 hRs.1 rfl rfl hl.1 rfl (Nat.le_of_ble_eq_true rfl) dX4_join_10 ⟨Nat.le_of_ble_eq_true rfl, Nat.le_of_ble_eq_true rfl⟩ ⟨(Nat.le_of_ble_eq_true rfl), (Nat.le_of_ble_eq_true rfl)⟩) hS (fun Mx3 H locs hq4 hm hS => ?_)
  obtain ⟨S7, hRs, hF7, ho7, hb7, hd7⟩ := hq4
  have hF : ∀ q, ¬ rO y ad q → Mx3 q = M q := fun q hq => (hF7 q hq).trans (hF q hq)
  exact ret dX4_join_13 hm hS (Nat.le_of_ble_eq_true rfl) (Nat.le_of_ble_eq_true rfl) (⟨S7, hRs, hF, (fun k9 h8 h9 h10 => by rw [ho7 k9 h8 h9 h10, hoA k9 h8]), fun j hj => by
    rw [hd7 j hj]
    show shaB (shaB kStart (wB _ (64 * 0))) (wB _ (64 * 1)) j = _
    exact shaB_w (fun i hi => shaB_w (fun _ _ => rfl) (fun t ht => join_w g0 gz go ht) hi) (fun t ht => join_w2 go ht) hj⟩)
