def isK (k : Int32) : Bool := decide (0 ≤ k) && decide (k < 65536)
def isW (k : Int32) : Bool := decide (0 ≤ k) && decide (k < 8)
theorem i_nlt0 {x : Int32} (h : ¬ x < 0) : 0 ≤ x := Int32.not_lt.mp h
theorem isK_a {k : Int32} (h : k < 0) : isK k = false := by simp [isK, Int32.not_le.mpr h]
theorem isK_b {k : Int32} (h : 65536 ≤ k) : isK k = false := by simp [isK, Int32.not_lt.mpr h]
theorem isK_c {k : Int32} (h : ¬ k < 0) (h2 : ¬ 65536 ≤ k) : isK k = true := by simp [isK, Int32.not_lt.mp h, Int32.not_le.mp h2]
theorem isW_a {k : Int32} (h : k < 0) : isW k = false := by simp [isW, Int32.not_le.mpr h]
theorem isW_b {k : Int32} (h : 8 ≤ k) : isW k = false := by simp [isW, Int32.not_lt.mpr h]
theorem isW_c {k : Int32} (h : ¬ k < 0) (h2 : ¬ 8 ≤ k) : isW k = true := by simp [isW, Int32.not_lt.mp h, Int32.not_le.mp h2]
set_option maxHeartbeats 4000000 in
set_option maxRecDepth 100000 in
theorem c_X3_isKey (l : Launch) (g : hG) (M : hM) (k0 : Int32) : Ci l g yX3_isKey cX3_isKey 1 .boolean 1 0 0 [.int k0] M (fun r M9 => r = bI (isK k0) ∧ M9 = M) := by
  refine hp_startI (by decide) (by exact Nat.le_of_ble_eq_true rfl) ?_
  intro p e s m below meth c Q H locs ls E hnm ret hm hS hl
  have hx := E.1
  have hb := E.2.1
  have hown := E.2.2.2.1
  have hts := E.2.2.2.2.1
  have hl : lv_has ls 1 [(0, .int k0)] := hl
  refine lv_iload_n hx hb dX3_isKey_0 rfl (lv_at hl 0 rfl) ?_
  refine lv_if_lt (tgt := 14) hx hb dX3_isKey_1 (by decide) (fun c_1 => ?_) (fun c_1 => ?_)
  · refine lv_iconst (v := 0) hx hb dX3_isKey_14 (by decide) ?_
    exact ret dX3_isKey_15 na_0 hm hS (Nat.le_of_ble_eq_true rfl) (Nat.le_of_ble_eq_true rfl) (⟨by first | (rw [isK_a c_1]; rfl) | (rw [isK_b c_7]; rfl) | (rw [isK_b c_6]; rfl) | (rw [isK_c c_1 c_7]; rfl) | (rw [isK_c c_1 c_6]; rfl), rfl⟩)
  · refine lv_iload_n hx hb dX3_isKey_4 rfl (lv_at hl 0 rfl) ?_
    refine lv_ldc (v := 65536) hx hb hown (hts _ wk_X3_131) dX3_isKey_5 ?_
    refine lv_icmp_ge (tgt := 14) hx hb dX3_isKey_7 (by decide) (fun c_7 => ?_) (fun c_7 => ?_)
    · refine lv_iconst (v := 0) hx hb dX3_isKey_14 (by decide) ?_
      exact ret dX3_isKey_15 na_0 hm hS (Nat.le_of_ble_eq_true rfl) (Nat.le_of_ble_eq_true rfl) (⟨by first | (rw [isK_a c_1]; rfl) | (rw [isK_b c_7]; rfl) | (rw [isK_b c_6]; rfl) | (rw [isK_c c_1 c_7]; rfl) | (rw [isK_c c_1 c_6]; rfl), rfl⟩)
    · refine lv_iconst (v := 1) hx hb dX3_isKey_10 (by decide) ?_
      refine lv_goto (tgt := 15) hx hb dX3_isKey_11 (by decide) ?_
      exact ret dX3_isKey_15 na_1 hm hS (Nat.le_of_ble_eq_true rfl) (Nat.le_of_ble_eq_true rfl) (⟨by first | (rw [isK_a c_1]; rfl) | (rw [isK_b c_7]; rfl) | (rw [isK_b c_6]; rfl) | (rw [isK_c c_1 c_7]; rfl) | (rw [isK_c c_1 c_6]; rfl), rfl⟩)
set_option maxHeartbeats 4000000 in
set_option maxRecDepth 100000 in
theorem c_X4_isKey (l : Launch) (g : hG) (M : hM) (k0 : Int32) : Ci l g yX4_isKey cX4_isKey 1 .boolean 1 0 0 [.int k0] M (fun r M9 => r = bI (isK k0) ∧ M9 = M) := by
  refine hp_startI (by decide) (by exact Nat.le_of_ble_eq_true rfl) ?_
  intro p e s m below meth c Q H locs ls E hnm ret hm hS hl
  have hx := E.1
  have hb := E.2.1
  have hown := E.2.2.2.1
  have hts := E.2.2.2.2.1
  have hl : lv_has ls 1 [(0, .int k0)] := hl
  refine lv_iload_n hx hb dX4_isKey_0 rfl (lv_at hl 0 rfl) ?_
  refine lv_if_lt (tgt := 14) hx hb dX4_isKey_1 (by decide) (fun c_1 => ?_) (fun c_1 => ?_)
  · refine lv_iconst (v := 0) hx hb dX4_isKey_14 (by decide) ?_
    exact ret dX4_isKey_15 na_0 hm hS (Nat.le_of_ble_eq_true rfl) (Nat.le_of_ble_eq_true rfl) (⟨by first | (rw [isK_a c_1]; rfl) | (rw [isK_b c_7]; rfl) | (rw [isK_b c_6]; rfl) | (rw [isK_c c_1 c_7]; rfl) | (rw [isK_c c_1 c_6]; rfl), rfl⟩)
  · refine lv_iload_n hx hb dX4_isKey_4 rfl (lv_at hl 0 rfl) ?_
    refine lv_ldc (v := 65536) hx hb hown (hts _ wk_X4_133) dX4_isKey_5 ?_
    refine lv_icmp_ge (tgt := 14) hx hb dX4_isKey_7 (by decide) (fun c_7 => ?_) (fun c_7 => ?_)
    · refine lv_iconst (v := 0) hx hb dX4_isKey_14 (by decide) ?_
      exact ret dX4_isKey_15 na_0 hm hS (Nat.le_of_ble_eq_true rfl) (Nat.le_of_ble_eq_true rfl) (⟨by first | (rw [isK_a c_1]; rfl) | (rw [isK_b c_7]; rfl) | (rw [isK_b c_6]; rfl) | (rw [isK_c c_1 c_7]; rfl) | (rw [isK_c c_1 c_6]; rfl), rfl⟩)
    · refine lv_iconst (v := 1) hx hb dX4_isKey_10 (by decide) ?_
      refine lv_goto (tgt := 15) hx hb dX4_isKey_11 (by decide) ?_
      exact ret dX4_isKey_15 na_1 hm hS (Nat.le_of_ble_eq_true rfl) (Nat.le_of_ble_eq_true rfl) (⟨by first | (rw [isK_a c_1]; rfl) | (rw [isK_b c_7]; rfl) | (rw [isK_b c_6]; rfl) | (rw [isK_c c_1 c_7]; rfl) | (rw [isK_c c_1 c_6]; rfl), rfl⟩)
set_option maxHeartbeats 4000000 in
set_option maxRecDepth 100000 in
theorem c_X3_isWord (l : Launch) (g : hG) (M : hM) (k0 : Int32) : Ci l g yX3_isWord cX3_isWord 1 .boolean 1 0 0 [.int k0] M (fun r M9 => r = bI (isW k0) ∧ M9 = M) := by
  refine hp_startI (by decide) (by exact Nat.le_of_ble_eq_true rfl) ?_
  intro p e s m below meth c Q H locs ls E hnm ret hm hS hl
  have hx := E.1
  have hb := E.2.1
  have hown := E.2.2.2.1
  have hts := E.2.2.2.2.1
  have hl : lv_has ls 1 [(0, .int k0)] := hl
  refine lv_iload_n hx hb dX3_isWord_0 rfl (lv_at hl 0 rfl) ?_
  refine lv_if_lt (tgt := 14) hx hb dX3_isWord_1 (by decide) (fun c_1 => ?_) (fun c_1 => ?_)
  · refine lv_iconst (v := 0) hx hb dX3_isWord_14 (by decide) ?_
    exact ret dX3_isWord_15 na_0 hm hS (Nat.le_of_ble_eq_true rfl) (Nat.le_of_ble_eq_true rfl) (⟨by first | (rw [isW_a c_1]; rfl) | (rw [isW_b c_7]; rfl) | (rw [isW_b c_6]; rfl) | (rw [isW_c c_1 c_7]; rfl) | (rw [isW_c c_1 c_6]; rfl), rfl⟩)
  · refine lv_iload_n hx hb dX3_isWord_4 rfl (lv_at hl 0 rfl) ?_
    refine lv_bipush (v := 8) hx hb dX3_isWord_5 (by decide) ?_
    refine lv_icmp_ge (tgt := 14) hx hb dX3_isWord_7 (by decide) (fun c_7 => ?_) (fun c_7 => ?_)
    · refine lv_iconst (v := 0) hx hb dX3_isWord_14 (by decide) ?_
      exact ret dX3_isWord_15 na_0 hm hS (Nat.le_of_ble_eq_true rfl) (Nat.le_of_ble_eq_true rfl) (⟨by first | (rw [isW_a c_1]; rfl) | (rw [isW_b c_7]; rfl) | (rw [isW_b c_6]; rfl) | (rw [isW_c c_1 c_7]; rfl) | (rw [isW_c c_1 c_6]; rfl), rfl⟩)
    · refine lv_iconst (v := 1) hx hb dX3_isWord_10 (by decide) ?_
      refine lv_goto (tgt := 15) hx hb dX3_isWord_11 (by decide) ?_
      exact ret dX3_isWord_15 na_1 hm hS (Nat.le_of_ble_eq_true rfl) (Nat.le_of_ble_eq_true rfl) (⟨by first | (rw [isW_a c_1]; rfl) | (rw [isW_b c_7]; rfl) | (rw [isW_b c_6]; rfl) | (rw [isW_c c_1 c_7]; rfl) | (rw [isW_c c_1 c_6]; rfl), rfl⟩)
/-- the bit of a key behind its first d -/
def bitA (k d : Int32) : Int32 := ush k (15 - d) &&& 1
set_option maxHeartbeats 4000000 in
set_option maxRecDepth 100000 in
theorem c_X3_bitAt (l : Launch) (g : hG) (M : hM) (k0 d0 : Int32) : Ci l g yX3_bitAt cX3_bitAt 2 .int 1 0 0 [.int k0, .int d0] M (fun r M9 => r = bitA k0 d0 ∧ M9 = M) := by
  refine hp_startI (by decide) (by exact Nat.le_of_ble_eq_true rfl) ?_
  intro p e s m below meth c Q H locs ls E hnm ret hm hS hl
  have hx := E.1
  have hb := E.2.1
  have hown := E.2.2.2.1
  have hts := E.2.2.2.2.1
  have hl : lv_has ls 2 [(0, .int k0), (1, .int d0)] := hl
  refine lv_iload_n hx hb dX3_bitAt_0 rfl (lv_at hl 0 rfl) ?_
  refine lv_bipush (v := 15) hx hb dX3_bitAt_1 (by decide) ?_
  refine lv_iload_n hx hb dX3_bitAt_3 rfl (lv_at hl 1 rfl) ?_
  refine lv_isub hx hb dX3_bitAt_4 ?_
  refine lv_iushr (v := ush k0 (15 - d0)) hx hb dX3_bitAt_5 rfl ?_
  refine lv_iconst (v := 1) hx hb dX3_bitAt_6 (by decide) ?_
  refine lv_iand hx hb dX3_bitAt_7 ?_
  exact ret dX3_bitAt_8 na_i hm hS (Nat.le_of_ble_eq_true rfl) (Nat.le_of_ble_eq_true rfl) (⟨rfl, rfl⟩)
/-- a word turned right -/
def tur (x n : Int32) : Int32 := ush x n ||| (x <<< ((32 - n) &&& 31))
set_option maxHeartbeats 4000000 in
set_option maxRecDepth 100000 in
theorem c_X0_turned (l : Launch) (g : hG) (M : hM) (x0 n0 : Int32) : Ci l g yX0_turned cX0_turned 2 .int 1 0 0 [.int x0, .int n0] M (fun r M9 => r = tur x0 n0 ∧ M9 = M) := by
  refine hp_startI (by decide) (by exact Nat.le_of_ble_eq_true rfl) ?_
  intro p e s m below meth c Q H locs ls E hnm ret hm hS hl
  have hx := E.1
  have hb := E.2.1
  have hown := E.2.2.2.1
  have hts := E.2.2.2.2.1
  have hl : lv_has ls 2 [(0, .int x0), (1, .int n0)] := hl
  refine lv_iload_n hx hb dX0_turned_0 rfl (lv_at hl 0 rfl) ?_
  refine lv_iload_n hx hb dX0_turned_1 rfl (lv_at hl 1 rfl) ?_
  refine lv_iushr (v := ush x0 n0) hx hb dX0_turned_2 rfl ?_
  refine lv_iload_n hx hb dX0_turned_3 rfl (lv_at hl 0 rfl) ?_
  refine lv_bipush (v := 32) hx hb dX0_turned_4 (by decide) ?_
  refine lv_iload_n hx hb dX0_turned_6 rfl (lv_at hl 1 rfl) ?_
  refine lv_isub hx hb dX0_turned_7 ?_
  refine lv_ishl hx hb dX0_turned_8 ?_
  refine lv_ior hx hb dX0_turned_9 ?_
  exact ret dX0_turned_10 na_i hm hS (Nat.le_of_ble_eq_true rfl) (Nat.le_of_ble_eq_true rfl) (⟨rfl, rfl⟩)
set_option maxHeartbeats 4000000 in
set_option maxRecDepth 100000 in
theorem c_X4_turned (l : Launch) (g : hG) (M : hM) (x0 n0 : Int32) : Ci l g yX4_turned cX4_turned 2 .int 1 0 0 [.int x0, .int n0] M (fun r M9 => r = tur x0 n0 ∧ M9 = M) := by
  refine hp_startI (by decide) (by exact Nat.le_of_ble_eq_true rfl) ?_
  intro p e s m below meth c Q H locs ls E hnm ret hm hS hl
  have hx := E.1
  have hb := E.2.1
  have hown := E.2.2.2.1
  have hts := E.2.2.2.2.1
  have hl : lv_has ls 2 [(0, .int x0), (1, .int n0)] := hl
  refine lv_iload_n hx hb dX4_turned_0 rfl (lv_at hl 0 rfl) ?_
  refine lv_iload_n hx hb dX4_turned_1 rfl (lv_at hl 1 rfl) ?_
  refine lv_iushr (v := ush x0 n0) hx hb dX4_turned_2 rfl ?_
  refine lv_iload_n hx hb dX4_turned_3 rfl (lv_at hl 0 rfl) ?_
  refine lv_bipush (v := 32) hx hb dX4_turned_4 (by decide) ?_
  refine lv_iload_n hx hb dX4_turned_6 rfl (lv_at hl 1 rfl) ?_
  refine lv_isub hx hb dX4_turned_7 ?_
  refine lv_ishl hx hb dX4_turned_8 ?_
  refine lv_ior hx hb dX4_turned_9 ?_
  exact ret dX4_turned_10 na_i hm hS (Nat.le_of_ble_eq_true rfl) (Nat.le_of_ble_eq_true rfl) (⟨rfl, rfl⟩)
/-- the row of a version -/
def rowO (v : Int32) : Int32 := if 0 ≤ v then v else 60
set_option maxHeartbeats 4000000 in
set_option maxRecDepth 100000 in
theorem c_X4_rowOf (l : Launch) (g : hG) (M : hM) (v0 : Int32) : Ci l g yX4_rowOf cX4_rowOf 1 .int 1 0 0 [.int v0] M (fun r M9 => r = rowO v0 ∧ M9 = M) := by
  refine hp_startI (by decide) (by exact Nat.le_of_ble_eq_true rfl) ?_
  intro p e s m below meth c Q H locs ls E hnm ret hm hS hl
  have hx := E.1
  have hb := E.2.1
  have hown := E.2.2.2.1
  have hts := E.2.2.2.2.1
  have hl : lv_has ls 1 [(0, .int v0)] := hl
  refine lv_iload_n hx hb dX4_rowOf_0 rfl (lv_at hl 0 rfl) ?_
  refine lv_if_ge (tgt := 9) hx hb dX4_rowOf_1 (by decide) (fun c_1 => ?_) (fun c_1 => ?_)
  · refine lv_iload_n hx hb dX4_rowOf_9 rfl (lv_at hl 0 rfl) ?_
    exact ret dX4_rowOf_10 na_i hm hS (Nat.le_of_ble_eq_true rfl) (Nat.le_of_ble_eq_true rfl) (⟨by first | rw [rowO, if_pos c_1] | rw [rowO, if_neg c_1], rfl⟩)
  · refine lv_bipush (v := 60) hx hb dX4_rowOf_4 (by decide) ?_
    refine lv_goto (tgt := 10) hx hb dX4_rowOf_6 (by decide) ?_
    exact ret dX4_rowOf_10 na_i hm hS (Nat.le_of_ble_eq_true rfl) (Nat.le_of_ble_eq_true rfl) (⟨by first | rw [rowO, if_pos c_1] | rw [rowO, if_neg c_1], rfl⟩)
