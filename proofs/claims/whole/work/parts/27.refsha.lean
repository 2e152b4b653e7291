/-! Int32 by its bits (a family of the kit, pasted) -/
def bt (x : Int32) (i : Nat) : Bool := x.toBitVec.getLsbD i
theorem b_ext {x y : Int32} (h : ∀ i, i < 32 → bt x i = bt y i) : x = y := Int32.toBitVec_inj.mp (BitVec.eq_of_getLsbD_eq (fun i hi => h i hi))
theorem b_or (x y : Int32) (i : Nat) : bt (x ||| y) i = (bt x i || bt y i) := by unfold bt; rw [Int32.toBitVec_or, BitVec.getLsbD_or]
theorem b_and (x y : Int32) (i : Nat) : bt (x &&& y) i = (bt x i && bt y i) := by unfold bt; rw [Int32.toBitVec_and, BitVec.getLsbD_and]
theorem b_xor (x y : Int32) (i : Nat) : bt (x ^^^ y) i = (bt x i ^^ bt y i) := by unfold bt; rw [Int32.toBitVec_xor, BitVec.getLsbD_xor]
theorem b_big {x : Int32} {i : Nat} (h : 32 ≤ i) : bt x i = false := BitVec.getLsbD_of_ge _ _ h
theorem b_255 (i : Nat) : bt 255 i = decide (i < 8) := by
  rcases Nat.lt_or_ge i 32 with h | h
  · exact (by decide +kernel : ∀ i, i < 32 → bt 255 i = decide (i < 8)) i h
  · rw [b_big h, decide_eq_false (by omega)]
theorem b_65535 (i : Nat) : bt 65535 i = decide (i < 16) := by
  rcases Nat.lt_or_ge i 32 with h | h
  · exact (by decide +kernel : ∀ i, i < 32 → bt 65535 i = decide (i < 16)) i h
  · rw [b_big h, decide_eq_false (by omega)]
theorem b_m1 : ∀ i, i < 32 → bt (-1) i = true := by decide +kernel
theorem b_0 (i : Nat) : bt 0 i = false := BitVec.getLsbD_zero
theorem s_l : ∀ n, n < 32 → ((nI n &&& 31).toBitVec.smod 32).toNat = n := by decide +kernel
theorem s_u : ∀ n, n < 32 → (((nI n).toUInt32 &&& Int32.toUInt32 31).toBitVec % 32).toNat = n := by decide +kernel
theorem b_shl (n : Nat) (hn : n < 32) (x : Int32) {i : Nat} (hi : i < 32) : bt (x <<< (nI n &&& 31)) i = (decide (n ≤ i) && bt x (i - n)) := by
  unfold bt
  rw [Int32.toBitVec_shiftLeft]
  show (x.toBitVec <<< ((nI n &&& 31).toBitVec.smod 32).toNat).getLsbD i = _
  rw [s_l n hn, BitVec.getLsbD_shiftLeft]
  rcases Nat.lt_or_ge i n with h | h
  · simp [h, Nat.not_le.mpr h]
  · simp [hi, h, Nat.not_lt.mpr h]
theorem b_ushr (n : Nat) (hn : n < 32) (x : Int32) (i : Nat) : bt ((x.toUInt32 >>> ((nI n).toUInt32 &&& Int32.toUInt32 31)).toInt32) i = bt x (n + i) := by
  show (x.toUInt32 >>> ((nI n).toUInt32 &&& Int32.toUInt32 31)).toBitVec.getLsbD i = x.toUInt32.toBitVec.getLsbD (n + i)
  rw [UInt32.toBitVec_shiftRight]
  show (x.toUInt32.toBitVec >>> (((nI n).toUInt32 &&& Int32.toUInt32 31).toBitVec % 32).toNat).getLsbD i = _
  rw [s_u n hn, BitVec.getLsbD_ushiftRight]
theorem b_sshr (n : Nat) (hn : n < 32) (x : Int32) {i : Nat} (hi : i < 32) : bt (x >>> (nI n &&& 31)) i = if n + i < 32 then bt x (n + i) else bt x 31 := by
  unfold bt
  rw [Int32.toBitVec_shiftRight]
  show (x.toBitVec.sshiftRight ((nI n &&& 31).toBitVec.smod 32).toNat).getLsbD i = _
  rw [s_l n hn, BitVec.getLsbD_sshiftRight, BitVec.msb_eq_getLsbD_last]
  simp [hi]
theorem b_shl8 (x : Int32) {i : Nat} (hi : i < 32) : bt (x <<< ((8 : Int32) &&& 31)) i = (decide (8 ≤ i) && bt x (i - 8)) := b_shl 8 (by omega) x hi
theorem b_shl16 (x : Int32) {i : Nat} (hi : i < 32) : bt (x <<< ((16 : Int32) &&& 31)) i = (decide (16 ≤ i) && bt x (i - 16)) := b_shl 16 (by omega) x hi
theorem b_shl24 (x : Int32) {i : Nat} (hi : i < 32) : bt (x <<< ((24 : Int32) &&& 31)) i = (decide (24 ≤ i) && bt x (i - 24)) := b_shl 24 (by omega) x hi
theorem b_sshr8 (x : Int32) {i : Nat} (hi : i < 32) : bt (x >>> ((8 : Int32) &&& 31)) i = if 8 + i < 32 then bt x (8 + i) else bt x 31 := b_sshr 8 (by omega) x hi
/-- the words of a block of bytes -/
def wB (b : Nat → Int32) (fr t : Nat) : Int32 := (((b (fr + 4 * t) <<< ((24 : Int32) &&& 31)) ||| (b (fr + 4 * t + 1) <<< ((16 : Int32) &&& 31))) ||| (b (fr + 4 * t + 2) <<< ((8 : Int32) &&& 31))) ||| b (fr + 4 * t + 3)
theorem rev4 (a b c d : Int32) : ((a + b) + c) + d = ((d + c) + b) + a := by
  rw [Int32.add_comm (a + b + c) d, Int32.add_comm (a + b) c, Int32.add_comm a b, ← Int32.add_assoc, ← Int32.add_assoc]
theorem wB_w {b b2 : Nat → Int32} {fr : Nat} (h : ∀ q, fr ≤ q → q < fr + 64 → b q = b2 q) {t : Nat} (ht : t < 16) : wB b fr t = wB b2 fr t := by
  unfold wB
  rw [h (fr + 4 * t) (by omega) (by omega), h (fr + 4 * t + 1) (by omega) (by omega), h (fr + 4 * t + 2) (by omega) (by omega), h (fr + 4 * t + 3) (by omega) (by omega)]
/-- the byte k of a word -/
def byt (w : Int32) (k : Nat) : Int32 := (w >>> (nI (24 - 8 * k) &&& 31)) &&& 255
theorem byt_b (w : Int32) {k i : Nat} (hk : k < 4) (hi : i < 32) : bt (byt w k) i = (decide (i < 8) && bt w (24 - 8 * k + i)) := by
  unfold byt
  rw [b_and, b_255, b_sshr (24 - 8 * k) (by omega) w hi]
  by_cases h : i < 8
  · rw [if_pos (by omega), decide_eq_true h, Bool.and_true, Bool.true_and]
  · rw [decide_eq_false h, Bool.and_false, Bool.false_and]
theorem ush_b (n : Nat) (hn : n < 32) (x : Int32) (i : Nat) : bt (ush x (nI n)) i = bt x (n + i) := b_ushr n hn x i
/-- three bytes of a word behind the last one of another -/
theorem join4 (p w : Int32) : (((byt p 3 <<< ((24 : Int32) &&& 31)) ||| (byt w 0 <<< ((16 : Int32) &&& 31))) ||| (byt w 1 <<< ((8 : Int32) &&& 31))) ||| byt w 2 = (p <<< ((24 : Int32) &&& 31)) ||| ush w 8 := by
  refine b_ext (fun i hi => ?_)
  rw [b_or, b_or, b_or, b_or, b_shl24 _ hi, b_shl16 _ hi, b_shl8 _ hi, b_shl24 _ hi, show ush w 8 = ush w (nI 8) from rfl, ush_b 8 (by decide), byt_b p (by decide) (show i - 24 < 32 by omega), byt_b w (by decide) (show i - 16 < 32 by omega), byt_b w (by decide) (show i - 8 < 32 by omega), byt_b w (by decide) hi]
  rcases (show i < 8 ∨ (8 ≤ i ∧ i < 16) ∨ (16 ≤ i ∧ i < 24) ∨ (24 ≤ i ∧ i < 32) by omega) with h | h | h | h
  · rw [decide_eq_false (show ¬ 24 ≤ i by omega), decide_eq_false (show ¬ 16 ≤ i by omega), decide_eq_false (show ¬ 8 ≤ i by omega), decide_eq_true h]
    simp
  · rw [decide_eq_false (show ¬ 24 ≤ i by omega), decide_eq_false (show ¬ 16 ≤ i by omega), decide_eq_true (show 8 ≤ i by omega), decide_eq_false (show ¬ i < 8 by omega), decide_eq_true (show i - 8 < 8 by omega), show 24 - 8 * 1 + (i - 8) = 8 + i by omega]
    simp
  · rw [decide_eq_false (show ¬ 24 ≤ i by omega), decide_eq_true (show 16 ≤ i by omega), decide_eq_true (show 8 ≤ i by omega), decide_eq_false (show ¬ i < 8 by omega), decide_eq_false (show ¬ i - 8 < 8 by omega), decide_eq_true (show i - 16 < 8 by omega), show 24 - 8 * 0 + (i - 16) = 8 + i by omega]
    simp
  · rw [decide_eq_true (show 24 ≤ i by omega), decide_eq_true (show 16 ≤ i by omega), decide_eq_true (show 8 ≤ i by omega), decide_eq_false (show ¬ i < 8 by omega), decide_eq_false (show ¬ i - 8 < 8 by omega), decide_eq_false (show ¬ i - 16 < 8 by omega), decide_eq_true (show i - 24 < 8 by omega), show 24 - 8 * 3 + (i - 24) = i - 24 by omega, b_big (show 32 ≤ 8 + i by omega)]
    simp
/-- the last byte of a word, ahead of others -/
theorem last4 (p : Int32) : byt p 3 <<< ((24 : Int32) &&& 31) = p <<< ((24 : Int32) &&& 31) := by
  refine b_ext (fun i hi => ?_)
  rw [b_shl24 _ hi, b_shl24 _ hi, byt_b p (by decide) (show i - 24 < 32 by omega)]
  by_cases h : 24 ≤ i
  · rw [decide_eq_true h, decide_eq_true (show i - 24 < 8 by omega), show 24 - 8 * 3 + (i - 24) = i - 24 by omega]; simp
  · rw [decide_eq_false h]; simp
theorem shl0 (n : Nat) : (0 : Int32) <<< (nI n &&& 31) = 0 := by
  refine b_ext (fun i hi => ?_)
  unfold bt
  rw [Int32.toBitVec_shiftLeft]
  simp
/-- the three last bytes of a word, then a byte of another -/
theorem last3 (v : Int32) : ((byt v 1 <<< ((24 : Int32) &&& 31)) ||| (byt v 2 <<< ((16 : Int32) &&& 31))) ||| (byt v 3 <<< ((8 : Int32) &&& 31)) = v <<< ((8 : Int32) &&& 31) := by
  refine b_ext (fun i hi => ?_)
  rw [b_or, b_or, b_shl24 _ hi, b_shl16 _ hi, b_shl8 _ hi, b_shl8 _ hi, byt_b v (by decide) (show i - 24 < 32 by omega), byt_b v (by decide) (show i - 16 < 32 by omega), byt_b v (by decide) (show i - 8 < 32 by omega)]
  rcases (show i < 8 ∨ (8 ≤ i ∧ i < 16) ∨ (16 ≤ i ∧ i < 24) ∨ (24 ≤ i ∧ i < 32) by omega) with h | h | h | h
  · rw [decide_eq_false (show ¬ 24 ≤ i by omega), decide_eq_false (show ¬ 16 ≤ i by omega), decide_eq_false (show ¬ 8 ≤ i by omega)]
    simp
  · rw [decide_eq_false (show ¬ 24 ≤ i by omega), decide_eq_false (show ¬ 16 ≤ i by omega), decide_eq_true (show 8 ≤ i by omega), decide_eq_true (show i - 8 < 8 by omega), show 24 - 8 * 3 + (i - 8) = i - 8 by omega]
    simp
  · rw [decide_eq_false (show ¬ 24 ≤ i by omega), decide_eq_true (show 16 ≤ i by omega), decide_eq_true (show 8 ≤ i by omega), decide_eq_false (show ¬ i - 8 < 8 by omega), decide_eq_true (show i - 16 < 8 by omega), show 24 - 8 * 2 + (i - 16) = i - 8 by omega]
    simp
  · rw [decide_eq_true (show 24 ≤ i by omega), decide_eq_true (show 16 ≤ i by omega), decide_eq_true (show 8 ≤ i by omega), decide_eq_false (show ¬ i - 8 < 8 by omega), decide_eq_false (show ¬ i - 16 < 8 by omega), decide_eq_true (show i - 24 < 8 by omega), show 24 - 8 * 1 + (i - 24) = i - 8 by omega]
    simp
theorem nI_b {k i : Nat} (hi : i < 32) : bt (nI k) i = k.testBit i := by
  unfold bt
  show (BitVec.ofNat 32 k).getLsbD i = _
  rw [BitVec.getLsbD_ofNat, decide_eq_true hi, Bool.true_and]
/-- a key's two bytes, and the first of a value -/
theorem key4 {k : Nat} (hk : k < 65536) (v : Int32) : (((0 : Int32) ||| ((nI k >>> ((8 : Int32) &&& 31)) <<< ((16 : Int32) &&& 31))) ||| ((nI k &&& 255) <<< ((8 : Int32) &&& 31))) ||| byt v 0 = (nI k <<< ((8 : Int32) &&& 31)) ||| ush v 24 := by
  refine b_ext (fun i hi => ?_)
  rw [b_or, b_or, b_or, b_or, b_0, b_shl16 _ hi, b_shl8 _ hi, b_shl8 _ hi, b_and, b_255, show ush v 24 = ush v (nI 24) from rfl, ush_b 24 (by decide), byt_b v (by decide) hi, b_sshr8 _ (show i - 16 < 32 by omega)]
  rcases (show i < 8 ∨ (8 ≤ i ∧ i < 16) ∨ (16 ≤ i ∧ i < 24) ∨ (24 ≤ i ∧ i < 32) by omega) with h | h | h | h
  · rw [decide_eq_false (show ¬ 16 ≤ i by omega), decide_eq_false (show ¬ 8 ≤ i by omega), decide_eq_true h]; simp
  · rw [decide_eq_false (show ¬ 16 ≤ i by omega), decide_eq_true (show 8 ≤ i by omega), decide_eq_true (show i - 8 < 8 by omega), decide_eq_false (show ¬ i < 8 by omega), b_big (show 32 ≤ 24 + i by omega)]; simp
  · rw [decide_eq_true (show 16 ≤ i by omega), decide_eq_true (show 8 ≤ i by omega), decide_eq_false (show ¬ i - 8 < 8 by omega), decide_eq_false (show ¬ i < 8 by omega), b_big (show 32 ≤ 24 + i by omega), if_pos (by omega), nI_b (by omega), nI_b (by omega), show 8 + (i - 16) = i - 8 by omega]; simp
  · rw [decide_eq_true (show 16 ≤ i by omega), decide_eq_true (show 8 ≤ i by omega), decide_eq_false (show ¬ i - 8 < 8 by omega), decide_eq_false (show ¬ i < 8 by omega), b_big (show 32 ≤ 24 + i by omega), if_pos (by omega), nI_b (by omega), nI_b (by omega), show 8 + (i - 16) = i - 8 by omega]; simp
def shN (B : Nat → Int32) : Nat → Nat → Int32
  | 0 => kStart
  | k + 1 => shaB (shN B k) (wB B (64 * k))
/-- the bytes of a message of n bytes, closed -/
def clB (b : Nat → Int32) (n e : Nat) (hi lo : Int32) : Nat → Int32 := fun q => if q < n then b q else if q = n then 128 else if q = e - 2 then hi else if q = e - 1 then lo else 0
def dcs (nn bl : Nat) (hi lo : Int32) : Prop := (nn = 7 ∧ bl = 1 ∧ hi = 0 ∧ lo = 56) ∨ (nn = 65 ∧ bl = 2 ∧ hi = 2 ∧ lo = 8)
set_option maxHeartbeats 4000000 in
set_option maxRecDepth 100000 in
theorem c_X4_mix (l : Launch) (g : hG) (M : hM) (y : Nat) (ad : Nat → Nat) (S : Nat → Nat → Int32) (V : Nat → Int32) (hRs : RS g M y ad S V) (hk0 : ∀ j, j < 64 → S 0 j = kRound j) (hk1 : ∀ j, j < 8 → S 1 j = kStart j) (fr : Nat) (hfr : fr + 64 ≤ 128) : Cv l g yX4_mix cX4_mix 13 2 0 0 [.ref y, .int (nI fr)] M (fun M9 => ∃ S9, RS g M9 y ad S9 V ∧ (∀ q, ¬ rO y ad q → M9 q = M q) ∧ (∀ k9, k9 ≠ 9 → k9 ≠ 10 → S9 k9 = S k9) ∧ ∀ j, j < 8 → S9 10 j = shaB (S 10) (wB (S 8) fr) j) := by
  refine hp_startV (by decide) (by exact Nat.le_of_ble_eq_true rfl) ?_
  intro p e s m below meth c Q H locs ls EE hnm ret hm hS hl
  have hx := EE.1
  have hb := EE.2.1
  have hown := EE.2.2.2.1
  have hts := EE.2.2.2.2.1
  have hl : lv_has ls 13 [(0, .ref y), (1, .int (nI fr))] := hl
  have hF : ∀ q, ¬ rO y ad q → M q = M q := fun _ _ => rfl
  refine lv_iconst (v := 0) hx hb dX4_mix_0 (by decide) ?_
  refine lv_istore_n (lv' := [(2, .int 0), (0, .ref y), (1, .int (nI fr))]) hx hb dX4_mix_1 rfl hl (by decide) rfl (fun ls hl => ?_)
  have lp : ∀ (n i : Nat) (M1 : hM) (S1 : Nat → Nat → Int32)   (H : Heap) (locs : List Loc) (ls : Array Slot), 17 ≤ i + n → i ≤ 16 → (∀ k9, k9 ≠ 9 → S1 k9 = S k9) → (∀ j, j < i → S1 9 j = wB (S 8) fr j) → RS g M1 y ad S1 V → (∀ q, ¬ rO y ad q → M1 q = M q) → hp g M1 H → va_S (hA g) s.heap H locs → lv_has ls 13 [(2, .int (nI i)), (0, .ref y), (1, .int (nI fr))] → W p l e (hR 2 0 0) s m [.ref y, .int (nI fr)].toArray below meth c H locs 0 0 Q (F0 m 2 ls []) := by
    intro n
    induction n with
    | zero => intro i M1 S1 H locs ls hn hi hoth hw1; exact absurd hn (by omega)
    | succ n ih =>
      intro i M1 S1 H locs ls hn hi hoth hw1 hRs hF hm hS hl
      refine lv_iload_n hx hb dX4_mix_2 rfl (lv_at hl 0 rfl) ?_
      refine lv_bipush (v := 16) hx hb dX4_mix_3 (by decide) ?_
      refine lv_icmp_ge (tgt := 68) hx hb dX4_mix_5 (by decide) (fun c_5 => ?_) (fun c_5 => ?_)
      · have c_5 : 16 ≤ i := (leN (a := 16) (b := i) rfl rfl (by decide) (by omega)).mp c_5
        refine lv_bipush (v := 16) hx hb dX4_mix_68 (by decide) ?_
        refine lv_istore_n (lv' := [(2, .int 16), (0, .ref y), (1, .int (nI fr))]) hx hb dX4_mix_70 rfl hl (by decide) rfl (fun ls hl => ?_)
        have lp2 : ∀ (n u : Nat) (M2 : hM) (S2 : Nat → Nat → Int32)   (H : Heap) (locs : List Loc) (ls : Array Slot), 49 ≤ u + n → u ≤ 48 → (∀ k9, k9 ≠ 9 → S2 k9 = S k9) → (∀ j, j < 16 + u → S2 9 j = schF (wB (S 8) fr) u j) → RS g M2 y ad S2 V → (∀ q, ¬ rO y ad q → M2 q = M q) → hp g M2 H → va_S (hA g) s.heap H locs → lv_has ls 13 [(2, .int (nI (16 + u))), (0, .ref y), (1, .int (nI fr))] → W p l e (hR 2 0 0) s m [.ref y, .int (nI fr)].toArray below meth c H locs 0 0 Q (F0 m 71 ls []) := by
          intro n
          induction n with
          | zero => intro u M2 S2 H locs ls hn2 hu hoth2 hw2; exact absurd hn2 (by omega)
          | succ n ih =>
            intro u M2 S2 H locs ls hn2 hu hoth2 hw2 hRs hF hm hS hl
            refine lv_iload_n hx hb dX4_mix_71 rfl (lv_at hl 0 rfl) ?_
            refine lv_bipush (v := 64) hx hb dX4_mix_72 (by decide) ?_
            refine lv_icmp_ge (tgt := 168) hx hb dX4_mix_74 (by decide) (fun c_74 => ?_) (fun c_74 => ?_)
            · have c_74 : 64 ≤ (16 + u) := (leN (a := 64) (b := 16 + u) rfl rfl (by decide) (by omega)).mp c_74
              refine lv_aload_n hx hb dX4_mix_168 rfl (lv_at hl 1 rfl) ?_
              refine hr_get EE hm hRs 10 (by decide) wf_X4_106 (v := .ref (ad 10)) rfl dX4_mix_169 ?_
              refine lv_iconst (v := 0) hx hb dX4_mix_172 (by decide) ?_
              refine hr_ald EE hm hRs 10 0 (by decide) rfl (by decide) (by decide) dX4_mix_173 ?_
              refine lv_istore_n (lv' := [(2, .int (S2 10 0)), (0, .ref y), (1, .int (nI fr))]) hx hb dX4_mix_174 rfl hl (by decide) rfl (fun ls hl => ?_)
              refine lv_aload_n hx hb dX4_mix_175 rfl (lv_at hl 1 rfl) ?_
              refine hr_get EE hm hRs 10 (by decide) wf_X4_106 (v := .ref (ad 10)) rfl dX4_mix_176 ?_
              refine lv_iconst (v := 1) hx hb dX4_mix_179 (by decide) ?_
              refine hr_ald EE hm hRs 10 1 (by decide) rfl (by decide) (by decide) dX4_mix_180 ?_
              refine lv_istore_n (lv' := [(3, .int (S2 10 1)), (2, .int (S2 10 0)), (0, .ref y), (1, .int (nI fr))]) hx hb dX4_mix_181 rfl hl (by decide) rfl (fun ls hl => ?_)
              refine lv_aload_n hx hb dX4_mix_182 rfl (lv_at hl 2 rfl) ?_
              refine hr_get EE hm hRs 10 (by decide) wf_X4_106 (v := .ref (ad 10)) rfl dX4_mix_183 ?_
              refine lv_iconst (v := 2) hx hb dX4_mix_186 (by decide) ?_
              refine hr_ald EE hm hRs 10 2 (by decide) rfl (by decide) (by decide) dX4_mix_187 ?_
              refine lv_istore (lv' := [(4, .int (S2 10 2)), (3, .int (S2 10 1)), (2, .int (S2 10 0)), (0, .ref y), (1, .int (nI fr))]) hx hb dX4_mix_188 hl (by decide) rfl (fun ls hl => ?_)
              refine lv_aload_n hx hb dX4_mix_190 rfl (lv_at hl 3 rfl) ?_
              refine hr_get EE hm hRs 10 (by decide) wf_X4_106 (v := .ref (ad 10)) rfl dX4_mix_191 ?_
              refine lv_iconst (v := 3) hx hb dX4_mix_194 (by decide) ?_
              refine hr_ald EE hm hRs 10 3 (by decide) rfl (by decide) (by decide) dX4_mix_195 ?_
              refine lv_istore (lv' := [(5, .int (S2 10 3)), (4, .int (S2 10 2)), (3, .int (S2 10 1)), (2, .int (S2 10 0)), (0, .ref y), (1, .int (nI fr))]) hx hb dX4_mix_196 hl (by decide) rfl (fun ls hl => ?_)
              refine lv_aload_n hx hb dX4_mix_198 rfl (lv_at hl 4 rfl) ?_
              refine hr_get EE hm hRs 10 (by decide) wf_X4_106 (v := .ref (ad 10)) rfl dX4_mix_199 ?_
              refine lv_iconst (v := 4) hx hb dX4_mix_202 (by decide) ?_
              refine hr_ald EE hm hRs 10 4 (by decide) rfl (by decide) (by decide) dX4_mix_203 ?_
              refine lv_istore (lv' := [(6, .int (S2 10 4)), (5, .int (S2 10 3)), (4, .int (S2 10 2)), (3, .int (S2 10 1)), (2, .int (S2 10 0)), (0, .ref y), (1, .int (nI fr))]) hx hb dX4_mix_204 hl (by decide) rfl (fun ls hl => ?_)
              refine lv_aload_n hx hb dX4_mix_206 rfl (lv_at hl 5 rfl) ?_
              refine hr_get EE hm hRs 10 (by decide) wf_X4_106 (v := .ref (ad 10)) rfl dX4_mix_207 ?_
              refine lv_iconst (v := 5) hx hb dX4_mix_210 (by decide) ?_
              refine hr_ald EE hm hRs 10 5 (by decide) rfl (by decide) (by decide) dX4_mix_211 ?_
              refine lv_istore (lv' := [(7, .int (S2 10 5)), (6, .int (S2 10 4)), (5, .int (S2 10 3)), (4, .int (S2 10 2)), (3, .int (S2 10 1)), (2, .int (S2 10 0)), (0, .ref y), (1, .int (nI fr))]) hx hb dX4_mix_212 hl (by decide) rfl (fun ls hl => ?_)
              refine lv_aload_n hx hb dX4_mix_214 rfl (lv_at hl 6 rfl) ?_
              refine hr_get EE hm hRs 10 (by decide) wf_X4_106 (v := .ref (ad 10)) rfl dX4_mix_215 ?_
              refine lv_bipush (v := 6) hx hb dX4_mix_218 (by decide) ?_
              refine hr_ald EE hm hRs 10 6 (by decide) rfl (by decide) (by decide) dX4_mix_220 ?_
              refine lv_istore (lv' := [(8, .int (S2 10 6)), (7, .int (S2 10 5)), (6, .int (S2 10 4)), (5, .int (S2 10 3)), (4, .int (S2 10 2)), (3, .int (S2 10 1)), (2, .int (S2 10 0)), (0, .ref y), (1, .int (nI fr))]) hx hb dX4_mix_221 hl (by decide) rfl (fun ls hl => ?_)
              refine lv_aload_n hx hb dX4_mix_223 rfl (lv_at hl 7 rfl) ?_
              refine hr_get EE hm hRs 10 (by decide) wf_X4_106 (v := .ref (ad 10)) rfl dX4_mix_224 ?_
              refine lv_bipush (v := 7) hx hb dX4_mix_227 (by decide) ?_
              refine hr_ald EE hm hRs 10 7 (by decide) rfl (by decide) (by decide) dX4_mix_229 ?_
              refine lv_istore (lv' := [(9, .int (S2 10 7)), (8, .int (S2 10 6)), (7, .int (S2 10 5)), (6, .int (S2 10 4)), (5, .int (S2 10 3)), (4, .int (S2 10 2)), (3, .int (S2 10 1)), (2, .int (S2 10 0)), (0, .ref y), (1, .int (nI fr))]) hx hb dX4_mix_230 hl (by decide) rfl (fun ls hl => ?_)
              refine lv_iconst (v := 0) hx hb dX4_mix_232 (by decide) ?_
              refine lv_istore (lv' := [(10, .int 0), (9, .int (S2 10 7)), (8, .int (S2 10 6)), (7, .int (S2 10 5)), (6, .int (S2 10 4)), (5, .int (S2 10 3)), (4, .int (S2 10 2)), (3, .int (S2 10 1)), (2, .int (S2 10 0)), (0, .ref y), (1, .int (nI fr))]) hx hb dX4_mix_233 hl (by decide) rfl (fun ls hl => ?_)
              have lp3 : ∀ (n i3 : Nat) (x2 x3 x4 x5 x6 x7 x8 x9 : Int32) (H : Heap) (locs : List Loc) (ls : Array Slot), 65 ≤ i3 + n → i3 ≤ 64 → (x2, x3, x4, x5, x6, x7, x8, x9) = rdF (S2 9) (of8 (S 10)) i3 → hp g M2 H → va_S (hA g) s.heap H locs → lv_has ls 13 [(10, .int (nI i3)), (2, .int x2), (3, .int x3), (4, .int x4), (5, .int x5), (6, .int x6), (7, .int x7), (8, .int x8), (9, .int x9), (0, .ref y), (1, .int (nI fr))] → W p l e (hR 2 0 0) s m [.ref y, .int (nI fr)].toArray below meth c H locs 0 0 Q (F0 m 235 ls []) := by
                intro n
                induction n with
                | zero => intro i3 x2 x3 x4 x5 x6 x7 x8 x9 H locs ls hn3 hi3 hr; exact absurd hn3 (by omega)
                | succ n ih =>
                  intro i3 x2 x3 x4 x5 x6 x7 x8 x9 H locs ls hn3 hi3 hr hm hS hl
                  refine lv_iload hx hb dX4_mix_235 (lv_at hl 0 rfl) ?_
                  refine lv_bipush (v := 64) hx hb dX4_mix_237 (by decide) ?_
                  refine lv_icmp_ge (tgt := 375) hx hb dX4_mix_239 (by decide) (fun c_239 => ?_) (fun c_239 => ?_)
                  · have c_239 : 64 ≤ i3 := (leN (a := 64) (b := i3) rfl rfl (by decide) (by omega)).mp c_239
                    refine lv_aload_n hx hb dX4_mix_375 rfl (lv_at hl 9 rfl) ?_
                    refine hr_get EE hm hRs 10 (by decide) wf_X4_106 (v := .ref (ad 10)) rfl dX4_mix_376 ?_
                    refine lv_iconst (v := 0) hx hb dX4_mix_379 (by decide) ?_
                    refine lv_dup2_11 hx hb dX4_mix_380 rfl rfl ?_
                    refine hr_ald EE hm hRs 10 0 (by decide) rfl (by decide) (by decide) dX4_mix_381 ?_
                    refine lv_iload_n hx hb dX4_mix_382 rfl (lv_at hl 1 rfl) ?_
                    refine lv_iadd hx hb dX4_mix_383 ?_
                    refine hr_ast EE hm hS hRs hF 10 0 (by decide) rfl (by decide) (by decide) dX4_mix_384 (fun H locs Mx1 hm hS hRs hF => ?_)
                    obtain ⟨Sx2, hSx2⟩ : ∃ z, z = sU S2 10 0 ((S2 10 0) + x2) := ⟨_, rfl⟩
                    rw [← hSx2] at hRs
                    refine lv_aload_n hx hb dX4_mix_385 rfl (lv_at hl 9 rfl) ?_
                    refine hr_get EE hm hRs 10 (by decide) wf_X4_106 (v := .ref (ad 10)) rfl dX4_mix_386 ?_
                    refine lv_iconst (v := 1) hx hb dX4_mix_389 (by decide) ?_
                    refine lv_dup2_11 hx hb dX4_mix_390 rfl rfl ?_
                    refine hr_ald EE hm hRs 10 1 (by decide) rfl (by decide) (by decide) dX4_mix_391 ?_
                    refine lv_iload_n hx hb dX4_mix_392 rfl (lv_at hl 2 rfl) ?_
                    refine lv_iadd hx hb dX4_mix_393 ?_
                    refine hr_ast EE hm hS hRs hF 10 1 (by decide) rfl (by decide) (by decide) dX4_mix_394 (fun H locs Mx3 hm hS hRs hF => ?_)
                    obtain ⟨Sx4, hSx4⟩ : ∃ z, z = sU Sx2 10 1 ((Sx2 10 1) + x3) := ⟨_, rfl⟩
                    rw [← hSx4] at hRs
                    refine lv_aload_n hx hb dX4_mix_395 rfl (lv_at hl 9 rfl) ?_
                    refine hr_get EE hm hRs 10 (by decide) wf_X4_106 (v := .ref (ad 10)) rfl dX4_mix_396 ?_
                    refine lv_iconst (v := 2) hx hb dX4_mix_399 (by decide) ?_
                    refine lv_dup2_11 hx hb dX4_mix_400 rfl rfl ?_
                    refine hr_ald EE hm hRs 10 2 (by decide) rfl (by decide) (by decide) dX4_mix_401 ?_
                    refine lv_iload hx hb dX4_mix_402 (lv_at hl 3 rfl) ?_
                    refine lv_iadd hx hb dX4_mix_404 ?_
                    refine hr_ast EE hm hS hRs hF 10 2 (by decide) rfl (by decide) (by decide) dX4_mix_405 (fun H locs Mx5 hm hS hRs hF => ?_)
                    obtain ⟨Sx6, hSx6⟩ : ∃ z, z = sU Sx4 10 2 ((Sx4 10 2) + x4) := ⟨_, rfl⟩
                    rw [← hSx6] at hRs
                    refine lv_aload_n hx hb dX4_mix_406 rfl (lv_at hl 9 rfl) ?_
                    refine hr_get EE hm hRs 10 (by decide) wf_X4_106 (v := .ref (ad 10)) rfl dX4_mix_407 ?_
                    refine lv_iconst (v := 3) hx hb dX4_mix_410 (by decide) ?_
                    refine lv_dup2_11 hx hb dX4_mix_411 rfl rfl ?_
                    refine hr_ald EE hm hRs 10 3 (by decide) rfl (by decide) (by decide) dX4_mix_412 ?_
                    refine lv_iload hx hb dX4_mix_413 (lv_at hl 4 rfl) ?_
                    refine lv_iadd hx hb dX4_mix_415 ?_
                    refine hr_ast EE hm hS hRs hF 10 3 (by decide) rfl (by decide) (by decide) dX4_mix_416 (fun H locs Mx7 hm hS hRs hF => ?_)
                    obtain ⟨Sx8, hSx8⟩ : ∃ z, z = sU Sx6 10 3 ((Sx6 10 3) + x5) := ⟨_, rfl⟩
                    rw [← hSx8] at hRs
                    refine lv_aload_n hx hb dX4_mix_417 rfl (lv_at hl 9 rfl) ?_
                    refine hr_get EE hm hRs 10 (by decide) wf_X4_106 (v := .ref (ad 10)) rfl dX4_mix_418 ?_
                    refine lv_iconst (v := 4) hx hb dX4_mix_421 (by decide) ?_
                    refine lv_dup2_11 hx hb dX4_mix_422 rfl rfl ?_
                    refine hr_ald EE hm hRs 10 4 (by decide) rfl (by decide) (by decide) dX4_mix_423 ?_
                    refine lv_iload hx hb dX4_mix_424 (lv_at hl 5 rfl) ?_
                    refine lv_iadd hx hb dX4_mix_426 ?_
                    refine hr_ast EE hm hS hRs hF 10 4 (by decide) rfl (by decide) (by decide) dX4_mix_427 (fun H locs Mx9 hm hS hRs hF => ?_)
                    obtain ⟨Sx10, hSx10⟩ : ∃ z, z = sU Sx8 10 4 ((Sx8 10 4) + x6) := ⟨_, rfl⟩
                    rw [← hSx10] at hRs
                    refine lv_aload_n hx hb dX4_mix_428 rfl (lv_at hl 9 rfl) ?_
                    refine hr_get EE hm hRs 10 (by decide) wf_X4_106 (v := .ref (ad 10)) rfl dX4_mix_429 ?_
                    refine lv_iconst (v := 5) hx hb dX4_mix_432 (by decide) ?_
                    refine lv_dup2_11 hx hb dX4_mix_433 rfl rfl ?_
                    refine hr_ald EE hm hRs 10 5 (by decide) rfl (by decide) (by decide) dX4_mix_434 ?_
                    refine lv_iload hx hb dX4_mix_435 (lv_at hl 6 rfl) ?_
                    refine lv_iadd hx hb dX4_mix_437 ?_
                    refine hr_ast EE hm hS hRs hF 10 5 (by decide) rfl (by decide) (by decide) dX4_mix_438 (fun H locs Mx11 hm hS hRs hF => ?_)
                    obtain ⟨Sx12, hSx12⟩ : ∃ z, z = sU Sx10 10 5 ((Sx10 10 5) + x7) := ⟨_, rfl⟩
                    rw [← hSx12] at hRs
                    refine lv_aload_n hx hb dX4_mix_439 rfl (lv_at hl 9 rfl) ?_
                    refine hr_get EE hm hRs 10 (by decide) wf_X4_106 (v := .ref (ad 10)) rfl dX4_mix_440 ?_
                    refine lv_bipush (v := 6) hx hb dX4_mix_443 (by decide) ?_
                    refine lv_dup2_11 hx hb dX4_mix_445 rfl rfl ?_
                    refine hr_ald EE hm hRs 10 6 (by decide) rfl (by decide) (by decide) dX4_mix_446 ?_
                    refine lv_iload hx hb dX4_mix_447 (lv_at hl 7 rfl) ?_
                    refine lv_iadd hx hb dX4_mix_449 ?_
                    refine hr_ast EE hm hS hRs hF 10 6 (by decide) rfl (by decide) (by decide) dX4_mix_450 (fun H locs Mx13 hm hS hRs hF => ?_)
                    obtain ⟨Sx14, hSx14⟩ : ∃ z, z = sU Sx12 10 6 ((Sx12 10 6) + x8) := ⟨_, rfl⟩
                    rw [← hSx14] at hRs
                    refine lv_aload_n hx hb dX4_mix_451 rfl (lv_at hl 9 rfl) ?_
                    refine hr_get EE hm hRs 10 (by decide) wf_X4_106 (v := .ref (ad 10)) rfl dX4_mix_452 ?_
                    refine lv_bipush (v := 7) hx hb dX4_mix_455 (by decide) ?_
                    refine lv_dup2_11 hx hb dX4_mix_457 rfl rfl ?_
                    refine hr_ald EE hm hRs 10 7 (by decide) rfl (by decide) (by decide) dX4_mix_458 ?_
                    refine lv_iload hx hb dX4_mix_459 (lv_at hl 8 rfl) ?_
                    refine lv_iadd hx hb dX4_mix_461 ?_
                    refine hr_ast EE hm hS hRs hF 10 7 (by decide) rfl (by decide) (by decide) dX4_mix_462 (fun H locs Mx15 hm hS hRs hF => ?_)
                    obtain ⟨Sx16, hSx16⟩ : ∃ z, z = sU Sx14 10 7 ((Sx14 10 7) + x9) := ⟨_, rfl⟩
                    rw [← hSx16] at hRs
                    have hfin : (x2, x3, x4, x5, x6, x7, x8, x9) = rdF (schF (wB (S 8) fr) 48) (of8 (S 10)) 64 := by rw [hr, show i3 = 64 by omega]; exact rdF_w _ 64 (fun j hj => by rw [show u = 48 by omega] at hw2; exact hw2 j (by omega))
                    exact ret dX4_mix_463 hm hS (Nat.le_of_ble_eq_true rfl) (Nat.le_of_ble_eq_true rfl) (⟨Sx16, hRs, hF, (fun k9 h9 h10 => by rw [hSx16, sU_o h10, hSx14, sU_o h10, hSx12, sU_o h10, hSx10, sU_o h10, hSx8, sU_o h10, hSx6, sU_o h10, hSx4, sU_o h10, hSx2, sU_o h10]; exact hoth2 k9 h9), fun j hj => by
                      show _ = S 10 j + at8 (rdF _ (of8 (S 10)) 64) j
                      rw [← hfin]
                      rcases lt8 hj with q | q | q | q | q | q | q | q <;> subst q
                      · rw [hSx16, sU_n (by decide), hSx14, sU_n (by decide), hSx12, sU_n (by decide), hSx10, sU_n (by decide), hSx8, sU_n (by decide), hSx6, sU_n (by decide), hSx4, sU_n (by decide), hSx2, sU_i, hoth2 10 (by decide)]; rfl
                      · rw [hSx16, sU_n (by decide), hSx14, sU_n (by decide), hSx12, sU_n (by decide), hSx10, sU_n (by decide), hSx8, sU_n (by decide), hSx6, sU_n (by decide), hSx4, sU_i, hSx2, sU_n (by decide), hoth2 10 (by decide)]; rfl
                      · rw [hSx16, sU_n (by decide), hSx14, sU_n (by decide), hSx12, sU_n (by decide), hSx10, sU_n (by decide), hSx8, sU_n (by decide), hSx6, sU_i, hSx4, sU_n (by decide), hSx2, sU_n (by decide), hoth2 10 (by decide)]; rfl
                      · rw [hSx16, sU_n (by decide), hSx14, sU_n (by decide), hSx12, sU_n (by decide), hSx10, sU_n (by decide), hSx8, sU_i, hSx6, sU_n (by decide), hSx4, sU_n (by decide), hSx2, sU_n (by decide), hoth2 10 (by decide)]; rfl
                      · rw [hSx16, sU_n (by decide), hSx14, sU_n (by decide), hSx12, sU_n (by decide), hSx10, sU_i, hSx8, sU_n (by decide), hSx6, sU_n (by decide), hSx4, sU_n (by decide), hSx2, sU_n (by decide), hoth2 10 (by decide)]; rfl
                      · rw [hSx16, sU_n (by decide), hSx14, sU_n (by decide), hSx12, sU_i, hSx10, sU_n (by decide), hSx8, sU_n (by decide), hSx6, sU_n (by decide), hSx4, sU_n (by decide), hSx2, sU_n (by decide), hoth2 10 (by decide)]; rfl
                      · rw [hSx16, sU_n (by decide), hSx14, sU_i, hSx12, sU_n (by decide), hSx10, sU_n (by decide), hSx8, sU_n (by decide), hSx6, sU_n (by decide), hSx4, sU_n (by decide), hSx2, sU_n (by decide), hoth2 10 (by decide)]; rfl
                      · rw [hSx16, sU_i, hSx14, sU_n (by decide), hSx12, sU_n (by decide), hSx10, sU_n (by decide), hSx8, sU_n (by decide), hSx6, sU_n (by decide), hSx4, sU_n (by decide), hSx2, sU_n (by decide), hoth2 10 (by decide)]; rfl⟩)
                  · have c_239 : ¬ 64 ≤ i3 := fun h9 => c_239 ((leN (a := 64) (b := i3) rfl rfl (by decide) (by omega)).mpr h9)
                    refine lv_iload hx hb dX4_mix_242 (lv_at hl 8 rfl) ?_
                    refine lv_iload hx hb dX4_mix_244 (lv_at hl 5 rfl) ?_
                    refine lv_bipush (v := 6) hx hb dX4_mix_246 (by decide) ?_
                    refine hp_ci (hp_runS (np := 2) (k := 1) (mc := 0) (ms := 0) (As := [.int x6, .int 6]) (rest := [.int x9]) EE hm hS (c_X4_turned l g M2 x6 6) ms_X4_turned wt_X4_turned wl_X4_138 rfl hl.1 rfl (Nat.le_of_ble_eq_true rfl) dX4_mix_248 ⟨Nat.le_of_ble_eq_true rfl, Nat.le_of_ble_eq_true rfl⟩ ⟨(Nat.le_of_ble_eq_true rfl), (Nat.le_of_ble_eq_true rfl)⟩) hS (fun r17 Mx18 H locs hq19 hm hS => ?_)
                    obtain ⟨rfl, h9⟩ := hq19
                    rw [h9] at hm
                    refine lv_iload hx hb dX4_mix_251 (lv_at hl 5 rfl) ?_
                    refine lv_bipush (v := 11) hx hb dX4_mix_253 (by decide) ?_
                    refine hp_ci (hp_runS (np := 2) (k := 1) (mc := 0) (ms := 0) (As := [.int x6, .int 11]) (rest := [.int (tur x6 6), .int x9]) EE hm hS (c_X4_turned l g M2 x6 11) ms_X4_turned wt_X4_turned wl_X4_138 rfl hl.1 rfl (Nat.le_of_ble_eq_true rfl) dX4_mix_255 ⟨Nat.le_of_ble_eq_true rfl, Nat.le_of_ble_eq_true rfl⟩ ⟨(Nat.le_of_ble_eq_true rfl), (Nat.le_of_ble_eq_true rfl)⟩) hS (fun r20 Mx21 H locs hq22 hm hS => ?_)
                    obtain ⟨rfl, h9⟩ := hq22
                    rw [h9] at hm
                    refine lv_ixor hx hb dX4_mix_258 ?_
                    refine lv_iload hx hb dX4_mix_259 (lv_at hl 5 rfl) ?_
                    refine lv_bipush (v := 25) hx hb dX4_mix_261 (by decide) ?_
                    refine hp_ci (hp_runS (np := 2) (k := 1) (mc := 0) (ms := 0) (As := [.int x6, .int 25]) (rest := [.int ((tur x6 6) ^^^ (tur x6 11)), .int x9]) EE hm hS (c_X4_turned l g M2 x6 25) ms_X4_turned wt_X4_turned wl_X4_138 rfl hl.1 rfl (Nat.le_of_ble_eq_true rfl) dX4_mix_263 ⟨Nat.le_of_ble_eq_true rfl, Nat.le_of_ble_eq_true rfl⟩ ⟨(Nat.le_of_ble_eq_true rfl), (Nat.le_of_ble_eq_true rfl)⟩) hS (fun r23 Mx24 H locs hq25 hm hS => ?_)
                    obtain ⟨rfl, h9⟩ := hq25
                    rw [h9] at hm
                    refine lv_ixor hx hb dX4_mix_266 ?_
                    refine lv_iadd hx hb dX4_mix_267 ?_
                    refine lv_iload hx hb dX4_mix_268 (lv_at hl 5 rfl) ?_
                    refine lv_iload hx hb dX4_mix_270 (lv_at hl 6 rfl) ?_
                    refine lv_iand hx hb dX4_mix_272 ?_
                    refine lv_iload hx hb dX4_mix_273 (lv_at hl 5 rfl) ?_
                    refine lv_iconst (v := (-1)) hx hb dX4_mix_275 (by decide) ?_
                    refine lv_ixor hx hb dX4_mix_276 ?_
                    refine lv_iload hx hb dX4_mix_277 (lv_at hl 7 rfl) ?_
                    refine lv_iand hx hb dX4_mix_279 ?_
                    refine lv_ixor hx hb dX4_mix_280 ?_
                    refine lv_iadd hx hb dX4_mix_281 ?_
                    refine lv_aload_n hx hb dX4_mix_282 rfl (lv_at hl 9 rfl) ?_
                    refine hr_get EE hm hRs 0 (by decide) wf_X4_71 (v := .ref (ad 0)) rfl dX4_mix_283 ?_
                    refine lv_iload hx hb dX4_mix_286 (lv_at hl 0 rfl) ?_
                    refine hr_ald EE hm hRs 0 i3 (by decide) rfl (by show i3 < 64; omega) (by decide) dX4_mix_288 ?_
                    refine lv_iadd hx hb dX4_mix_289 ?_
                    refine lv_aload_n hx hb dX4_mix_290 rfl (lv_at hl 9 rfl) ?_
                    refine hr_get EE hm hRs 9 (by decide) wf_X4_103 (v := .ref (ad 9)) rfl dX4_mix_291 ?_
                    refine lv_iload hx hb dX4_mix_294 (lv_at hl 0 rfl) ?_
                    refine hr_ald EE hm hRs 9 i3 (by decide) rfl (by show i3 < 64; omega) (by decide) dX4_mix_296 ?_
                    refine lv_iadd hx hb dX4_mix_297 ?_
                    refine lv_istore (lv' := [(11, .int ((((x9 + (((tur x6 6) ^^^ (tur x6 11)) ^^^ (tur x6 25))) + ((x6 &&& x7) ^^^ ((x6 ^^^ ((-1))) &&& x8))) + (S2 0 i3)) + (S2 9 i3))), (10, .int (nI i3)), (2, .int x2), (3, .int x3), (4, .int x4), (5, .int x5), (6, .int x6), (7, .int x7), (8, .int x8), (9, .int x9), (0, .ref y), (1, .int (nI fr))]) hx hb dX4_mix_298 hl (by decide) rfl (fun ls hl => ?_)
                    refine lv_iload_n hx hb dX4_mix_300 rfl (lv_at hl 2 rfl) ?_
                    refine lv_iconst (v := 2) hx hb dX4_mix_301 (by decide) ?_
                    refine hp_ci (hp_runS (np := 2) (k := 1) (mc := 0) (ms := 0) (As := [.int x2, .int 2]) (rest := []) EE hm hS (c_X4_turned l g M2 x2 2) ms_X4_turned wt_X4_turned wl_X4_138 rfl hl.1 rfl (Nat.le_of_ble_eq_true rfl) dX4_mix_302 ⟨Nat.le_of_ble_eq_true rfl, Nat.le_of_ble_eq_true rfl⟩ ⟨(Nat.le_of_ble_eq_true rfl), (Nat.le_of_ble_eq_true rfl)⟩) hS (fun r26 Mx27 H locs hq28 hm hS => ?_)
                    obtain ⟨rfl, h9⟩ := hq28
                    rw [h9] at hm
                    refine lv_iload_n hx hb dX4_mix_305 rfl (lv_at hl 2 rfl) ?_
                    refine lv_bipush (v := 13) hx hb dX4_mix_306 (by decide) ?_
                    refine hp_ci (hp_runS (np := 2) (k := 1) (mc := 0) (ms := 0) (As := [.int x2, .int 13]) (rest := [.int (tur x2 2)]) EE hm hS (c_X4_turned l g M2 x2 13) ms_X4_turned wt_X4_turned wl_X4_138 rfl hl.1 rfl (Nat.le_of_ble_eq_true rfl) dX4_mix_308 ⟨Nat.le_of_ble_eq_true rfl, Nat.le_of_ble_eq_true rfl⟩ ⟨(Nat.le_of_ble_eq_true rfl), (Nat.le_of_ble_eq_true rfl)⟩) hS (fun r29 Mx30 H locs hq31 hm hS => ?_)
                    obtain ⟨rfl, h9⟩ := hq31
                    rw [h9] at hm
                    refine lv_ixor hx hb dX4_mix_311 ?_
                    refine lv_iload_n hx hb dX4_mix_312 rfl (lv_at hl 2 rfl) ?_
                    refine lv_bipush (v := 22) hx hb dX4_mix_313 (by decide) ?_
                    refine hp_ci (hp_runS (np := 2) (k := 1) (mc := 0) (ms := 0) (As := [.int x2, .int 22]) (rest := [.int ((tur x2 2) ^^^ (tur x2 13))]) EE hm hS (c_X4_turned l g M2 x2 22) ms_X4_turned wt_X4_turned wl_X4_138 rfl hl.1 rfl (Nat.le_of_ble_eq_true rfl) dX4_mix_315 ⟨Nat.le_of_ble_eq_true rfl, Nat.le_of_ble_eq_true rfl⟩ ⟨(Nat.le_of_ble_eq_true rfl), (Nat.le_of_ble_eq_true rfl)⟩) hS (fun r32 Mx33 H locs hq34 hm hS => ?_)
                    obtain ⟨rfl, h9⟩ := hq34
                    rw [h9] at hm
                    refine lv_ixor hx hb dX4_mix_318 ?_
                    refine lv_iload_n hx hb dX4_mix_319 rfl (lv_at hl 2 rfl) ?_
                    refine lv_iload_n hx hb dX4_mix_320 rfl (lv_at hl 3 rfl) ?_
                    refine lv_iand hx hb dX4_mix_321 ?_
                    refine lv_iload_n hx hb dX4_mix_322 rfl (lv_at hl 2 rfl) ?_
                    refine lv_iload hx hb dX4_mix_323 (lv_at hl 4 rfl) ?_
                    refine lv_iand hx hb dX4_mix_325 ?_
                    refine lv_ixor hx hb dX4_mix_326 ?_
                    refine lv_iload_n hx hb dX4_mix_327 rfl (lv_at hl 3 rfl) ?_
                    refine lv_iload hx hb dX4_mix_328 (lv_at hl 4 rfl) ?_
                    refine lv_iand hx hb dX4_mix_330 ?_
                    refine lv_ixor hx hb dX4_mix_331 ?_
                    refine lv_iadd hx hb dX4_mix_332 ?_
                    refine lv_istore (lv' := [(12, .int ((((tur x2 2) ^^^ (tur x2 13)) ^^^ (tur x2 22)) + (((x2 &&& x3) ^^^ (x2 &&& x4)) ^^^ (x3 &&& x4)))), (11, .int ((((x9 + (((tur x6 6) ^^^ (tur x6 11)) ^^^ (tur x6 25))) + ((x6 &&& x7) ^^^ ((x6 ^^^ ((-1))) &&& x8))) + (S2 0 i3)) + (S2 9 i3))), (10, .int (nI i3)), (2, .int x2), (3, .int x3), (4, .int x4), (5, .int x5), (6, .int x6), (7, .int x7), (8, .int x8), (9, .int x9), (0, .ref y), (1, .int (nI fr))]) hx hb dX4_mix_333 hl (by decide) rfl (fun ls hl => ?_)
                    refine lv_iload hx hb dX4_mix_335 (lv_at hl 9 rfl) ?_
                    refine lv_istore (lv' := [(9, .int x8), (12, .int ((((tur x2 2) ^^^ (tur x2 13)) ^^^ (tur x2 22)) + (((x2 &&& x3) ^^^ (x2 &&& x4)) ^^^ (x3 &&& x4)))), (11, .int ((((x9 + (((tur x6 6) ^^^ (tur x6 11)) ^^^ (tur x6 25))) + ((x6 &&& x7) ^^^ ((x6 ^^^ ((-1))) &&& x8))) + (S2 0 i3)) + (S2 9 i3))), (10, .int (nI i3)), (2, .int x2), (3, .int x3), (4, .int x4), (5, .int x5), (6, .int x6), (7, .int x7), (8, .int x8), (0, .ref y), (1, .int (nI fr))]) hx hb dX4_mix_337 hl (by decide) rfl (fun ls hl => ?_)
                    refine lv_iload hx hb dX4_mix_339 (lv_at hl 9 rfl) ?_
                    refine lv_istore (lv' := [(8, .int x7), (9, .int x8), (12, .int ((((tur x2 2) ^^^ (tur x2 13)) ^^^ (tur x2 22)) + (((x2 &&& x3) ^^^ (x2 &&& x4)) ^^^ (x3 &&& x4)))), (11, .int ((((x9 + (((tur x6 6) ^^^ (tur x6 11)) ^^^ (tur x6 25))) + ((x6 &&& x7) ^^^ ((x6 ^^^ ((-1))) &&& x8))) + (S2 0 i3)) + (S2 9 i3))), (10, .int (nI i3)), (2, .int x2), (3, .int x3), (4, .int x4), (5, .int x5), (6, .int x6), (7, .int x7), (0, .ref y), (1, .int (nI fr))]) hx hb dX4_mix_341 hl (by decide) rfl (fun ls hl => ?_)
                    refine lv_iload hx hb dX4_mix_343 (lv_at hl 9 rfl) ?_
                    refine lv_istore (lv' := [(7, .int x6), (8, .int x7), (9, .int x8), (12, .int ((((tur x2 2) ^^^ (tur x2 13)) ^^^ (tur x2 22)) + (((x2 &&& x3) ^^^ (x2 &&& x4)) ^^^ (x3 &&& x4)))), (11, .int ((((x9 + (((tur x6 6) ^^^ (tur x6 11)) ^^^ (tur x6 25))) + ((x6 &&& x7) ^^^ ((x6 ^^^ ((-1))) &&& x8))) + (S2 0 i3)) + (S2 9 i3))), (10, .int (nI i3)), (2, .int x2), (3, .int x3), (4, .int x4), (5, .int x5), (6, .int x6), (0, .ref y), (1, .int (nI fr))]) hx hb dX4_mix_345 hl (by decide) rfl (fun ls hl => ?_)
                    refine lv_iload hx hb dX4_mix_347 (lv_at hl 9 rfl) ?_
                    refine lv_iload hx hb dX4_mix_349 (lv_at hl 4 rfl) ?_
                    refine lv_iadd hx hb dX4_mix_351 ?_
                    refine lv_istore (lv' := [(6, .int (x5 + ((((x9 + (((tur x6 6) ^^^ (tur x6 11)) ^^^ (tur x6 25))) + ((x6 &&& x7) ^^^ ((x6 ^^^ ((-1))) &&& x8))) + (S2 0 i3)) + (S2 9 i3)))), (7, .int x6), (8, .int x7), (9, .int x8), (12, .int ((((tur x2 2) ^^^ (tur x2 13)) ^^^ (tur x2 22)) + (((x2 &&& x3) ^^^ (x2 &&& x4)) ^^^ (x3 &&& x4)))), (11, .int ((((x9 + (((tur x6 6) ^^^ (tur x6 11)) ^^^ (tur x6 25))) + ((x6 &&& x7) ^^^ ((x6 ^^^ ((-1))) &&& x8))) + (S2 0 i3)) + (S2 9 i3))), (10, .int (nI i3)), (2, .int x2), (3, .int x3), (4, .int x4), (5, .int x5), (0, .ref y), (1, .int (nI fr))]) hx hb dX4_mix_352 hl (by decide) rfl (fun ls hl => ?_)
                    refine lv_iload hx hb dX4_mix_354 (lv_at hl 9 rfl) ?_
                    refine lv_istore (lv' := [(5, .int x4), (6, .int (x5 + ((((x9 + (((tur x6 6) ^^^ (tur x6 11)) ^^^ (tur x6 25))) + ((x6 &&& x7) ^^^ ((x6 ^^^ ((-1))) &&& x8))) + (S2 0 i3)) + (S2 9 i3)))), (7, .int x6), (8, .int x7), (9, .int x8), (12, .int ((((tur x2 2) ^^^ (tur x2 13)) ^^^ (tur x2 22)) + (((x2 &&& x3) ^^^ (x2 &&& x4)) ^^^ (x3 &&& x4)))), (11, .int ((((x9 + (((tur x6 6) ^^^ (tur x6 11)) ^^^ (tur x6 25))) + ((x6 &&& x7) ^^^ ((x6 ^^^ ((-1))) &&& x8))) + (S2 0 i3)) + (S2 9 i3))), (10, .int (nI i3)), (2, .int x2), (3, .int x3), (4, .int x4), (0, .ref y), (1, .int (nI fr))]) hx hb dX4_mix_356 hl (by decide) rfl (fun ls hl => ?_)
                    refine lv_iload_n hx hb dX4_mix_358 rfl (lv_at hl 9 rfl) ?_
                    refine lv_istore (lv' := [(4, .int x3), (5, .int x4), (6, .int (x5 + ((((x9 + (((tur x6 6) ^^^ (tur x6 11)) ^^^ (tur x6 25))) + ((x6 &&& x7) ^^^ ((x6 ^^^ ((-1))) &&& x8))) + (S2 0 i3)) + (S2 9 i3)))), (7, .int x6), (8, .int x7), (9, .int x8), (12, .int ((((tur x2 2) ^^^ (tur x2 13)) ^^^ (tur x2 22)) + (((x2 &&& x3) ^^^ (x2 &&& x4)) ^^^ (x3 &&& x4)))), (11, .int ((((x9 + (((tur x6 6) ^^^ (tur x6 11)) ^^^ (tur x6 25))) + ((x6 &&& x7) ^^^ ((x6 ^^^ ((-1))) &&& x8))) + (S2 0 i3)) + (S2 9 i3))), (10, .int (nI i3)), (2, .int x2), (3, .int x3), (0, .ref y), (1, .int (nI fr))]) hx hb dX4_mix_359 hl (by decide) rfl (fun ls hl => ?_)
                    refine lv_iload_n hx hb dX4_mix_361 rfl (lv_at hl 9 rfl) ?_
                    refine lv_istore_n (lv' := [(3, .int x2), (4, .int x3), (5, .int x4), (6, .int (x5 + ((((x9 + (((tur x6 6) ^^^ (tur x6 11)) ^^^ (tur x6 25))) + ((x6 &&& x7) ^^^ ((x6 ^^^ ((-1))) &&& x8))) + (S2 0 i3)) + (S2 9 i3)))), (7, .int x6), (8, .int x7), (9, .int x8), (12, .int ((((tur x2 2) ^^^ (tur x2 13)) ^^^ (tur x2 22)) + (((x2 &&& x3) ^^^ (x2 &&& x4)) ^^^ (x3 &&& x4)))), (11, .int ((((x9 + (((tur x6 6) ^^^ (tur x6 11)) ^^^ (tur x6 25))) + ((x6 &&& x7) ^^^ ((x6 ^^^ ((-1))) &&& x8))) + (S2 0 i3)) + (S2 9 i3))), (10, .int (nI i3)), (2, .int x2), (0, .ref y), (1, .int (nI fr))]) hx hb dX4_mix_362 rfl hl (by decide) rfl (fun ls hl => ?_)
                    refine lv_iload hx hb dX4_mix_363 (lv_at hl 8 rfl) ?_
                    refine lv_iload hx hb dX4_mix_365 (lv_at hl 7 rfl) ?_
                    refine lv_iadd hx hb dX4_mix_367 ?_
                    refine lv_istore_n (lv' := [(2, .int (((((x9 + (((tur x6 6) ^^^ (tur x6 11)) ^^^ (tur x6 25))) + ((x6 &&& x7) ^^^ ((x6 ^^^ ((-1))) &&& x8))) + (S2 0 i3)) + (S2 9 i3)) + ((((tur x2 2) ^^^ (tur x2 13)) ^^^ (tur x2 22)) + (((x2 &&& x3) ^^^ (x2 &&& x4)) ^^^ (x3 &&& x4))))), (3, .int x2), (4, .int x3), (5, .int x4), (6, .int (x5 + ((((x9 + (((tur x6 6) ^^^ (tur x6 11)) ^^^ (tur x6 25))) + ((x6 &&& x7) ^^^ ((x6 ^^^ ((-1))) &&& x8))) + (S2 0 i3)) + (S2 9 i3)))), (7, .int x6), (8, .int x7), (9, .int x8), (12, .int ((((tur x2 2) ^^^ (tur x2 13)) ^^^ (tur x2 22)) + (((x2 &&& x3) ^^^ (x2 &&& x4)) ^^^ (x3 &&& x4)))), (11, .int ((((x9 + (((tur x6 6) ^^^ (tur x6 11)) ^^^ (tur x6 25))) + ((x6 &&& x7) ^^^ ((x6 ^^^ ((-1))) &&& x8))) + (S2 0 i3)) + (S2 9 i3))), (10, .int (nI i3)), (0, .ref y), (1, .int (nI fr))]) hx hb dX4_mix_368 rfl hl (by decide) rfl (fun ls hl => ?_)
                    refine lv_iinc (v := nI (i3 + 1)) (lv' := [(10, .int (nI (i3 + 1))), (2, .int (((((x9 + (((tur x6 6) ^^^ (tur x6 11)) ^^^ (tur x6 25))) + ((x6 &&& x7) ^^^ ((x6 ^^^ ((-1))) &&& x8))) + (S2 0 i3)) + (S2 9 i3)) + ((((tur x2 2) ^^^ (tur x2 13)) ^^^ (tur x2 22)) + (((x2 &&& x3) ^^^ (x2 &&& x4)) ^^^ (x3 &&& x4))))), (3, .int x2), (4, .int x3), (5, .int x4), (6, .int (x5 + ((((x9 + (((tur x6 6) ^^^ (tur x6 11)) ^^^ (tur x6 25))) + ((x6 &&& x7) ^^^ ((x6 ^^^ ((-1))) &&& x8))) + (S2 0 i3)) + (S2 9 i3)))), (7, .int x6), (8, .int x7), (9, .int x8), (12, .int ((((tur x2 2) ^^^ (tur x2 13)) ^^^ (tur x2 22)) + (((x2 &&& x3) ^^^ (x2 &&& x4)) ^^^ (x3 &&& x4)))), (11, .int ((((x9 + (((tur x6 6) ^^^ (tur x6 11)) ^^^ (tur x6 25))) + ((x6 &&& x7) ^^^ ((x6 ^^^ ((-1))) &&& x8))) + (S2 0 i3)) + (S2 9 i3))), (0, .ref y), (1, .int (nI fr))]) hx hb dX4_mix_369 hl (k := 10) rfl (inc_n rfl) (by decide) rfl (fun ls hl => ?_)
                    refine lv_goto (tgt := 235) hx hb dX4_mix_372 (by decide) ?_
                    refine ih (i3 + 1) _ _ _ _ _ _ _ _ H locs ls (by omega) (by omega) ?_ hm hS (lv_sub hl [0, 1, 2, 3, 4, 5, 6, 7, 8, 11, 12] rfl)
                    show _ = rdS (rdF (S2 9) (of8 (S 10)) i3) (kRound i3) (S2 9 i3)
                    rw [← hr, ← hk0 i3 (by omega), ← hoth2 0 (by decide)]
                    unfold rdS
                    simp only [Int32.add_assoc]
                    rfl
              exact lp3 65 0 _ _ _ _ _ _ _ _ H locs ls (by omega) (by omega) (by show _ = of8 (S 10); rw [← hoth2 10 (by decide)]; rfl) hm hS (lv_sub hl [0, 8, 7, 6, 5, 4, 3, 2, 1, 9, 10] rfl)
            · have c_74 : ¬ 64 ≤ (16 + u) := fun h9 => c_74 ((leN (a := 64) (b := 16 + u) rfl rfl (by decide) (by omega)).mpr h9)
              refine lv_aload_n hx hb dX4_mix_77 rfl (lv_at hl 1 rfl) ?_
              refine hr_get EE hm hRs 9 (by decide) wf_X4_103 (v := .ref (ad 9)) rfl dX4_mix_78 ?_
              refine lv_iload_n hx hb dX4_mix_81 rfl (lv_at hl 0 rfl) ?_
              refine lv_bipush (v := 15) hx hb dX4_mix_82 (by decide) ?_
              refine lv_isub hx hb dX4_mix_84 ?_
              refine hr_ald EE hm hRs 9 (1 + u) (by decide) (ix_sub (b := 15) (by omega)) (by show 1 + u < 64; omega) (by decide) dX4_mix_85 ?_
              refine lv_istore_n (lv' := [(3, .int (S2 9 (1 + u))), (2, .int (nI (16 + u))), (0, .ref y), (1, .int (nI fr))]) hx hb dX4_mix_86 rfl hl (by decide) rfl (fun ls hl => ?_)
              refine lv_aload_n hx hb dX4_mix_87 rfl (lv_at hl 2 rfl) ?_
              refine hr_get EE hm hRs 9 (by decide) wf_X4_103 (v := .ref (ad 9)) rfl dX4_mix_88 ?_
              refine lv_iload_n hx hb dX4_mix_91 rfl (lv_at hl 1 rfl) ?_
              refine lv_iconst (v := 2) hx hb dX4_mix_92 (by decide) ?_
              refine lv_isub hx hb dX4_mix_93 ?_
              refine hr_ald EE hm hRs 9 (14 + u) (by decide) (ix_sub (b := 2) (by omega)) (by show 14 + u < 64; omega) (by decide) dX4_mix_94 ?_
              refine lv_istore (lv' := [(4, .int (S2 9 (14 + u))), (3, .int (S2 9 (1 + u))), (2, .int (nI (16 + u))), (0, .ref y), (1, .int (nI fr))]) hx hb dX4_mix_95 hl (by decide) rfl (fun ls hl => ?_)
              refine lv_aload_n hx hb dX4_mix_97 rfl (lv_at hl 3 rfl) ?_
              refine hr_get EE hm hRs 9 (by decide) wf_X4_103 (v := .ref (ad 9)) rfl dX4_mix_98 ?_
              refine lv_iload_n hx hb dX4_mix_101 rfl (lv_at hl 2 rfl) ?_
              refine lv_aload_n hx hb dX4_mix_102 rfl (lv_at hl 3 rfl) ?_
              refine hr_get EE hm hRs 9 (by decide) wf_X4_103 (v := .ref (ad 9)) rfl dX4_mix_103 ?_
              refine lv_iload_n hx hb dX4_mix_106 rfl (lv_at hl 2 rfl) ?_
              refine lv_bipush (v := 16) hx hb dX4_mix_107 (by decide) ?_
              refine lv_isub hx hb dX4_mix_109 ?_
              refine hr_ald EE hm hRs 9 u (by decide) (ix_sub (b := 16) (by omega)) (by show u < 64; omega) (by decide) dX4_mix_110 ?_
              refine lv_iload_n hx hb dX4_mix_111 rfl (lv_at hl 1 rfl) ?_
              refine lv_bipush (v := 7) hx hb dX4_mix_112 (by decide) ?_
              refine hp_ci (hp_runS (np := 2) (k := 1) (mc := 0) (ms := 0) (As := [.int (S2 9 (1 + u)), .int 7]) (rest := [.int (S2 9 u), .int (nI (16 + u)), .ref (ad 9)]) EE hm hS (c_X4_turned l g M2 (S2 9 (1 + u)) 7) ms_X4_turned wt_X4_turned wl_X4_138 rfl hl.1 rfl (Nat.le_of_ble_eq_true rfl) dX4_mix_114 ⟨Nat.le_of_ble_eq_true rfl, Nat.le_of_ble_eq_true rfl⟩ ⟨(Nat.le_of_ble_eq_true rfl), (Nat.le_of_ble_eq_true rfl)⟩) hS (fun r35 Mx36 H locs hq37 hm hS => ?_)
              obtain ⟨rfl, h9⟩ := hq37
              rw [h9] at hm
              refine lv_iload_n hx hb dX4_mix_117 rfl (lv_at hl 1 rfl) ?_
              refine lv_bipush (v := 18) hx hb dX4_mix_118 (by decide) ?_
              refine hp_ci (hp_runS (np := 2) (k := 1) (mc := 0) (ms := 0) (As := [.int (S2 9 (1 + u)), .int 18]) (rest := [.int (tur (S2 9 (1 + u)) 7), .int (S2 9 u), .int (nI (16 + u)), .ref (ad 9)]) EE hm hS (c_X4_turned l g M2 (S2 9 (1 + u)) 18) ms_X4_turned wt_X4_turned wl_X4_138 rfl hl.1 rfl (Nat.le_of_ble_eq_true rfl) dX4_mix_120 ⟨Nat.le_of_ble_eq_true rfl, Nat.le_of_ble_eq_true rfl⟩ ⟨(Nat.le_of_ble_eq_true rfl), (Nat.le_of_ble_eq_true rfl)⟩) hS (fun r38 Mx39 H locs hq40 hm hS => ?_)
              obtain ⟨rfl, h9⟩ := hq40
              rw [h9] at hm
              refine lv_ixor hx hb dX4_mix_123 ?_
              refine lv_iload_n hx hb dX4_mix_124 rfl (lv_at hl 1 rfl) ?_
              refine lv_iconst (v := 3) hx hb dX4_mix_125 (by decide) ?_
              refine lv_iushr (v := ush (S2 9 (1 + u)) 3) hx hb dX4_mix_126 rfl ?_
              refine lv_ixor hx hb dX4_mix_127 ?_
              refine lv_iadd hx hb dX4_mix_128 ?_
              refine lv_aload_n hx hb dX4_mix_129 rfl (lv_at hl 3 rfl) ?_
              refine hr_get EE hm hRs 9 (by decide) wf_X4_103 (v := .ref (ad 9)) rfl dX4_mix_130 ?_
              refine lv_iload_n hx hb dX4_mix_133 rfl (lv_at hl 2 rfl) ?_
              refine lv_bipush (v := 7) hx hb dX4_mix_134 (by decide) ?_
              refine lv_isub hx hb dX4_mix_136 ?_
              refine hr_ald EE hm hRs 9 (9 + u) (by decide) (ix_sub (b := 7) (by omega)) (by show 9 + u < 64; omega) (by decide) dX4_mix_137 ?_
              refine lv_iadd hx hb dX4_mix_138 ?_
              refine lv_iload hx hb dX4_mix_139 (lv_at hl 0 rfl) ?_
              refine lv_bipush (v := 17) hx hb dX4_mix_141 (by decide) ?_
              refine hp_ci (hp_runS (np := 2) (k := 1) (mc := 0) (ms := 0) (As := [.int (S2 9 (14 + u)), .int 17]) (rest := [.int (((S2 9 u) + (((tur (S2 9 (1 + u)) 7) ^^^ (tur (S2 9 (1 + u)) 18)) ^^^ (ush (S2 9 (1 + u)) 3))) + (S2 9 (9 + u))), .int (nI (16 + u)), .ref (ad 9)]) EE hm hS (c_X4_turned l g M2 (S2 9 (14 + u)) 17) ms_X4_turned wt_X4_turned wl_X4_138 rfl hl.1 rfl (Nat.le_of_ble_eq_true rfl) dX4_mix_143 ⟨Nat.le_of_ble_eq_true rfl, Nat.le_of_ble_eq_true rfl⟩ ⟨(Nat.le_of_ble_eq_true rfl), (Nat.le_of_ble_eq_true rfl)⟩) hS (fun r41 Mx42 H locs hq43 hm hS => ?_)
              obtain ⟨rfl, h9⟩ := hq43
              rw [h9] at hm
              refine lv_iload hx hb dX4_mix_146 (lv_at hl 0 rfl) ?_
              refine lv_bipush (v := 19) hx hb dX4_mix_148 (by decide) ?_
              refine hp_ci (hp_runS (np := 2) (k := 1) (mc := 0) (ms := 0) (As := [.int (S2 9 (14 + u)), .int 19]) (rest := [.int (tur (S2 9 (14 + u)) 17), .int (((S2 9 u) + (((tur (S2 9 (1 + u)) 7) ^^^ (tur (S2 9 (1 + u)) 18)) ^^^ (ush (S2 9 (1 + u)) 3))) + (S2 9 (9 + u))), .int (nI (16 + u)), .ref (ad 9)]) EE hm hS (c_X4_turned l g M2 (S2 9 (14 + u)) 19) ms_X4_turned wt_X4_turned wl_X4_138 rfl hl.1 rfl (Nat.le_of_ble_eq_true rfl) dX4_mix_150 ⟨Nat.le_of_ble_eq_true rfl, Nat.le_of_ble_eq_true rfl⟩ ⟨(Nat.le_of_ble_eq_true rfl), (Nat.le_of_ble_eq_true rfl)⟩) hS (fun r44 Mx45 H locs hq46 hm hS => ?_)
              obtain ⟨rfl, h9⟩ := hq46
              rw [h9] at hm
              refine lv_ixor hx hb dX4_mix_153 ?_
              refine lv_iload hx hb dX4_mix_154 (lv_at hl 0 rfl) ?_
              refine lv_bipush (v := 10) hx hb dX4_mix_156 (by decide) ?_
              refine lv_iushr (v := ush (S2 9 (14 + u)) 10) hx hb dX4_mix_158 rfl ?_
              refine lv_ixor hx hb dX4_mix_159 ?_
              refine lv_iadd hx hb dX4_mix_160 ?_
              refine hr_ast EE hm hS hRs hF 9 (16 + u) (by decide) rfl (by show 16 + u < 64; omega) (by decide) dX4_mix_161 (fun H locs Mx47 hm hS hRs hF => ?_)
              obtain ⟨Sx48, hSx48⟩ : ∃ z, z = sU S2 9 (16 + u) ((((S2 9 u) + (((tur (S2 9 (1 + u)) 7) ^^^ (tur (S2 9 (1 + u)) 18)) ^^^ (ush (S2 9 (1 + u)) 3))) + (S2 9 (9 + u))) + (((tur (S2 9 (14 + u)) 17) ^^^ (tur (S2 9 (14 + u)) 19)) ^^^ (ush (S2 9 (14 + u)) 10))) := ⟨_, rfl⟩
              rw [← hSx48] at hRs
              refine lv_iinc (v := nI (16 + u + 1)) (lv' := [(2, .int (nI (16 + u + 1))), (4, .int (S2 9 (14 + u))), (3, .int (S2 9 (1 + u))), (0, .ref y), (1, .int (nI fr))]) hx hb dX4_mix_162 hl (k := 2) rfl (inc_n rfl) (by decide) rfl (fun ls hl => ?_)
              refine lv_goto (tgt := 71) hx hb dX4_mix_165 (by decide) ?_
              refine ih (u + 1) Mx47 Sx48 H locs ls (by omega) (by omega) (fun k9 hk9 => by rw [hSx48, sU_o hk9]; exact hoth2 k9 hk9) (fun j hj => ?_) hRs hF hm hS (lv_sub hl [0, 3, 4] rfl)
              show _ = upd (schF _ u) (16 + u) _ j
              by_cases t : j = 16 + u
              · subst t; rw [hSx48, sU_i, pk_us, ← hw2 (14 + u) (by omega), ← hw2 (9 + u) (by omega), ← hw2 (1 + u) (by omega), ← hw2 u (by omega)]; exact rev4 _ _ _ _
              · rw [hSx48, sU_n t, pk_un t]; exact hw2 j (by omega)
        exact lp2 49 0 M1 S1 H locs ls (by omega) (by omega) hoth (fun j hj => hw1 j (by omega)) hRs hF hm hS (lv_sub hl [0, 1, 2] rfl)
      · have c_5 : ¬ 16 ≤ i := fun h9 => c_5 ((leN (a := 16) (b := i) rfl rfl (by decide) (by omega)).mpr h9)
        refine lv_iload_n hx hb dX4_mix_8 rfl (lv_at hl 2 rfl) ?_
        refine lv_iconst (v := 4) hx hb dX4_mix_9 (by decide) ?_
        refine lv_iload_n hx hb dX4_mix_10 rfl (lv_at hl 0 rfl) ?_
        refine lv_imul hx hb dX4_mix_11 ?_
        refine lv_iadd hx hb dX4_mix_12 ?_
        refine lv_istore_n (lv' := [(3, .int ((nI fr) + (4 * (nI i)))), (2, .int (nI i)), (0, .ref y), (1, .int (nI fr))]) hx hb dX4_mix_13 rfl hl (by decide) rfl (fun ls hl => ?_)
        refine lv_aload_n hx hb dX4_mix_14 rfl (lv_at hl 2 rfl) ?_
        refine hr_get EE hm hRs 9 (by decide) wf_X4_103 (v := .ref (ad 9)) rfl dX4_mix_15 ?_
        refine lv_iload_n hx hb dX4_mix_18 rfl (lv_at hl 1 rfl) ?_
        refine lv_aload_n hx hb dX4_mix_19 rfl (lv_at hl 2 rfl) ?_
        refine hr_get EE hm hRs 8 (by decide) wf_X4_100 (v := .ref (ad 8)) rfl dX4_mix_20 ?_
        refine lv_iload_n hx hb dX4_mix_23 rfl (lv_at hl 0 rfl) ?_
        refine hr_ald EE hm hRs 8 (fr + (4 * i)) (by decide) (add_n rfl (mul_n rfl rfl)) (by show fr + (4 * i) < 128; omega) (by decide) dX4_mix_24 ?_
        refine lv_bipush (v := 24) hx hb dX4_mix_25 (by decide) ?_
        refine lv_ishl hx hb dX4_mix_27 ?_
        refine lv_aload_n hx hb dX4_mix_28 rfl (lv_at hl 2 rfl) ?_
        refine hr_get EE hm hRs 8 (by decide) wf_X4_100 (v := .ref (ad 8)) rfl dX4_mix_29 ?_
        refine lv_iload_n hx hb dX4_mix_32 rfl (lv_at hl 0 rfl) ?_
        refine lv_iconst (v := 1) hx hb dX4_mix_33 (by decide) ?_
        refine lv_iadd hx hb dX4_mix_34 ?_
        refine hr_ald EE hm hRs 8 ((fr + (4 * i)) + 1) (by decide) (add_n (add_n rfl (mul_n rfl rfl)) rfl) (by show (fr + (4 * i)) + 1 < 128; omega) (by decide) dX4_mix_35 ?_
        refine lv_bipush (v := 16) hx hb dX4_mix_36 (by decide) ?_
        refine lv_ishl hx hb dX4_mix_38 ?_
        refine lv_ior hx hb dX4_mix_39 ?_
        refine lv_aload_n hx hb dX4_mix_40 rfl (lv_at hl 2 rfl) ?_
        refine hr_get EE hm hRs 8 (by decide) wf_X4_100 (v := .ref (ad 8)) rfl dX4_mix_41 ?_
        refine lv_iload_n hx hb dX4_mix_44 rfl (lv_at hl 0 rfl) ?_
        refine lv_iconst (v := 2) hx hb dX4_mix_45 (by decide) ?_
        refine lv_iadd hx hb dX4_mix_46 ?_
        refine hr_ald EE hm hRs 8 ((fr + (4 * i)) + 2) (by decide) (add_n (add_n rfl (mul_n rfl rfl)) rfl) (by show (fr + (4 * i)) + 2 < 128; omega) (by decide) dX4_mix_47 ?_
        refine lv_bipush (v := 8) hx hb dX4_mix_48 (by decide) ?_
        refine lv_ishl hx hb dX4_mix_50 ?_
        refine lv_ior hx hb dX4_mix_51 ?_
        refine lv_aload_n hx hb dX4_mix_52 rfl (lv_at hl 2 rfl) ?_
        refine hr_get EE hm hRs 8 (by decide) wf_X4_100 (v := .ref (ad 8)) rfl dX4_mix_53 ?_
        refine lv_iload_n hx hb dX4_mix_56 rfl (lv_at hl 0 rfl) ?_
        refine lv_iconst (v := 3) hx hb dX4_mix_57 (by decide) ?_
        refine lv_iadd hx hb dX4_mix_58 ?_
        refine hr_ald EE hm hRs 8 ((fr + (4 * i)) + 3) (by decide) (add_n (add_n rfl (mul_n rfl rfl)) rfl) (by show (fr + (4 * i)) + 3 < 128; omega) (by decide) dX4_mix_59 ?_
        refine lv_ior hx hb dX4_mix_60 ?_
        refine hr_ast EE hm hS hRs hF 9 i (by decide) rfl (by show i < 64; omega) (by decide) dX4_mix_61 (fun H locs Mx49 hm hS hRs hF => ?_)
        obtain ⟨Sx50, hSx50⟩ : ∃ z, z = sU S1 9 i (((((S1 8 (fr + (4 * i))) <<< (24 &&& 31)) ||| ((S1 8 ((fr + (4 * i)) + 1)) <<< (16 &&& 31))) ||| ((S1 8 ((fr + (4 * i)) + 2)) <<< (8 &&& 31))) ||| (S1 8 ((fr + (4 * i)) + 3))) := ⟨_, rfl⟩
        rw [← hSx50] at hRs
        refine lv_iinc (v := nI (i + 1)) (lv' := [(2, .int (nI (i + 1))), (3, .int ((nI fr) + (4 * (nI i)))), (0, .ref y), (1, .int (nI fr))]) hx hb dX4_mix_62 hl (k := 1) rfl (inc_n rfl) (by decide) rfl (fun ls hl => ?_)
        refine lv_goto (tgt := 2) hx hb dX4_mix_65 (by decide) ?_
        refine ih (i + 1) Mx49 Sx50 H locs ls (by omega) (by omega) (fun k9 hk9 => by rw [hSx50, sU_o hk9]; exact hoth k9 hk9) (fun j hj => ?_) hRs hF hm hS (lv_sub hl [0, 2, 3] rfl)
        by_cases t : j = i
        · subst t; rw [hSx50, sU_i]; unfold wB; rw [hoth 8 (by decide)]
        · rw [hSx50, sU_n t]; exact hw1 j (by omega)
  exact lp 17 0 M S H locs ls (by omega) (by omega) (fun _ _ => rfl) (fun j h => absurd h (Nat.not_lt_zero j)) hRs hF hm hS (lv_sub hl [0, 1, 2] rfl)
set_option maxHeartbeats 4000000 in
set_option maxRecDepth 100000 in
theorem c_X4_digest (l : Launch) (g : hG) (M : hM) (y : Nat) (ad : Nat → Nat) (S : Nat → Nat → Int32) (V : Nat → Int32) (hRs : RS g M y ad S V) (hk0 : ∀ j, j < 64 → S 0 j = kRound j) (hk1 : ∀ j, j < 8 → S 1 j = kStart j) (nn bl : Nat) (hi lo : Int32) (hcs : dcs nn bl hi lo) : Cv l g yX4_digest cX4_digest 4 3 0 0 [.ref y, .int (nI nn)] M (fun M9 => ∃ S9, RS g M9 y ad S9 V ∧ (∀ q, ¬ rO y ad q → M9 q = M q) ∧ (∀ k9, k9 ≠ 8 → k9 ≠ 9 → k9 ≠ 10 → S9 k9 = S k9) ∧ (∀ q, q < nn → S9 8 q = S 8 q) ∧ ∀ j, j < 8 → S9 10 j = shN (clB (S 8) nn (64 * bl) hi lo) bl j) := by
  have hnb : nn + 9 ≤ 64 * bl ∧ 1 ≤ bl ∧ bl ≤ 2 := by rcases hcs with ⟨a, b, -⟩ | ⟨a, b, -⟩ <;> rw [a, b] <;> decide
  have hbl : ((nI nn + 9) + 63) / 64 = nI bl := by rcases hcs with ⟨a, b, -⟩ | ⟨a, b, -⟩ <;> rw [a, b] <;> decide
  have hhi : ((8 * nI nn) >>> ((8 : Int32) &&& 31)) &&& 255 = hi := by rcases hcs with ⟨a, b, c9, -⟩ | ⟨a, b, c9, -⟩ <;> rw [a, c9] <;> decide
  have hlo : (8 * nI nn) &&& 255 = lo := by rcases hcs with ⟨a, b, -, c9⟩ | ⟨a, b, -, c9⟩ <;> rw [a, c9] <;> decide
  refine hp_startV (by decide) (by exact Nat.le_of_ble_eq_true rfl) ?_
  intro p e s m below meth c Q H locs ls EE hnm ret hm hS hl
  have hx := EE.1
  have hb := EE.2.1
  have hown := EE.2.2.2.1
  have hts := EE.2.2.2.2.1
  have hl : lv_has ls 4 [(0, .ref y), (1, .int (nI nn))] := hl
  have hF : ∀ q, ¬ rO y ad q → M q = M q := fun _ _ => rfl
  refine lv_iload_n hx hb dX4_digest_0 rfl (lv_at hl 1 rfl) ?_
  refine lv_bipush (v := 9) hx hb dX4_digest_1 (by decide) ?_
  refine lv_iadd hx hb dX4_digest_3 ?_
  refine lv_bipush (v := 63) hx hb dX4_digest_4 (by decide) ?_
  refine lv_iadd hx hb dX4_digest_6 ?_
  refine lv_bipush (v := 64) hx hb dX4_digest_7 (by decide) ?_
  refine lv_idiv hx hb dX4_digest_9 (by decide) ?_
  rw [hbl]
  refine lv_istore_n (lv' := [(2, .int (nI bl)), (0, .ref y), (1, .int (nI nn))]) hx hb dX4_digest_10 rfl hl (by decide) rfl (fun ls hl => ?_)
  refine lv_iload_n hx hb dX4_digest_11 rfl (lv_at hl 2 rfl) ?_
  refine lv_istore_n (lv' := [(3, .int (nI nn)), (2, .int (nI bl)), (0, .ref y), (1, .int (nI nn))]) hx hb dX4_digest_12 rfl hl (by decide) rfl (fun ls hl => ?_)
  have lp : ∀ (n k : Nat) (M1 : hM) (S1 : Nat → Nat → Int32)   (H : Heap) (locs : List Loc) (ls : Array Slot), 64 * bl + 1 ≤ k + n → nn ≤ k → k ≤ 64 * bl → (∀ k9, k9 ≠ 8 → S1 k9 = S k9) → (∀ q, q < nn → S1 8 q = S 8 q) → (∀ q, nn ≤ q → q < k → S1 8 q = if q = nn then 128 else 0) → RS g M1 y ad S1 V → (∀ q, ¬ rO y ad q → M1 q = M q) → hp g M1 H → va_S (hA g) s.heap H locs → lv_has ls 4 [(3, .int (nI k)), (2, .int (nI bl)), (0, .ref y), (1, .int (nI nn))] → W p l e (hR 3 0 0) s m [.ref y, .int (nI nn)].toArray below meth c H locs 0 0 Q (F0 m 13 ls []) := by
    intro n
    induction n with
    | zero => intro k M1 S1 H locs ls hn hk hk2 hoth hlow hz; exact absurd hn (by omega)
    | succ n ih =>
      intro k M1 S1 H locs ls hn hk hk2 hoth hlow hz hRs hF hm hS hl
      refine lv_iload_n hx hb dX4_digest_13 rfl (lv_at hl 0 rfl) ?_
      refine lv_bipush (v := 64) hx hb dX4_digest_14 (by decide) ?_
      refine lv_iload_n hx hb dX4_digest_16 rfl (lv_at hl 1 rfl) ?_
      refine lv_imul hx hb dX4_digest_17 ?_
      refine lv_icmp_ge (tgt := 45) hx hb dX4_digest_18 (by decide) (fun c_18 => ?_) (fun c_18 => ?_)
      · have c_18 : (64 * bl) ≤ k := (leN (a := 64 * bl) (b := k) (mul_n rfl rfl) rfl (by omega) (by omega)).mp c_18
        refine lv_aload_n hx hb dX4_digest_45 rfl (lv_at hl 2 rfl) ?_
        refine hr_get EE hm hRs 8 (by decide) wf_X4_100 (v := .ref (ad 8)) rfl dX4_digest_46 ?_
        refine lv_bipush (v := 64) hx hb dX4_digest_49 (by decide) ?_
        refine lv_iload_n hx hb dX4_digest_51 rfl (lv_at hl 1 rfl) ?_
        refine lv_imul hx hb dX4_digest_52 ?_
        refine lv_iconst (v := 2) hx hb dX4_digest_53 (by decide) ?_
        refine lv_isub hx hb dX4_digest_54 ?_
        refine lv_bipush (v := 8) hx hb dX4_digest_55 (by decide) ?_
        refine lv_iload_n hx hb dX4_digest_57 rfl (lv_at hl 3 rfl) ?_
        refine lv_imul hx hb dX4_digest_58 ?_
        refine lv_bipush (v := 8) hx hb dX4_digest_59 (by decide) ?_
        refine lv_ishr hx hb dX4_digest_61 ?_
        refine lv_sipush (v := 255) hx hb dX4_digest_62 (by decide) ?_
        refine lv_iand hx hb dX4_digest_65 ?_
        rw [hhi]
        refine hr_ast EE hm hS hRs hF 8 ((64 * bl) - 2) (by decide) (sub_n (mul_n rfl rfl) rfl (by omega)) (by show (64 * bl) - 2 < 128; omega) (by decide) dX4_digest_66 (fun H locs Mx1 hm hS hRs hF => ?_)
        obtain ⟨Sx2, hSx2⟩ : ∃ z, z = sU S1 8 ((64 * bl) - 2) hi := ⟨_, rfl⟩
        rw [← hSx2] at hRs
        refine lv_aload_n hx hb dX4_digest_67 rfl (lv_at hl 2 rfl) ?_
        refine hr_get EE hm hRs 8 (by decide) wf_X4_100 (v := .ref (ad 8)) rfl dX4_digest_68 ?_
        refine lv_bipush (v := 64) hx hb dX4_digest_71 (by decide) ?_
        refine lv_iload_n hx hb dX4_digest_73 rfl (lv_at hl 1 rfl) ?_
        refine lv_imul hx hb dX4_digest_74 ?_
        refine lv_iconst (v := 1) hx hb dX4_digest_75 (by decide) ?_
        refine lv_isub hx hb dX4_digest_76 ?_
        refine lv_bipush (v := 8) hx hb dX4_digest_77 (by decide) ?_
        refine lv_iload_n hx hb dX4_digest_79 rfl (lv_at hl 3 rfl) ?_
        refine lv_imul hx hb dX4_digest_80 ?_
        refine lv_sipush (v := 255) hx hb dX4_digest_81 (by decide) ?_
        refine lv_iand hx hb dX4_digest_84 ?_
        rw [hlo]
        refine hr_ast EE hm hS hRs hF 8 ((64 * bl) - 1) (by decide) (sub_n (mul_n rfl rfl) rfl (by omega)) (by show (64 * bl) - 1 < 128; omega) (by decide) dX4_digest_85 (fun H locs Mx3 hm hS hRs hF => ?_)
        obtain ⟨Sx4, hSx4⟩ : ∃ z, z = sU Sx2 8 ((64 * bl) - 1) lo := ⟨_, rfl⟩
        rw [← hSx4] at hRs
        have hB : ∀ q, q < 64 * bl → Sx4 8 q = clB (S 8) nn (64 * bl) hi lo q := fun q hq => by
          unfold clB
          by_cases t1 : q = 64 * bl - 1
          · subst t1; rw [hSx4, sU_i, if_neg (by omega), if_neg (by omega), if_neg (by omega), if_pos rfl]
          · rw [hSx4, sU_n t1]
            by_cases t2 : q = 64 * bl - 2
            · subst t2; rw [hSx2, sU_i, if_neg (by omega), if_neg (by omega), if_pos rfl]
            · rw [hSx2, sU_n t2]
              by_cases t3 : q < nn
              · rw [if_pos t3]; exact hlow q t3
              · rw [if_neg t3, hz q (by omega) (by omega)]
                by_cases t4 : q = nn
                · rw [if_pos t4, if_pos t4]
                · rw [if_neg t4, if_neg t4, if_neg t2, if_neg t1]
        have hox : ∀ k9, k9 ≠ 8 → Sx4 k9 = S k9 := fun k9 hk9 => by rw [hSx4, sU_o hk9, hSx2, sU_o hk9]; exact hoth k9 hk9
        refine lv_iconst (v := 0) hx hb dX4_digest_86 (by decide) ?_
        refine lv_istore_n (lv' := [(3, .int 0), (2, .int (nI bl)), (0, .ref y), (1, .int (nI nn))]) hx hb dX4_digest_87 rfl hl (by decide) rfl (fun ls hl => ?_)
        have lp2 : ∀ (n u : Nat) (M2 : hM) (S2 : Nat → Nat → Int32)   (H : Heap) (locs : List Loc) (ls : Array Slot), 9 ≤ u + n → u ≤ 8 → (∀ k9, k9 ≠ 10 → S2 k9 = Sx4 k9) → (∀ j, j < u → S2 10 j = kStart j) → RS g M2 y ad S2 V → (∀ q, ¬ rO y ad q → M2 q = M q) → hp g M2 H → va_S (hA g) s.heap H locs → lv_has ls 4 [(3, .int (nI u)), (2, .int (nI bl)), (0, .ref y), (1, .int (nI nn))] → W p l e (hR 3 0 0) s m [.ref y, .int (nI nn)].toArray below meth c H locs 0 0 Q (F0 m 88 ls []) := by
          intro n
          induction n with
          | zero => intro u M2 S2 H locs ls hn2 hu hoth2 hst; exact absurd hn2 (by omega)
          | succ n ih =>
            intro u M2 S2 H locs ls hn2 hu hoth2 hst hRs hF hm hS hl
            refine lv_iload_n hx hb dX4_digest_88 rfl (lv_at hl 0 rfl) ?_
            refine lv_bipush (v := 8) hx hb dX4_digest_89 (by decide) ?_
            refine lv_icmp_ge (tgt := 112) hx hb dX4_digest_91 (by decide) (fun c_91 => ?_) (fun c_91 => ?_)
            · have c_91 : 8 ≤ u := (leN (a := 8) (b := u) rfl rfl (by decide) (by omega)).mp c_91
              refine lv_iconst (v := 0) hx hb dX4_digest_112 (by decide) ?_
              refine lv_istore_n (lv' := [(3, .int 0), (2, .int (nI bl)), (0, .ref y), (1, .int (nI nn))]) hx hb dX4_digest_113 rfl hl (by decide) rfl (fun ls hl => ?_)
              have lp3 : ∀ (n b : Nat) (M3 : hM) (S3 : Nat → Nat → Int32)   (H : Heap) (locs : List Loc) (ls : Array Slot), bl + 1 ≤ b + n → b ≤ bl → (∀ k9, k9 ≠ 9 → k9 ≠ 10 → S3 k9 = Sx4 k9) → (∀ j, j < 8 → S3 10 j = shN (clB (S 8) nn (64 * bl) hi lo) b j) → RS g M3 y ad S3 V → (∀ q, ¬ rO y ad q → M3 q = M q) → hp g M3 H → va_S (hA g) s.heap H locs → lv_has ls 4 [(3, .int (nI b)), (2, .int (nI bl)), (0, .ref y), (1, .int (nI nn))] → W p l e (hR 3 0 0) s m [.ref y, .int (nI nn)].toArray below meth c H locs 0 0 Q (F0 m 114 ls []) := by
                intro n
                induction n with
                | zero => intro b M3 S3 H locs ls hn3 hb3 hoth3 hsh; exact absurd hn3 (by omega)
                | succ n ih =>
                  intro b M3 S3 H locs ls hn3 hb3 hoth3 hsh hRs hF hm hS hl
                  refine lv_iload_n hx hb dX4_digest_114 rfl (lv_at hl 0 rfl) ?_
                  refine lv_iload_n hx hb dX4_digest_115 rfl (lv_at hl 1 rfl) ?_
                  refine lv_icmp_ge (tgt := 133) hx hb dX4_digest_116 (by decide) (fun c_116 => ?_) (fun c_116 => ?_)
                  · have c_116 : bl ≤ b := (leN (a := bl) (b := b) rfl rfl (by omega) (by omega)).mp c_116
                    exact ret dX4_digest_133 hm hS (Nat.le_of_ble_eq_true rfl) (Nat.le_of_ble_eq_true rfl) (⟨S3, hRs, hF, (fun k9 h8 h9 h10 => by rw [hoth3 k9 h9 h10]; exact hox k9 h8), (fun q hq => by rw [hoth3 8 (by decide) (by decide), hB q (by omega)]; unfold clB; rw [if_pos hq]), fun j hj => by rw [show b = bl by omega] at hsh; exact hsh j hj⟩)
                  · have c_116 : ¬ bl ≤ b := fun h9 => c_116 ((leN (a := bl) (b := b) rfl rfl (by omega) (by omega)).mpr h9)
                    refine lv_aload_n hx hb dX4_digest_119 rfl (lv_at hl 2 rfl) ?_
                    refine lv_bipush (v := 64) hx hb dX4_digest_120 (by decide) ?_
                    refine lv_iload_n hx hb dX4_digest_122 rfl (lv_at hl 0 rfl) ?_
                    refine lv_imul hx hb dX4_digest_123 ?_
                    rw [mul_n (x := 64) (y := nI b) (a := 64) (b := b) rfl rfl]
                    refine hp_cv (hp_runV (C := RX4) (T := TX4) (N := 24) (np := 1) (k := 2) (mc := 0) (ms := 0) (As := [.int (nI (64 * b))]) (rest := []) EE hm hS (c_X4_mix l g M3 y ad S3 V hRs (fun j hj => by rw [hoth3 0 (by decide) (by decide), hox 0 (by decide)]; exact hk0 j hj) (fun j hj => by rw [hoth3 1 (by decide) (by decide), hox 1 (by decide)]; exact hk1 j hj) (64 * b) (by omega)) ms_X4_mix wi_X4_mix ws_X4_mix wl_X4_142 hRs.1 rfl rfl hl.1 rfl (Nat.le_of_ble_eq_true rfl) dX4_digest_124 ⟨Nat.le_of_ble_eq_true rfl, Nat.le_of_ble_eq_true rfl⟩ ⟨(Nat.le_of_ble_eq_true rfl), (Nat.le_of_ble_eq_true rfl)⟩) hS (fun Mx5 H locs hq6 hm hS => ?_)
                    obtain ⟨S4, hRs, hF4, ho4, hh4⟩ := hq6
                    have hF : ∀ q, ¬ rO y ad q → Mx5 q = M q := fun q hq => (hF4 q hq).trans (hF q hq)
                    refine lv_iinc (v := nI (b + 1)) (lv' := [(3, .int (nI (b + 1))), (2, .int (nI bl)), (0, .ref y), (1, .int (nI nn))]) hx hb dX4_digest_127 hl (k := 0) rfl (inc_n rfl) (by decide) rfl (fun ls hl => ?_)
                    refine lv_goto (tgt := 114) hx hb dX4_digest_130 (by decide) ?_
                    refine ih (b + 1) Mx5 S4 H locs ls (by omega) (by omega) (fun k9 h9 h10 => by rw [ho4 k9 h9 h10]; exact hoth3 k9 h9 h10) (fun j hj => ?_) hRs hF hm hS (lv_sub hl [0, 1, 2, 3] rfl)
                    rw [hh4 j hj]
                    show _ = shaB (shN (clB (S 8) nn (64 * bl) hi lo) b) (wB (clB (S 8) nn (64 * bl) hi lo) (64 * b)) j
                    exact shaB_w hsh (fun t ht => by rw [hoth3 8 (by decide) (by decide)]; exact wB_w (fun q h1 h2 => hB q (by omega)) ht) hj
              exact lp3 (bl + 1) 0 M2 S2 H locs ls (by omega) (by omega) (fun k9 _ h10 => hoth2 k9 h10) (fun j hj => hst j (by omega)) hRs hF hm hS (lv_sub hl [0, 1, 2, 3] rfl)
            · have c_91 : ¬ 8 ≤ u := fun h9 => c_91 ((leN (a := 8) (b := u) rfl rfl (by decide) (by omega)).mpr h9)
              refine lv_aload_n hx hb dX4_digest_94 rfl (lv_at hl 2 rfl) ?_
              refine hr_get EE hm hRs 10 (by decide) wf_X4_106 (v := .ref (ad 10)) rfl dX4_digest_95 ?_
              refine lv_iload_n hx hb dX4_digest_98 rfl (lv_at hl 0 rfl) ?_
              refine lv_aload_n hx hb dX4_digest_99 rfl (lv_at hl 2 rfl) ?_
              refine hr_get EE hm hRs 1 (by decide) wf_X4_85 (v := .ref (ad 1)) rfl dX4_digest_100 ?_
              refine lv_iload_n hx hb dX4_digest_103 rfl (lv_at hl 0 rfl) ?_
              refine hr_ald EE hm hRs 1 u (by decide) rfl (by show u < 8; omega) (by decide) dX4_digest_104 ?_
              refine hr_ast EE hm hS hRs hF 10 u (by decide) rfl (by show u < 8; omega) (by decide) dX4_digest_105 (fun H locs Mx7 hm hS hRs hF => ?_)
              obtain ⟨Sx8, hSx8⟩ : ∃ z, z = sU S2 10 u (S2 1 u) := ⟨_, rfl⟩
              rw [← hSx8] at hRs
              refine lv_iinc (v := nI (u + 1)) (lv' := [(3, .int (nI (u + 1))), (2, .int (nI bl)), (0, .ref y), (1, .int (nI nn))]) hx hb dX4_digest_106 hl (k := 0) rfl (inc_n rfl) (by decide) rfl (fun ls hl => ?_)
              refine lv_goto (tgt := 88) hx hb dX4_digest_109 (by decide) ?_
              refine ih (u + 1) Mx7 Sx8 H locs ls (by omega) (by omega) (fun k9 hk9 => by rw [hSx8, sU_o hk9]; exact hoth2 k9 hk9) (fun j hj => ?_) hRs hF hm hS (lv_sub hl [0, 1, 2, 3] rfl)
              by_cases t : j = u
              · subst t; rw [hSx8, sU_i, hoth2 1 (by decide), hox 1 (by decide)]; exact hk1 j (by omega)
              · rw [hSx8, sU_n t]; exact hst j (by omega)
        exact lp2 9 0 Mx3 Sx4 H locs ls (by omega) (by omega) (fun _ _ => rfl) (fun j h => absurd h (Nat.not_lt_zero j)) hRs hF hm hS (lv_sub hl [0, 1, 2, 3] rfl)
      · have c_18 : ¬ (64 * bl) ≤ k := fun h9 => c_18 ((leN (a := 64 * bl) (b := k) (mul_n rfl rfl) rfl (by omega) (by omega)).mpr h9)
        refine lv_aload_n hx hb dX4_digest_21 rfl (lv_at hl 2 rfl) ?_
        refine hr_get EE hm hRs 8 (by decide) wf_X4_100 (v := .ref (ad 8)) rfl dX4_digest_22 ?_
        refine lv_iload_n hx hb dX4_digest_25 rfl (lv_at hl 0 rfl) ?_
        refine lv_iload_n hx hb dX4_digest_26 rfl (lv_at hl 0 rfl) ?_
        refine lv_iload_n hx hb dX4_digest_27 rfl (lv_at hl 3 rfl) ?_
        refine lv_icmp_ne (tgt := 37) hx hb dX4_digest_28 (by decide) (fun c_28 => ?_) (fun c_28 => ?_)
        · have c_28 : ¬ k = nn := fun h9 => c_28 ((eqN (a := k) (b := nn) rfl rfl (by omega) (by omega)).mpr h9)
          refine lv_iconst (v := 0) hx hb dX4_digest_37 (by decide) ?_
          refine hr_ast EE hm hS hRs hF 8 k (by decide) rfl (by show k < 128; omega) (by decide) dX4_digest_38 (fun H locs Mx9 hm hS hRs hF => ?_)
          obtain ⟨Sx10, hSx10⟩ : ∃ z, z = sU S1 8 k 0 := ⟨_, rfl⟩
          rw [← hSx10] at hRs
          refine lv_iinc (v := nI (k + 1)) (lv' := [(3, .int (nI (k + 1))), (2, .int (nI bl)), (0, .ref y), (1, .int (nI nn))]) hx hb dX4_digest_39 hl (k := 0) rfl (inc_n rfl) (by decide) rfl (fun ls hl => ?_)
          refine lv_goto (tgt := 13) hx hb dX4_digest_42 (by decide) ?_
          refine ih (k + 1) Mx9 Sx10 H locs ls (by omega) (by omega) (by omega) (fun k9 hk9 => by rw [hSx10, sU_o hk9]; exact hoth k9 hk9) (fun q hq => by rw [hSx10, sU_n (by omega)]; exact hlow q hq) (fun q h1 h2 => ?_) hRs hF hm hS (lv_sub hl [0, 1, 2, 3] rfl)
          by_cases t : q = k
          · subst t; rw [hSx10, sU_i]; first | rw [if_pos c_28] | rw [if_neg c_28]
          · rw [hSx10, sU_n t]; exact hz q h1 (by omega)
        · have c_28 : k = nn := (eqN (a := k) (b := nn) rfl rfl (by omega) (by omega)).mp c_28
          refine lv_sipush (v := 128) hx hb dX4_digest_31 (by decide) ?_
          refine lv_goto (tgt := 38) hx hb dX4_digest_34 (by decide) ?_
          refine hr_ast EE hm hS hRs hF 8 k (by decide) rfl (by show k < 128; omega) (by decide) dX4_digest_38 (fun H locs Mx11 hm hS hRs hF => ?_)
          obtain ⟨Sx12, hSx12⟩ : ∃ z, z = sU S1 8 k 128 := ⟨_, rfl⟩
          rw [← hSx12] at hRs
          refine lv_iinc (v := nI (k + 1)) (lv' := [(3, .int (nI (k + 1))), (2, .int (nI bl)), (0, .ref y), (1, .int (nI nn))]) hx hb dX4_digest_39 hl (k := 0) rfl (inc_n rfl) (by decide) rfl (fun ls hl => ?_)
          refine lv_goto (tgt := 13) hx hb dX4_digest_42 (by decide) ?_
          refine ih (k + 1) Mx11 Sx12 H locs ls (by omega) (by omega) (by omega) (fun k9 hk9 => by rw [hSx12, sU_o hk9]; exact hoth k9 hk9) (fun q hq => by rw [hSx12, sU_n (by omega)]; exact hlow q hq) (fun q h1 h2 => ?_) hRs hF hm hS (lv_sub hl [0, 1, 2, 3] rfl)
          by_cases t : q = k
          · subst t; rw [hSx12, sU_i]; first | rw [if_pos c_28] | rw [if_neg c_28]
          · rw [hSx12, sU_n t]; exact hz q h1 (by omega)
  exact lp (64 * bl + 1) nn M S H locs ls (by omega) (Nat.le_refl _) (by omega) (fun _ _ => rfl) (fun _ _ => rfl) (fun q h1 h2 => absurd h1 (by omega)) hRs hF hm hS (lv_sub hl [0, 1, 2, 3] rfl)
set_option maxHeartbeats 4000000 in
set_option maxRecDepth 100000 in
theorem c_X4_leaf (l : Launch) (g : hG) (M : hM) (y : Nat) (ad : Nat → Nat) (S : Nat → Nat → Int32) (V : Nat → Int32) (hRs : RS g M y ad S V) (hk0 : ∀ j, j < 64 → S 0 j = kRound j) (hk1 : ∀ j, j < 8 → S 1 j = kStart j) (kn : Nat) (hkn : kn < 65536) (v0 : Int32) : Cv l g yX4_leaf cX4_leaf 4 4 0 0 [.ref y, .int (nI kn), .int v0] M (fun M9 => ∃ S9, RS g M9 y ad S9 V ∧ (∀ q, ¬ rO y ad q → M9 q = M q) ∧ (∀ k9, k9 ≠ 8 → k9 ≠ 9 → k9 ≠ 10 → S9 k9 = S k9) ∧ ∀ j, j < 8 → S9 10 j = hLeaf (nI kn) v0 j) := by
  refine hp_startV (by decide) (by exact Nat.le_of_ble_eq_true rfl) ?_
  intro p e s m below meth c Q H locs ls EE hnm ret hm hS hl
  have hx := EE.1
  have hb := EE.2.1
  have hown := EE.2.2.2.1
  have hts := EE.2.2.2.2.1
  have hl : lv_has ls 4 [(0, .ref y), (1, .int (nI kn)), (2, .int v0)] := hl
  have hF : ∀ q, ¬ rO y ad q → M q = M q := fun _ _ => rfl
  refine lv_aload_n hx hb dX4_leaf_0 rfl (lv_at hl 0 rfl) ?_
  refine hr_get EE hm hRs 8 (by decide) wf_X4_100 (v := .ref (ad 8)) rfl dX4_leaf_1 ?_
  refine lv_iconst (v := 0) hx hb dX4_leaf_4 (by decide) ?_
  refine lv_iconst (v := 0) hx hb dX4_leaf_5 (by decide) ?_
  refine hr_ast EE hm hS hRs hF 8 0 (by decide) rfl (by decide) (by decide) dX4_leaf_6 (fun H locs Mx1 hm hS hRs hF => ?_)
  obtain ⟨Sx2, hSx2⟩ : ∃ z, z = sU S 8 0 0 := ⟨_, rfl⟩
  rw [← hSx2] at hRs
  refine lv_aload_n hx hb dX4_leaf_7 rfl (lv_at hl 0 rfl) ?_
  refine hr_get EE hm hRs 8 (by decide) wf_X4_100 (v := .ref (ad 8)) rfl dX4_leaf_8 ?_
  refine lv_iconst (v := 1) hx hb dX4_leaf_11 (by decide) ?_
  refine lv_iload_n hx hb dX4_leaf_12 rfl (lv_at hl 1 rfl) ?_
  refine lv_bipush (v := 8) hx hb dX4_leaf_13 (by decide) ?_
  refine lv_ishr hx hb dX4_leaf_15 ?_
  refine hr_ast EE hm hS hRs hF 8 1 (by decide) rfl (by decide) (by decide) dX4_leaf_16 (fun H locs Mx3 hm hS hRs hF => ?_)
  obtain ⟨Sx4, hSx4⟩ : ∃ z, z = sU Sx2 8 1 ((nI kn) >>> (8 &&& 31)) := ⟨_, rfl⟩
  rw [← hSx4] at hRs
  refine lv_aload_n hx hb dX4_leaf_17 rfl (lv_at hl 0 rfl) ?_
  refine hr_get EE hm hRs 8 (by decide) wf_X4_100 (v := .ref (ad 8)) rfl dX4_leaf_18 ?_
  refine lv_iconst (v := 2) hx hb dX4_leaf_21 (by decide) ?_
  refine lv_iload_n hx hb dX4_leaf_22 rfl (lv_at hl 1 rfl) ?_
  refine lv_sipush (v := 255) hx hb dX4_leaf_23 (by decide) ?_
  refine lv_iand hx hb dX4_leaf_26 ?_
  refine hr_ast EE hm hS hRs hF 8 2 (by decide) rfl (by decide) (by decide) dX4_leaf_27 (fun H locs Mx5 hm hS hRs hF => ?_)
  obtain ⟨Sx6, hSx6⟩ : ∃ z, z = sU Sx4 8 2 ((nI kn) &&& 255) := ⟨_, rfl⟩
  rw [← hSx6] at hRs
  have e0 : Sx6 8 0 = 0 := by rw [hSx6, sU_n (by decide), hSx4, sU_n (by decide), hSx2, sU_i]
  have e1 : Sx6 8 1 = nI kn >>> ((8 : Int32) &&& 31) := by rw [hSx6, sU_n (by decide), hSx4, sU_i]
  have e2 : Sx6 8 2 = nI kn &&& 255 := by rw [hSx6, sU_i]
  have hoA : ∀ k9, k9 ≠ 8 → Sx6 k9 = S k9 := fun k9 h8 => by rw [hSx6, sU_o h8, hSx4, sU_o h8, hSx2, sU_o h8]
  refine lv_iconst (v := 0) hx hb dX4_leaf_28 (by decide) ?_
  refine lv_istore_n (lv' := [(3, .int 0), (0, .ref y), (1, .int (nI kn)), (2, .int v0)]) hx hb dX4_leaf_29 rfl hl (by decide) rfl (fun ls hl => ?_)
  have lp : ∀ (n i : Nat) (M1 : hM) (S1 : Nat → Nat → Int32)   (H : Heap) (locs : List Loc) (ls : Array Slot), 5 ≤ i + n → i ≤ 4 → (∀ k9, k9 ≠ 8 → S1 k9 = Sx6 k9) → (∀ q, q < 3 → S1 8 q = Sx6 8 q) → (∀ j, j < i → S1 8 (3 + j) = byt v0 j) → RS g M1 y ad S1 V → (∀ q, ¬ rO y ad q → M1 q = M q) → hp g M1 H → va_S (hA g) s.heap H locs → lv_has ls 4 [(3, .int (nI i)), (0, .ref y), (1, .int (nI kn)), (2, .int v0)] → W p l e (hR 4 0 0) s m [.ref y, .int (nI kn), .int v0].toArray below meth c H locs 0 0 Q (F0 m 30 ls []) := by
    intro n
    induction n with
    | zero => intro i M1 S1 H locs ls hn hi hoth hlow hv; exact absurd hn (by omega)
    | succ n ih =>
      intro i M1 S1 H locs ls hn hi hoth hlow hv hRs hF hm hS hl
      refine lv_iload_n hx hb dX4_leaf_30 rfl (lv_at hl 0 rfl) ?_
      refine lv_iconst (v := 4) hx hb dX4_leaf_31 (by decide) ?_
      refine lv_icmp_ge (tgt := 62) hx hb dX4_leaf_32 (by decide) (fun c_32 => ?_) (fun c_32 => ?_)
      · have c_32 : 4 ≤ i := (leN (a := 4) (b := i) rfl rfl (by decide) (by omega)).mp c_32
        refine lv_aload_n hx hb dX4_leaf_62 rfl (lv_at hl 1 rfl) ?_
        refine lv_bipush (v := 7) hx hb dX4_leaf_63 (by decide) ?_
        refine hp_cv (hp_runV (C := RX4) (T := TX4) (N := 24) (np := 1) (k := 3) (mc := 0) (ms := 0) (As := [.int 7]) (rest := []) EE hm hS (c_X4_digest l g M1 y ad S1 V hRs (fun j hj => by rw [hoth 0 (by decide), hoA 0 (by decide)]; exact hk0 j hj) (fun j hj => by rw [hoth 1 (by decide), hoA 1 (by decide)]; exact hk1 j hj) 7 1 0 56 (Or.inl ⟨rfl, rfl, rfl, rfl⟩)) ms_X4_digest wi_X4_digest ws_X4_digest wl_X4_146 hRs.1 rfl rfl hl.1 rfl (Nat.le_of_ble_eq_true rfl) dX4_leaf_65 ⟨Nat.le_of_ble_eq_true rfl, Nat.le_of_ble_eq_true rfl⟩ ⟨(Nat.le_of_ble_eq_true rfl), (Nat.le_of_ble_eq_true rfl)⟩) hS (fun Mx7 H locs hq8 hm hS => ?_)
        obtain ⟨S7, hRs, hF7, ho7, hb7, hd7⟩ := hq8
        have hF : ∀ q, ¬ rO y ad q → Mx7 q = M q := fun q hq => (hF7 q hq).trans (hF q hq)
        have hw7 : ∀ t, t < 16 → wB (clB (S1 8) 7 (64 * 1) 0 56) (64 * 0) t = wLeaf (nI kn) v0 t := by
          have g0 := (hlow 0 (by decide)).trans e0
          have g1 := (hlow 1 (by decide)).trans e1
          have g2 := (hlow 2 (by decide)).trans e2
          have g3 := hv 0 (by omega)
          have g4 := hv 1 (by omega)
          have g5 := hv 2 (by omega)
          have g6 := hv 3 (by omega)
          intro t ht
          have z24 := shl0 24
          have z16 := shl0 16
          have z8 := shl0 8
          rcases (show t = 0 ∨ t = 1 ∨ t = 15 ∨ (1 < t ∧ t < 15) by omega) with h | h | h | h
          · subst h
            show (((S1 8 0 <<< ((24 : Int32) &&& 31)) ||| (S1 8 1 <<< ((16 : Int32) &&& 31))) ||| (S1 8 2 <<< ((8 : Int32) &&& 31))) ||| S1 8 (3 + 0) = _
            rw [g0, g1, g2, g3, show (0 : Int32) <<< ((24 : Int32) &&& 31) = 0 from by decide, key4 hkn]
            rfl
          · subst h
            show (((S1 8 (3 + 1) <<< ((24 : Int32) &&& 31)) ||| (S1 8 (3 + 2) <<< ((16 : Int32) &&& 31))) ||| (S1 8 (3 + 3) <<< ((8 : Int32) &&& 31))) ||| 128 = _
            rw [g4, g5, g6, last3]
            rfl
          · subst h
            show ((((0 : Int32) <<< ((24 : Int32) &&& 31)) ||| ((0 : Int32) <<< ((16 : Int32) &&& 31))) ||| ((0 : Int32) <<< ((8 : Int32) &&& 31))) ||| 56 = 56
            decide
          · unfold wB clB wLeaf
            simp only [if_neg (show ¬ 64 * 0 + 4 * t < 7 by omega), if_neg (show ¬ 64 * 0 + 4 * t = 7 by omega), if_neg (show ¬ 64 * 0 + 4 * t = 64 * 1 - 2 by omega), if_neg (show ¬ 64 * 0 + 4 * t = 64 * 1 - 1 by omega), if_neg (show ¬ 64 * 0 + 4 * t + 1 < 7 by omega), if_neg (show ¬ 64 * 0 + 4 * t + 1 = 7 by omega), if_neg (show ¬ 64 * 0 + 4 * t + 1 = 64 * 1 - 2 by omega), if_neg (show ¬ 64 * 0 + 4 * t + 1 = 64 * 1 - 1 by omega), if_neg (show ¬ 64 * 0 + 4 * t + 2 < 7 by omega), if_neg (show ¬ 64 * 0 + 4 * t + 2 = 7 by omega), if_neg (show ¬ 64 * 0 + 4 * t + 2 = 64 * 1 - 2 by omega), if_neg (show ¬ 64 * 0 + 4 * t + 2 = 64 * 1 - 1 by omega), if_neg (show ¬ 64 * 0 + 4 * t + 3 < 7 by omega), if_neg (show ¬ 64 * 0 + 4 * t + 3 = 7 by omega), if_neg (show ¬ 64 * 0 + 4 * t + 3 = 64 * 1 - 2 by omega), if_neg (show ¬ 64 * 0 + 4 * t + 3 = 64 * 1 - 1 by omega), if_neg (show ¬ t = 0 by omega), if_neg (show ¬ t = 1 by omega), if_neg (show ¬ t = 15 by omega)]
            decide
        exact ret dX4_leaf_68 hm hS (Nat.le_of_ble_eq_true rfl) (Nat.le_of_ble_eq_true rfl) (⟨S7, hRs, hF, (fun k9 h8 h9 h10 => by rw [ho7 k9 h8 h9 h10, hoth k9 h8, hoA k9 h8]), fun j hj => by
          rw [hd7 j hj]
          show shaB kStart (wB (clB (S1 8) 7 (64 * 1) 0 56) (64 * 0)) j = _
          exact shaB_w (fun _ _ => rfl) hw7 hj⟩)
      · have c_32 : ¬ 4 ≤ i := fun h9 => c_32 ((leN (a := 4) (b := i) rfl rfl (by decide) (by omega)).mpr h9)
        refine lv_aload_n hx hb dX4_leaf_35 rfl (lv_at hl 1 rfl) ?_
        refine hr_get EE hm hRs 8 (by decide) wf_X4_100 (v := .ref (ad 8)) rfl dX4_leaf_36 ?_
        refine lv_iconst (v := 3) hx hb dX4_leaf_39 (by decide) ?_
        refine lv_iload_n hx hb dX4_leaf_40 rfl (lv_at hl 0 rfl) ?_
        refine lv_iadd hx hb dX4_leaf_41 ?_
        refine lv_iload_n hx hb dX4_leaf_42 rfl (lv_at hl 3 rfl) ?_
        refine lv_bipush (v := 24) hx hb dX4_leaf_43 (by decide) ?_
        refine lv_bipush (v := 8) hx hb dX4_leaf_45 (by decide) ?_
        refine lv_iload_n hx hb dX4_leaf_47 rfl (lv_at hl 0 rfl) ?_
        refine lv_imul hx hb dX4_leaf_48 ?_
        refine lv_isub hx hb dX4_leaf_49 ?_
        refine lv_ishr hx hb dX4_leaf_50 ?_
        refine lv_sipush (v := 255) hx hb dX4_leaf_51 (by decide) ?_
        refine lv_iand hx hb dX4_leaf_54 ?_
        rw [show (24 : Int32) - 8 * nI i = nI (24 - 8 * i) from sub_n (a := 24) rfl (mul_n (a := 8) rfl rfl) (by omega)]
        have hbyt : (v0 >>> (nI (24 - 8 * i) &&& 31)) &&& 255 = byt v0 i := rfl
        rw [hbyt]
        refine hr_ast EE hm hS hRs hF 8 (3 + i) (by decide) (add_n rfl rfl) (by show 3 + i < 128; omega) (by decide) dX4_leaf_55 (fun H locs Mx9 hm hS hRs hF => ?_)
        obtain ⟨Sx10, hSx10⟩ : ∃ z, z = sU S1 8 (3 + i) (byt v0 i) := ⟨_, rfl⟩
        rw [← hSx10] at hRs
        refine lv_iinc (v := nI (i + 1)) (lv' := [(3, .int (nI (i + 1))), (0, .ref y), (1, .int (nI kn)), (2, .int v0)]) hx hb dX4_leaf_56 hl (k := 0) rfl (inc_n rfl) (by decide) rfl (fun ls hl => ?_)
        refine lv_goto (tgt := 30) hx hb dX4_leaf_59 (by decide) ?_
        refine ih (i + 1) Mx9 Sx10 H locs ls (by omega) (by omega) (fun k9 hk9 => by rw [hSx10, sU_o hk9]; exact hoth k9 hk9) (fun q hq => by rw [hSx10, sU_n (by omega)]; exact hlow q hq) (fun j hj => ?_) hRs hF hm hS (lv_sub hl [0, 1, 2, 3] rfl)
        by_cases t : j = i
        · subst t; rw [hSx10, sU_i]
        · rw [hSx10, sU_n (by omega)]; exact hv j (by omega)
  exact lp 5 0 Mx5 Sx6 H locs ls (by omega) (by omega) (fun _ _ => rfl) (fun _ _ => rfl) (fun j h => absurd h (Nat.not_lt_zero j)) hRs hF hm hS (lv_sub hl [0, 1, 2, 3] rfl)
set_option maxHeartbeats 4000000 in
set_option maxRecDepth 100000 in
theorem c_X4_half (l : Launch) (g : hG) (M : hM) (y : Nat) (ad : Nat → Nat) (S : Nat → Nat → Int32) (V : Nat → Int32) (hRs : RS g M y ad S V) (sd wi : Nat) (hsd : sd < 2) (hwi : wi < 8) (w0 : Int32) : Cv l g yX4_half cX4_half 5 1 0 0 [.ref y, .int (nI sd), .int (nI wi), .int w0] M (fun M9 => ∃ S9, RS g M9 y ad S9 V ∧ (∀ q, ¬ rO y ad q → M9 q = M q) ∧ (∀ k9, k9 ≠ 8 → S9 k9 = S k9) ∧ (∀ q, (q < 1 + 32 * sd + 4 * wi ∨ 1 + 32 * sd + 4 * wi + 4 ≤ q) → S9 8 q = S 8 q) ∧ ∀ j, j < 4 → S9 8 (1 + 32 * sd + 4 * wi + j) = byt w0 j) := by
  refine hp_startV (by decide) (by exact Nat.le_of_ble_eq_true rfl) ?_
  intro p e s m below meth c Q H locs ls EE hnm ret hm hS hl
  have hx := EE.1
  have hb := EE.2.1
  have hown := EE.2.2.2.1
  have hts := EE.2.2.2.2.1
  have hl : lv_has ls 5 [(0, .ref y), (1, .int (nI sd)), (2, .int (nI wi)), (3, .int w0)] := hl
  have hF : ∀ q, ¬ rO y ad q → M q = M q := fun _ _ => rfl
  refine lv_iconst (v := 0) hx hb dX4_half_0 (by decide) ?_
  refine lv_istore (lv' := [(4, .int 0), (0, .ref y), (1, .int (nI sd)), (2, .int (nI wi)), (3, .int w0)]) hx hb dX4_half_1 hl (by decide) rfl (fun ls hl => ?_)
  have lp : ∀ (n i : Nat) (M1 : hM) (S1 : Nat → Nat → Int32)   (H : Heap) (locs : List Loc) (ls : Array Slot), 5 ≤ i + n → i ≤ 4 → (∀ k9, k9 ≠ 8 → S1 k9 = S k9) → (∀ q, (q < 1 + 32 * sd + 4 * wi ∨ 1 + 32 * sd + 4 * wi + 4 ≤ q) → S1 8 q = S 8 q) → (∀ j, j < i → S1 8 (1 + 32 * sd + 4 * wi + j) = byt w0 j) → RS g M1 y ad S1 V → (∀ q, ¬ rO y ad q → M1 q = M q) → hp g M1 H → va_S (hA g) s.heap H locs → lv_has ls 5 [(4, .int (nI i)), (0, .ref y), (1, .int (nI sd)), (2, .int (nI wi)), (3, .int w0)] → W p l e (hR 1 0 0) s m [.ref y, .int (nI sd), .int (nI wi), .int w0].toArray below meth c H locs 0 0 Q (F0 m 3 ls []) := by
    intro n
    induction n with
    | zero => intro i M1 S1 H locs ls hn hi hoth hlow hv; exact absurd hn (by omega)
    | succ n ih =>
      intro i M1 S1 H locs ls hn hi hoth hlow hv hRs hF hm hS hl
      refine lv_iload hx hb dX4_half_3 (lv_at hl 0 rfl) ?_
      refine lv_iconst (v := 4) hx hb dX4_half_5 (by decide) ?_
      refine lv_icmp_ge (tgt := 47) hx hb dX4_half_6 (by decide) (fun c_6 => ?_) (fun c_6 => ?_)
      · have c_6 : 4 ≤ i := (leN (a := 4) (b := i) rfl rfl (by decide) (by omega)).mp c_6
        exact ret dX4_half_47 hm hS (Nat.le_of_ble_eq_true rfl) (Nat.le_of_ble_eq_true rfl) (⟨S1, hRs, hF, hoth, hlow, fun j hj => hv j (by omega)⟩)
      · have c_6 : ¬ 4 ≤ i := fun h9 => c_6 ((leN (a := 4) (b := i) rfl rfl (by decide) (by omega)).mpr h9)
        refine lv_aload_n hx hb dX4_half_9 rfl (lv_at hl 1 rfl) ?_
        refine hr_get EE hm hRs 8 (by decide) wf_X4_100 (v := .ref (ad 8)) rfl dX4_half_10 ?_
        refine lv_iconst (v := 1) hx hb dX4_half_13 (by decide) ?_
        refine lv_bipush (v := 32) hx hb dX4_half_14 (by decide) ?_
        refine lv_iload_n hx hb dX4_half_16 rfl (lv_at hl 2 rfl) ?_
        refine lv_imul hx hb dX4_half_17 ?_
        refine lv_iadd hx hb dX4_half_18 ?_
        refine lv_iconst (v := 4) hx hb dX4_half_19 (by decide) ?_
        refine lv_iload_n hx hb dX4_half_20 rfl (lv_at hl 3 rfl) ?_
        refine lv_imul hx hb dX4_half_21 ?_
        refine lv_iadd hx hb dX4_half_22 ?_
        refine lv_iload hx hb dX4_half_23 (lv_at hl 0 rfl) ?_
        refine lv_iadd hx hb dX4_half_25 ?_
        refine lv_iload_n hx hb dX4_half_26 rfl (lv_at hl 4 rfl) ?_
        refine lv_bipush (v := 24) hx hb dX4_half_27 (by decide) ?_
        refine lv_bipush (v := 8) hx hb dX4_half_29 (by decide) ?_
        refine lv_iload hx hb dX4_half_31 (lv_at hl 0 rfl) ?_
        refine lv_imul hx hb dX4_half_33 ?_
        refine lv_isub hx hb dX4_half_34 ?_
        refine lv_ishr hx hb dX4_half_35 ?_
        refine lv_sipush (v := 255) hx hb dX4_half_36 (by decide) ?_
        refine lv_iand hx hb dX4_half_39 ?_
        rw [show (24 : Int32) - 8 * nI i = nI (24 - 8 * i) from sub_n (a := 24) rfl (mul_n (a := 8) rfl rfl) (by omega)]
        have hbyt : (w0 >>> (nI (24 - 8 * i) &&& 31)) &&& 255 = byt w0 i := rfl
        rw [hbyt]
        refine hr_ast EE hm hS hRs hF 8 (((1 + (32 * sd)) + (4 * wi)) + i) (by decide) (add_n (add_n (add_n rfl (mul_n rfl rfl)) (mul_n rfl rfl)) rfl) (by show ((1 + (32 * sd)) + (4 * wi)) + i < 128; omega) (by decide) dX4_half_40 (fun H locs Mx1 hm hS hRs hF => ?_)
        obtain ⟨Sx2, hSx2⟩ : ∃ z, z = sU S1 8 (((1 + (32 * sd)) + (4 * wi)) + i) (byt w0 i) := ⟨_, rfl⟩
        rw [← hSx2] at hRs
        refine lv_iinc (v := nI (i + 1)) (lv' := [(4, .int (nI (i + 1))), (0, .ref y), (1, .int (nI sd)), (2, .int (nI wi)), (3, .int w0)]) hx hb dX4_half_41 hl (k := 0) rfl (inc_n rfl) (by decide) rfl (fun ls hl => ?_)
        refine lv_goto (tgt := 3) hx hb dX4_half_44 (by decide) ?_
        refine ih (i + 1) Mx1 Sx2 H locs ls (by omega) (by omega) (fun k9 hk9 => by rw [hSx2, sU_o hk9]; exact hoth k9 hk9) (fun q hq => by rw [hSx2, sU_n (by omega)]; exact hlow q hq) (fun j hj => ?_) hRs hF hm hS (lv_sub hl [0, 1, 2, 3, 4] rfl)
        by_cases t : j = i
        · subst t; rw [hSx2, sU_i]
        · rw [hSx2, sU_n (by omega)]; exact hv j (by omega)
  exact lp 5 0 M S H locs ls (by omega) (by omega) (fun _ _ => rfl) (fun _ _ => rfl) (fun j h => absurd h (Nat.not_lt_zero j)) hRs hF hm hS (lv_sub hl [0, 1, 2, 3, 4] rfl)
