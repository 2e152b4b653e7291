/-! the words of SHA-256, as both programs reckon them -/
def sE (x : Int32) : Int32 := (tur x 7 ^^^ tur x 18) ^^^ ush x 3
def sL (x : Int32) : Int32 := (tur x 17 ^^^ tur x 19) ^^^ ush x 10
def bE (x : Int32) : Int32 := (tur x 6 ^^^ tur x 11) ^^^ tur x 25
def bA (x : Int32) : Int32 := (tur x 2 ^^^ tur x 13) ^^^ tur x 22
def chF (x y z : Int32) : Int32 := (x &&& y) ^^^ ((x ^^^ (-1)) &&& z)
def mjF (x y z : Int32) : Int32 := ((x &&& y) ^^^ (x &&& z)) ^^^ (y &&& z)
/-- the schedule after n steps behind the sixteenth word -/
def schF (w : Nat → Int32) : Nat → Nat → Int32
  | 0 => w
  | n + 1 => upd (schF w n) (16 + n) (((sL (schF w n (14 + n)) + schF w n (9 + n)) + sE (schF w n (1 + n))) + schF w n n)
abbrev S8 : Type := Int32 × Int32 × Int32 × Int32 × Int32 × Int32 × Int32 × Int32
def rdS (t : S8) (k w : Int32) : S8 := match t with
  | (a, b, c, d, e, f, g, h) => (((((((h + bE e) + chF e f g) + k) + w) + bA a) + mjF a b c), a, b, c, d + ((((h + bE e) + chF e f g) + k) + w), e, f, g)
def rdF (w : Nat → Int32) (t : S8) : Nat → S8
  | 0 => t
  | n + 1 => rdS (rdF w t n) (kRound n) (w n)
def at8 (t : S8) (j : Nat) : Int32 := match t, j with
  | (a, _, _, _, _, _, _, _), 0 => a
  | (_, b, _, _, _, _, _, _), 1 => b
  | (_, _, c, _, _, _, _, _), 2 => c
  | (_, _, _, d, _, _, _, _), 3 => d
  | (_, _, _, _, e, _, _, _), 4 => e
  | (_, _, _, _, _, f, _, _), 5 => f
  | (_, _, _, _, _, _, g, _), 6 => g
  | (_, _, _, _, _, _, _, h), _ => h
def of8 (s : Nat → Int32) : S8 := (s 0, s 1, s 2, s 3, s 4, s 5, s 6, s 7)
/-- a block taken in -/
def shaB (s w : Nat → Int32) : Nat → Int32 := fun j => s j + at8 (rdF (schF w 48) (of8 s) 64) j
theorem lt8 {j : Nat} (h : j < 8) : j = 0 ∨ j = 1 ∨ j = 2 ∨ j = 3 ∨ j = 4 ∨ j = 5 ∨ j = 6 ∨ j = 7 := by omega
theorem schF_w {w w' : Nat → Int32} (h : ∀ j, j < 16 → w j = w' j) : ∀ n j, j < 16 + n → schF w n j = schF w' n j
  | 0, j, hj => h j hj
  | n + 1, j, hj => by
    have ih := schF_w h n
    unfold schF
    by_cases hq : j = 16 + n
    · subst hq
      rw [pk_us, pk_us, ih (14 + n) (by omega), ih (9 + n) (by omega), ih (1 + n) (by omega), ih n (by omega)]
    · rw [pk_un hq, pk_un hq, ih j (by omega)]
theorem rdF_w {w w' : Nat → Int32} (t : S8) : ∀ n, (∀ j, j < n → w j = w' j) → rdF w t n = rdF w' t n
  | 0, _ => rfl
  | n + 1, h => by
    show rdS (rdF w t n) (kRound n) (w n) = rdS (rdF w' t n) (kRound n) (w' n)
    rw [rdF_w t n (fun j hj => h j (by omega)), h n (by omega)]
theorem shaB_w {s s' w w' : Nat → Int32} (hs : ∀ j, j < 8 → s j = s' j) (h : ∀ j, j < 16 → w j = w' j) {j : Nat} (hj : j < 8) : shaB s w j = shaB s' w' j := by
  have e : of8 s = of8 s' := by unfold of8; rw [hs 0 (by omega), hs 1 (by omega), hs 2 (by omega), hs 3 (by omega), hs 4 (by omega), hs 5 (by omega), hs 6 (by omega), hs 7 (by omega)]
  show s j + at8 (rdF (schF w 48) (of8 s) 64) j = s' j + at8 (rdF (schF w' 48) (of8 s') 64) j
  rw [hs j hj, e, rdF_w (of8 s') 64 (fun i hi => schF_w h 48 i (by omega))]
set_option maxHeartbeats 4000000 in
set_option maxRecDepth 100000 in
theorem c_X3_copyWords (l : Launch) (g : hG) (M : hM) (a b : Nat) (f fb : Nat → Int32) (e_a : M a = some (aI g 8 f)) (e_b : M b = some (aI g 8 fb)) (hab : a ≠ b) : Cv l g yX3_copyWords cX3_copyWords 3 1 0 0 [.ref a, .ref b] M (fun M9 => ∃ f9, M9 b = some (aI g 8 f9) ∧ (∀ q, q ≠ b → M9 q = M q) ∧ ∀ j, j < 8 → f9 j = f j) := by
  refine hp_startV (by decide) (by exact Nat.le_of_ble_eq_true rfl) ?_
  intro p e s m below meth c Q H locs ls E hnm ret hm hS hl
  have hx := E.1
  have hb := E.2.1
  have hown := E.2.2.2.1
  have hts := E.2.2.2.2.1
  have hl : lv_has ls 3 [(0, .ref a), (1, .ref b)] := hl
  refine lv_iconst (v := 0) hx hb dX3_copyWords_0 (by decide) ?_
  refine lv_istore_n (lv' := [(2, .int 0), (0, .ref a), (1, .ref b)]) hx hb dX3_copyWords_1 rfl hl (by decide) rfl (fun ls hl => ?_)
  have lp : ∀ (n i : Nat) (M1 : hM) (f1 : Nat → Int32) (H : Heap) (locs : List Loc) (ls : Array Slot), 9 ≤ i + n → i ≤ 8 → M1 b = some (aI g 8 f1) → (∀ q, q ≠ b → M1 q = M q) → (∀ j, j < i → f1 j = f j) → hp g M1 H → va_S (hA g) s.heap H locs → lv_has ls 3 [(2, .int (nI i)), (0, .ref a), (1, .ref b)] → W p l e (hR 1 0 0) s m [.ref a, .ref b].toArray below meth c H locs 0 0 Q (F0 m 2 ls []) := by
    intro n
    induction n with
    | zero => intro i M1 f1 H locs ls hn hi e_b hfr hf; exact absurd hn (by omega)
    | succ n ih =>
      intro i M1 f1 H locs ls hn hi e_b hfr hf hm hS hl
      have e_a : M1 a = some (aI g 8 f) := (hfr a hab).trans e_a
      refine lv_iload_n hx hb dX3_copyWords_2 rfl (lv_at hl 0 rfl) ?_
      refine lv_bipush (v := 8) hx hb dX3_copyWords_3 (by decide) ?_
      refine lv_icmp_ge (tgt := 20) hx hb dX3_copyWords_5 (by decide) (fun c_5 => ?_) (fun c_5 => ?_)
      · have c_5 : 8 ≤ i := (nI_leI (a := 8) (b := i) (by decide) (by omega)).mp c_5
        exact ret dX3_copyWords_20 hm hS (Nat.le_of_ble_eq_true rfl) (Nat.le_of_ble_eq_true rfl) (⟨f1, e_b, hfr, fun j hj => hf j (by omega)⟩)
      · have c_5 : ¬ 8 ≤ i := fun h9 => c_5 ((nI_leI (a := 8) (b := i) (by decide) (by omega)).mpr h9)
        refine lv_aload_n hx hb dX3_copyWords_8 rfl (lv_at hl 2 rfl) ?_
        refine lv_iload_n hx hb dX3_copyWords_9 rfl (lv_at hl 0 rfl) ?_
        refine lv_aload_n hx hb dX3_copyWords_10 rfl (lv_at hl 1 rfl) ?_
        refine lv_iload_n hx hb dX3_copyWords_11 rfl (lv_at hl 0 rfl) ?_
        refine hp_ialdN E hm e_a i rfl (by omega) (by decide) dX3_copyWords_12 ?_
        refine hp_iastN E hm hS e_b i rfl (by omega) (by decide) dX3_copyWords_13 (fun H locs hm hS => ?_)
        obtain ⟨M1, hM1⟩ : ∃ M9, M9 = hm_up M1 b (aI g 8 (upd f1 i (f i))) := ⟨_, rfl⟩
        have hm : hp g M1 H := by rw [hM1]; exact hm
        have e_a : M1 a = some (aI g 8 f) := by rw [hM1]; exact up_at hab e_a
        have e_b : M1 b = some (aI g 8 (upd f1 i (f i))) := by rw [hM1]; exact up_eq
        refine lv_iinc (v := nI (i + 1)) (lv' := [(2, .int (nI (i + 1))), (0, .ref a), (1, .ref b)]) hx hb dX3_copyWords_14 hl (k := 0) rfl (nI_1 _) (by decide) rfl (fun ls hl => ?_)
        refine lv_goto (tgt := 2) hx hb dX3_copyWords_17 (by decide) ?_
        refine ih (i + 1) M1 _ H locs ls (by omega) (by omega) e_b (fun q hq => by rw [hM1, up_ne hq]; exact hfr q hq) (fun j hj => ?_) hm hS (lv_sub hl [0, 1, 2] rfl)
        rcases Nat.lt_or_eq_of_le (Nat.le_of_lt_succ hj) with q | q
        · rw [pk_un (by omega)]; exact hf j q
        · rw [q, pk_us]
  exact lp 9 0 M fb H locs ls (by omega) (by omega) e_b (fun _ _ => rfl) (fun j hj => absurd hj (Nat.not_lt_zero j)) hm hS (lv_sub hl [0, 1, 2] rfl)
set_option maxHeartbeats 4000000 in
set_option maxRecDepth 100000 in
theorem c_X3_copyWordsS (l : Launch) (g : hG) (M : hM) (b : Nat) (fb : Nat → Int32) (e_b : M b = some (aI g 8 fb)) : Cv l g yX3_copyWords cX3_copyWords 3 1 0 0 [.ref (gS g), .ref b] M (fun M9 => ∃ f9, M9 b = some (aI g 8 f9) ∧ (∀ q, q ≠ b → M9 q = M q) ∧ ∀ j, j < 8 → f9 j = kStart j) := by
  refine hp_startV (by decide) (by exact Nat.le_of_ble_eq_true rfl) ?_
  intro p e s m below meth c Q H locs ls E hnm ret hm hS hl
  have hx := E.1
  have hb := E.2.1
  have hown := E.2.2.2.1
  have hts := E.2.2.2.2.1
  have hl : lv_has ls 3 [(0, .ref (gS g)), (1, .ref b)] := hl
  refine lv_iconst (v := 0) hx hb dX3_copyWords_0 (by decide) ?_
  refine lv_istore_n (lv' := [(2, .int 0), (0, .ref (gS g)), (1, .ref b)]) hx hb dX3_copyWords_1 rfl hl (by decide) rfl (fun ls hl => ?_)
  have lp : ∀ (n i : Nat) (M1 : hM) (f1 : Nat → Int32) (H : Heap) (locs : List Loc) (ls : Array Slot), 9 ≤ i + n → i ≤ 8 → M1 b = some (aI g 8 f1) → (∀ q, q ≠ b → M1 q = M q) → (∀ j, j < i → f1 j = kStart j) → hp g M1 H → va_S (hA g) s.heap H locs → lv_has ls 3 [(2, .int (nI i)), (0, .ref (gS g)), (1, .ref b)] → W p l e (hR 1 0 0) s m [.ref (gS g), .ref b].toArray below meth c H locs 0 0 Q (F0 m 2 ls []) := by
    intro n
    induction n with
    | zero => intro i M1 f1 H locs ls hn hi e_b hfr hf; exact absurd hn (by omega)
    | succ n ih =>
      intro i M1 f1 H locs ls hn hi e_b hfr hf hm hS hl
      refine lv_iload_n hx hb dX3_copyWords_2 rfl (lv_at hl 0 rfl) ?_
      refine lv_bipush (v := 8) hx hb dX3_copyWords_3 (by decide) ?_
      refine lv_icmp_ge (tgt := 20) hx hb dX3_copyWords_5 (by decide) (fun c_5 => ?_) (fun c_5 => ?_)
      · have c_5 : 8 ≤ i := (nI_leI (a := 8) (b := i) (by decide) (by omega)).mp c_5
        exact ret dX3_copyWords_20 hm hS (Nat.le_of_ble_eq_true rfl) (Nat.le_of_ble_eq_true rfl) (⟨f1, e_b, hfr, fun j hj => hf j (by omega)⟩)
      · have c_5 : ¬ 8 ≤ i := fun h9 => c_5 ((nI_leI (a := 8) (b := i) (by decide) (by omega)).mpr h9)
        refine lv_aload_n hx hb dX3_copyWords_8 rfl (lv_at hl 2 rfl) ?_
        refine lv_iload_n hx hb dX3_copyWords_9 rfl (lv_at hl 0 rfl) ?_
        refine lv_aload_n hx hb dX3_copyWords_10 rfl (lv_at hl 1 rfl) ?_
        refine lv_iload_n hx hb dX3_copyWords_11 rfl (lv_at hl 0 rfl) ?_
        refine hp_ialdSN E hS i rfl (by omega) dX3_copyWords_12 ?_
        refine hp_iastN E hm hS e_b i rfl (by omega) (by decide) dX3_copyWords_13 (fun H locs hm hS => ?_)
        obtain ⟨M1, hM1⟩ : ∃ M9, M9 = hm_up M1 b (aI g 8 (upd f1 i (kStart i))) := ⟨_, rfl⟩
        have hm : hp g M1 H := by rw [hM1]; exact hm
        have e_b : M1 b = some (aI g 8 (upd f1 i (kStart i))) := by rw [hM1]; exact up_eq
        refine lv_iinc (v := nI (i + 1)) (lv' := [(2, .int (nI (i + 1))), (0, .ref (gS g)), (1, .ref b)]) hx hb dX3_copyWords_14 hl (k := 0) rfl (nI_1 _) (by decide) rfl (fun ls hl => ?_)
        refine lv_goto (tgt := 2) hx hb dX3_copyWords_17 (by decide) ?_
        refine ih (i + 1) M1 _ H locs ls (by omega) (by omega) e_b (fun q hq => by rw [hM1, up_ne hq]; exact hfr q hq) (fun j hj => ?_) hm hS (lv_sub hl [0, 1, 2] rfl)
        rcases Nat.lt_or_eq_of_le (Nat.le_of_lt_succ hj) with q | q
        · rw [pk_un (by omega)]; exact hf j q
        · rw [q, pk_us]
  exact lp 9 0 M fb H locs ls (by omega) (by omega) e_b (fun _ _ => rfl) (fun j hj => absurd hj (Nat.not_lt_zero j)) hm hS (lv_sub hl [0, 1, 2] rfl)
/-- the Hasher at h: its rows nm (zeros), ms, sc, sa, which hold these -/
def HS (g : hG) (M : hM) (h nm ms sc sa : Nat) (fm fs fa : Nat → Int32) : Prop := M h = some (.inr (0, [.ref nm, .ref ms, .ref sc, .ref sa])) ∧ M ms = some (aI g 32 fm) ∧ M sc = some (aI g 64 fs) ∧ M sa = some (aI g 8 fa) ∧ (∃ fn, M nm = some (aI g 8 fn) ∧ ∀ j, j < 8 → fn j = 0) ∧ ms ≠ sc ∧ ms ≠ sa ∧ sc ≠ sa ∧ nm ≠ ms ∧ nm ≠ sc ∧ nm ≠ sa
set_option maxHeartbeats 4000000 in
set_option maxRecDepth 100000 in
theorem c_X0_clearMessage (l : Launch) (g : hG) (M : hM) (h nm ms sc sa : Nat) (fm fs fa : Nat → Int32) (hH : HS g M h nm ms sc sa fm fs fa) : Cv l g yX0_clearMessage cX0_clearMessage 2 1 0 0 [.ref h] M (fun M9 => ∃ f9, M9 ms = some (aI g 32 f9) ∧ (∀ q, q ≠ ms → M9 q = M q) ∧ ∀ j, j < 32 → f9 j = 0) := by
  obtain ⟨e_h, e_ms, e_sc, e_sa, ⟨fn, e_nm, hz⟩, n_1, n_2, n_3, n_4, n_5, n_6⟩ := hH
  have n_0 : h ≠ ms := ne_lk e_h e_ms (by simp)
  refine hp_startV (by decide) (by exact Nat.le_of_ble_eq_true rfl) ?_
  intro p e s m below meth c Q H locs ls E hnm ret hm hS hl
  have hx := E.1
  have hb := E.2.1
  have hown := E.2.2.2.1
  have hts := E.2.2.2.2.1
  have hl : lv_has ls 2 [(0, .ref h)] := hl
  refine lv_iconst (v := 0) hx hb dX0_clearMessage_0 (by decide) ?_
  refine lv_istore_n (lv' := [(1, .int 0), (0, .ref h)]) hx hb dX0_clearMessage_1 rfl hl (by decide) rfl (fun ls hl => ?_)
  have lp : ∀ (n i : Nat) (M1 : hM) (f1 : Nat → Int32) (H : Heap) (locs : List Loc) (ls : Array Slot), 33 ≤ i + n → i ≤ 32 → M1 ms = some (aI g 32 f1) → (∀ q, q ≠ ms → M1 q = M q) → (∀ j, j < i → f1 j = 0) → hp g M1 H → va_S (hA g) s.heap H locs → lv_has ls 2 [(1, .int (nI i)), (0, .ref h)] → W p l e (hR 1 0 0) s m [.ref h].toArray below meth c H locs 0 0 Q (F0 m 2 ls []) := by
    intro n
    induction n with
    | zero => intro i M1 f1 H locs ls hn hi e_ms hfr hf; exact absurd hn (by omega)
    | succ n ih =>
      intro i M1 f1 H locs ls hn hi e_ms hfr hf hm hS hl
      have e_h : M1 h = some (.inr (0, [.ref nm, .ref ms, .ref sc, .ref sa])) := (hfr h n_0).trans e_h
      refine lv_iload_n hx hb dX0_clearMessage_2 rfl (lv_at hl 0 rfl) ?_
      refine lv_bipush (v := 32) hx hb dX0_clearMessage_3 (by decide) ?_
      refine lv_icmp_ge (tgt := 21) hx hb dX0_clearMessage_5 (by decide) (fun c_5 => ?_) (fun c_5 => ?_)
      · have c_5 : 32 ≤ i := (nI_leI (a := 32) (b := i) (by decide) (by omega)).mp c_5
        exact ret dX0_clearMessage_21 hm hS (Nat.le_of_ble_eq_true rfl) (Nat.le_of_ble_eq_true rfl) (⟨f1, e_ms, hfr, fun j hj => hf j (by omega)⟩)
      · have c_5 : ¬ 32 ≤ i := fun h9 => c_5 ((nI_leI (a := 32) (b := i) (by decide) (by omega)).mpr h9)
        refine lv_aload_n hx hb dX0_clearMessage_8 rfl (lv_at hl 1 rfl) ?_
        refine hp_get (C := RX0) (T := TX0) (N := 4) (v := .ref ms) E hm e_h inh0 rfl 1 (by decide) wf_X0_15 rfl dX0_clearMessage_9 ?_
        refine lv_iload_n hx hb dX0_clearMessage_12 rfl (lv_at hl 0 rfl) ?_
        refine lv_iconst (v := 0) hx hb dX0_clearMessage_13 (by decide) ?_
        refine hp_iastN E hm hS e_ms i rfl (by omega) (by decide) dX0_clearMessage_14 (fun H locs hm hS => ?_)
        obtain ⟨M1, hM1⟩ : ∃ M9, M9 = hm_up M1 ms (aI g 32 (upd f1 i 0)) := ⟨_, rfl⟩
        have hm : hp g M1 H := by rw [hM1]; exact hm
        have e_h : M1 h = some (.inr (0, [.ref nm, .ref ms, .ref sc, .ref sa])) := by rw [hM1]; exact up_at (ne_lk e_h e_ms (by simp)) e_h
        have e_ms : M1 ms = some (aI g 32 (upd f1 i 0)) := by rw [hM1]; exact up_eq
        refine lv_iinc (v := nI (i + 1)) (lv' := [(1, .int (nI (i + 1))), (0, .ref h)]) hx hb dX0_clearMessage_15 hl (k := 0) rfl (nI_1 _) (by decide) rfl (fun ls hl => ?_)
        refine lv_goto (tgt := 2) hx hb dX0_clearMessage_18 (by decide) ?_
        refine ih (i + 1) M1 _ H locs ls (by omega) (by omega) e_ms (fun q hq => by rw [hM1, up_ne hq]; exact hfr q hq) (fun j hj => ?_) hm hS (lv_sub hl [0, 1] rfl)
        rcases Nat.lt_or_eq_of_le (Nat.le_of_lt_succ hj) with q | q
        · rw [pk_un (by omega)]; exact hf j q
        · rw [q, pk_us]
  exact lp 33 0 M fm H locs ls (by omega) (by omega) e_ms (fun _ _ => rfl) (fun j hj => absurd hj (Nat.not_lt_zero j)) hm hS (lv_sub hl [0, 1] rfl)
set_option maxHeartbeats 4000000 in
set_option maxRecDepth 100000 in
theorem c_X0_start (l : Launch) (g : hG) (M : hM) (h nm ms sc sa : Nat) (fm fs fa : Nat → Int32) (hH : HS g M h nm ms sc sa fm fs fa) : Cv l g yX0_start cX0_start 1 2 0 0 [.ref h] M (fun M9 => ∃ f9, M9 sa = some (aI g 8 f9) ∧ (∀ q, q ≠ sa → M9 q = M q) ∧ ∀ j, j < 8 → f9 j = kStart j) := by
  obtain ⟨e_h, e_ms, e_sc, e_sa, ⟨fn, e_nm, hz⟩, n_1, n_2, n_3, n_4, n_5, n_6⟩ := hH
  refine hp_startV (by decide) (by exact Nat.le_of_ble_eq_true rfl) ?_
  intro p e s m below meth c Q H locs ls E hnm ret hm hS hl
  have hx := E.1
  have hb := E.2.1
  have hown := E.2.2.2.1
  have hts := E.2.2.2.2.1
  have hl : lv_has ls 1 [(0, .ref h)] := hl
  refine va_gets hx hb E.2.2.2.2.2.2.2.1 hS hown (hts _ wf_X0_39) (fun _ h => h) dX0_start_0 ?_
  refine lv_aload_n hx hb dX0_start_3 rfl (lv_at hl 0 rfl) ?_
  refine hp_get (C := RX0) (T := TX0) (N := 4) (v := .ref sa) E hm e_h inh0 rfl 3 (by decide) wf_X0_21 rfl dX0_start_4 ?_
  refine hp_cv (hp_runN (np := 2) (k := 1) (mc := 0) (ms := 0) (As := [.ref (gS g), .ref sa]) (rest := []) E hm hS (c_X3_copyWordsS l g M sa fa e_sa) ms_X3_copyWords wt_X3_copyWords E.2.2.2.2.2.2.2.2.2.2.2.2.2.2.1 rfl hl.1 rfl (Nat.le_of_ble_eq_true rfl) dX0_start_7 ⟨Nat.le_of_ble_eq_true rfl, Nat.le_of_ble_eq_true rfl⟩ ⟨(Nat.le_of_ble_eq_true rfl), (Nat.le_of_ble_eq_true rfl)⟩) hS (fun M1 H locs hq2 hm hS => ?_)
  exact ret dX0_start_10 hm hS (Nat.le_of_ble_eq_true rfl) (Nat.le_of_ble_eq_true rfl) (hq2)
