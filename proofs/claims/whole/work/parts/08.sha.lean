/-! the words of SHA-256, as both programs reckon them -/
def sE (x : Int32) : Int32 := (tur x 7 ^^^ tur x 18) ^^^ ush x 3
def sL (x : Int32) : Int32 := (tur x 17 ^^^ tur x 19) ^^^ ush x 10
def bE (x : Int32) : Int32 := (tur x 6 ^^^ tur x 11) ^^^ tur x 25
def bA (x : Int32) : Int32 := (tur x 2 ^^^ tur x 13) ^^^ tur x 22
def chF (x y z : Int32) : Int32 := (x &&& y) ^^^ ((x ^^^ (-1)) &&& z)
def mjF (x y z : Int32) : Int32 := ((x &&& y) ^^^ (x &&& z)) ^^^ (y &&& z)
/-- the schedule after n steps behind the sixteenth word -/
def schF (w : Nat → Int32) : Nat → Nat → Int32
  | 0 => w
  | n + 1 => upd (schF w n) (16 + n) (((sL (schF w n (14 + n)) + schF w n (9 + n)) + sE (schF w n (1 + n))) + schF w n n)
abbrev S8 : Type := Int32 × Int32 × Int32 × Int32 × Int32 × Int32 × Int32 × Int32
def rdS (t : S8) (k w : Int32) : S8 := match t with
  | (a, b, c, d, e, f, g, h) => (((((((h + bE e) + chF e f g) + k) + w) + bA a) + mjF a b c), a, b, c, d + ((((h + bE e) + chF e f g) + k) + w), e, f, g)
def rdF (w : Nat → Int32) (t : S8) : Nat → S8
  | 0 => t
  | n + 1 => rdS (rdF w t n) (kRound n) (w n)
def at8 (t : S8) (j : Nat) : Int32 := match t, j with
  | (a, _, _, _, _, _, _, _), 0 => a
  | (_, b, _, _, _, _, _, _), 1 => b
  | (_, _, c, _, _, _, _, _), 2 => c
  | (_, _, _, d, _, _, _, _), 3 => d
  | (_, _, _, _, e, _, _, _), 4 => e
  | (_, _, _, _, _, f, _, _), 5 => f
  | (_, _, _, _, _, _, g, _), 6 => g
  | (_, _, _, _, _, _, _, h), _ => h
def of8 (s : Nat → Int32) : S8 := (s 0, s 1, s 2, s 3, s 4, s 5, s 6, s 7)
/-- a block taken in -/
def shaB (s w : Nat → Int32) : Nat → Int32 := fun j => s j + at8 (rdF (schF w 48) (of8 s) 64) j
theorem lt8 {j : Nat} (h : j < 8) : j = 0 ∨ j = 1 ∨ j = 2 ∨ j = 3 ∨ j = 4 ∨ j = 5 ∨ j = 6 ∨ j = 7 := by omega
theorem schF_w {w w' : Nat → Int32} (h : ∀ j, j < 16 → w j = w' j) : ∀ n j, j < 16 + n → schF w n j = schF w' n j
  | 0, j, hj => h j hj
  | n + 1, j, hj => by
    have ih := schF_w h n
    unfold schF
    by_cases hq : j = 16 + n
    · subst hq
      rw [pk_us, pk_us, ih (14 + n) (by omega), ih (9 + n) (by omega), ih (1 + n) (by omega), ih n (by omega)]
    · rw [pk_un hq, pk_un hq, ih j (by omega)]
theorem rdF_w {w w' : Nat → Int32} (t : S8) : ∀ n, (∀ j, j < n → w j = w' j) → rdF w t n = rdF w' t n
  | 0, _ => rfl
  | n + 1, h => by
    show rdS (rdF w t n) (kRound n) (w n) = rdS (rdF w' t n) (kRound n) (w' n)
    rw [rdF_w t n (fun j hj => h j (by omega)), h n (by omega)]
theorem shaB_w {s s' w w' : Nat → Int32} (hs : ∀ j, j < 8 → s j = s' j) (h : ∀ j, j < 16 → w j = w' j) {j : Nat} (hj : j < 8) : shaB s w j = shaB s' w' j := by
  have e : of8 s = of8 s' := by unfold of8; rw [hs 0 (by omega), hs 1 (by omega), hs 2 (by omega), hs 3 (by omega), hs 4 (by omega), hs 5 (by omega), hs 6 (by omega), hs 7 (by omega)]
  show s j + at8 (rdF (schF w 48) (of8 s) 64) j = s' j + at8 (rdF (schF w' 48) (of8 s') 64) j
  rw [hs j hj, e, rdF_w (of8 s') 64 (fun i hi => schF_w h 48 i (by omega))]
set_option maxHeartbeats 4000000 in
set_option maxRecDepth 100000 in
theorem c_X3_copyWords (l : Launch) (g : hG) (M : hM) (a b : Nat) (f fb : Nat → Int32) (e_a : M a = some (aI g 8 f)) (e_b : M b = some (aI g 8 fb)) (hab : a ≠ b) : Cv l g yX3_copyWords cX3_copyWords 3 1 0 0 [.ref a, .ref b] M (fun M9 => ∃ f9, M9 b = some (aI g 8 f9) ∧ (∀ q, q ≠ b → M9 q = M q) ∧ ∀ j, j < 8 → f9 j = f j) := by
  refine hp_startV (by decide) (by exact Nat.le_of_ble_eq_true rfl) ?_
  intro p e s m below meth c Q H locs ls E hnm ret hm hS hl
  have hx := E.1
  have hb := E.2.1
  have hown := E.2.2.2.1
  have hts := E.2.2.2.2.1
  have hl : lv_has ls 3 [(0, .ref a), (1, .ref b)] := hl
  refine lv_iconst (v := 0) hx hb dX3_copyWords_0 (by decide) ?_
  refine lv_istore_n (lv' := [(2, .int 0), (0, .ref a), (1, .ref b)]) hx hb dX3_copyWords_1 rfl hl (by decide) rfl (fun ls hl => ?_)
  have lp : ∀ (n i : Nat) (M1 : hM) (f1 : Nat → Int32) (H : Heap) (locs : List Loc) (ls : Array Slot), 9 ≤ i + n → i ≤ 8 → M1 b = some (aI g 8 f1) → (∀ q, q ≠ b → M1 q = M q) → (∀ j, j < i → f1 j = f j) → hp g M1 H → va_S (hA g) s.heap H locs → lv_has ls 3 [(2, .int (nI i)), (0, .ref a), (1, .ref b)] → W p l e (hR 1 0 0) s m [.ref a, .ref b].toArray below meth c H locs 0 0 Q (F0 m 2 ls []) := by
    intro n
    induction n with
    | zero => intro i M1 f1 H locs ls hn hi e_b hfr hf; exact absurd hn (by omega)
    | succ n ih =>
      intro i M1 f1 H locs ls hn hi e_b hfr hf hm hS hl
      have e_a : M1 a = some (aI g 8 f) := (hfr a hab).trans e_a
      refine lv_iload_n hx hb dX3_copyWords_2 rfl (lv_at hl 0 rfl) ?_
      refine lv_bipush (v := 8) hx hb dX3_copyWords_3 (by decide) ?_
      refine lv_icmp_ge (tgt := 20) hx hb dX3_copyWords_5 (by decide) (fun c_5 => ?_) (fun c_5 => ?_)
      · have c_5 : 8 ≤ i := (nI_leI (a := 8) (b := i) (by decide) (by omega)).mp c_5
        exact ret dX3_copyWords_20 hm hS (Nat.le_of_ble_eq_true rfl) (Nat.le_of_ble_eq_true rfl) (⟨f1, e_b, hfr, fun j hj => hf j (by omega)⟩)
      · have c_5 : ¬ 8 ≤ i := fun h9 => c_5 ((nI_leI (a := 8) (b := i) (by decide) (by omega)).mpr h9)
        refine lv_aload_n hx hb dX3_copyWords_8 rfl (lv_at hl 2 rfl) ?_
        refine lv_iload_n hx hb dX3_copyWords_9 rfl (lv_at hl 0 rfl) ?_
        refine lv_aload_n hx hb dX3_copyWords_10 rfl (lv_at hl 1 rfl) ?_
        refine lv_iload_n hx hb dX3_copyWords_11 rfl (lv_at hl 0 rfl) ?_
        refine hp_ialdN E hm e_a i rfl (by omega) (by decide) dX3_copyWords_12 ?_
        refine hp_iastN E hm hS e_b i rfl (by omega) (by decide) dX3_copyWords_13 (fun H locs hm hS => ?_)
        obtain ⟨Mx1, hMx1⟩ : ∃ Mz, Mz = hm_up M1 b (aI g 8 (upd f1 i (f i))) := ⟨_, rfl⟩
        have hm : hp g Mx1 H := by rw [hMx1]; exact hm
        have e_a : Mx1 a = some (aI g 8 f) := by rw [hMx1]; exact up_at hab e_a
        have e_b : Mx1 b = some (aI g 8 (upd f1 i (f i))) := by rw [hMx1]; exact up_eq
        refine lv_iinc (v := nI (i + 1)) (lv' := [(2, .int (nI (i + 1))), (0, .ref a), (1, .ref b)]) hx hb dX3_copyWords_14 hl (k := 0) rfl (nI_1 _) (by decide) rfl (fun ls hl => ?_)
        refine lv_goto (tgt := 2) hx hb dX3_copyWords_17 (by decide) ?_
        refine ih (i + 1) Mx1 _ H locs ls (by omega) (by omega) e_b (fun q hq => by rw [hMx1, up_ne hq]; exact hfr q hq) (fun j hj => ?_) hm hS (lv_sub hl [0, 1, 2] rfl)
        rcases Nat.lt_or_eq_of_le (Nat.le_of_lt_succ hj) with q | q
        · rw [pk_un (by omega)]; exact hf j q
        · rw [q, pk_us]
  exact lp 9 0 M fb H locs ls (by omega) (by omega) e_b (fun _ _ => rfl) (fun j hj => absurd hj (Nat.not_lt_zero j)) hm hS (lv_sub hl [0, 1, 2] rfl)
set_option maxHeartbeats 4000000 in
set_option maxRecDepth 100000 in
theorem c_X3_copyWordsS (l : Launch) (g : hG) (M : hM) (b : Nat) (fb : Nat → Int32) (e_b : M b = some (aI g 8 fb)) : Cv l g yX3_copyWords cX3_copyWords 3 1 0 0 [.ref (gS g), .ref b] M (fun M9 => ∃ f9, M9 b = some (aI g 8 f9) ∧ (∀ q, q ≠ b → M9 q = M q) ∧ ∀ j, j < 8 → f9 j = kStart j) := by
  refine hp_startV (by decide) (by exact Nat.le_of_ble_eq_true rfl) ?_
  intro p e s m below meth c Q H locs ls E hnm ret hm hS hl
  have hx := E.1
  have hb := E.2.1
  have hown := E.2.2.2.1
  have hts := E.2.2.2.2.1
  have hl : lv_has ls 3 [(0, .ref (gS g)), (1, .ref b)] := hl
  refine lv_iconst (v := 0) hx hb dX3_copyWords_0 (by decide) ?_
  refine lv_istore_n (lv' := [(2, .int 0), (0, .ref (gS g)), (1, .ref b)]) hx hb dX3_copyWords_1 rfl hl (by decide) rfl (fun ls hl => ?_)
  have lp : ∀ (n i : Nat) (M1 : hM) (f1 : Nat → Int32) (H : Heap) (locs : List Loc) (ls : Array Slot), 9 ≤ i + n → i ≤ 8 → M1 b = some (aI g 8 f1) → (∀ q, q ≠ b → M1 q = M q) → (∀ j, j < i → f1 j = kStart j) → hp g M1 H → va_S (hA g) s.heap H locs → lv_has ls 3 [(2, .int (nI i)), (0, .ref (gS g)), (1, .ref b)] → W p l e (hR 1 0 0) s m [.ref (gS g), .ref b].toArray below meth c H locs 0 0 Q (F0 m 2 ls []) := by
    intro n
    induction n with
    | zero => intro i M1 f1 H locs ls hn hi e_b hfr hf; exact absurd hn (by omega)
    | succ n ih =>
      intro i M1 f1 H locs ls hn hi e_b hfr hf hm hS hl
      refine lv_iload_n hx hb dX3_copyWords_2 rfl (lv_at hl 0 rfl) ?_
      refine lv_bipush (v := 8) hx hb dX3_copyWords_3 (by decide) ?_
      refine lv_icmp_ge (tgt := 20) hx hb dX3_copyWords_5 (by decide) (fun c_5 => ?_) (fun c_5 => ?_)
      · have c_5 : 8 ≤ i := (nI_leI (a := 8) (b := i) (by decide) (by omega)).mp c_5
        exact ret dX3_copyWords_20 hm hS (Nat.le_of_ble_eq_true rfl) (Nat.le_of_ble_eq_true rfl) (⟨f1, e_b, hfr, fun j hj => hf j (by omega)⟩)
      · have c_5 : ¬ 8 ≤ i := fun h9 => c_5 ((nI_leI (a := 8) (b := i) (by decide) (by omega)).mpr h9)
        refine lv_aload_n hx hb dX3_copyWords_8 rfl (lv_at hl 2 rfl) ?_
        refine lv_iload_n hx hb dX3_copyWords_9 rfl (lv_at hl 0 rfl) ?_
        refine lv_aload_n hx hb dX3_copyWords_10 rfl (lv_at hl 1 rfl) ?_
        refine lv_iload_n hx hb dX3_copyWords_11 rfl (lv_at hl 0 rfl) ?_
        refine hp_ialdSN E hS i rfl (by omega) dX3_copyWords_12 ?_
        refine hp_iastN E hm hS e_b i rfl (by omega) (by decide) dX3_copyWords_13 (fun H locs hm hS => ?_)
        obtain ⟨Mx1, hMx1⟩ : ∃ Mz, Mz = hm_up M1 b (aI g 8 (upd f1 i (kStart i))) := ⟨_, rfl⟩
        have hm : hp g Mx1 H := by rw [hMx1]; exact hm
        have e_b : Mx1 b = some (aI g 8 (upd f1 i (kStart i))) := by rw [hMx1]; exact up_eq
        refine lv_iinc (v := nI (i + 1)) (lv' := [(2, .int (nI (i + 1))), (0, .ref (gS g)), (1, .ref b)]) hx hb dX3_copyWords_14 hl (k := 0) rfl (nI_1 _) (by decide) rfl (fun ls hl => ?_)
        refine lv_goto (tgt := 2) hx hb dX3_copyWords_17 (by decide) ?_
        refine ih (i + 1) Mx1 _ H locs ls (by omega) (by omega) e_b (fun q hq => by rw [hMx1, up_ne hq]; exact hfr q hq) (fun j hj => ?_) hm hS (lv_sub hl [0, 1, 2] rfl)
        rcases Nat.lt_or_eq_of_le (Nat.le_of_lt_succ hj) with q | q
        · rw [pk_un (by omega)]; exact hf j q
        · rw [q, pk_us]
  exact lp 9 0 M fb H locs ls (by omega) (by omega) e_b (fun _ _ => rfl) (fun j hj => absurd hj (Nat.not_lt_zero j)) hm hS (lv_sub hl [0, 1, 2] rfl)
/-- the Hasher at h: its rows nm (zeros), ms, sc, sa, which hold these -/
def HS (g : hG) (M : hM) (h nm ms sc sa : Nat) (fm fs fa : Nat → Int32) : Prop := M h = some (.inr (0, [.ref nm, .ref ms, .ref sc, .ref sa])) ∧ M ms = some (aI g 32 fm) ∧ M sc = some (aI g 64 fs) ∧ M sa = some (aI g 8 fa) ∧ (∃ fn, M nm = some (aI g 8 fn) ∧ ∀ j, j < 8 → fn j = 0) ∧ ms ≠ sc ∧ ms ≠ sa ∧ sc ≠ sa ∧ nm ≠ ms ∧ nm ≠ sc ∧ nm ≠ sa
set_option maxHeartbeats 4000000 in
set_option maxRecDepth 100000 in
theorem c_X0_clearMessage (l : Launch) (g : hG) (M : hM) (h nm ms sc sa : Nat) (fm fs fa : Nat → Int32) (hH : HS g M h nm ms sc sa fm fs fa) : Cv l g yX0_clearMessage cX0_clearMessage 2 1 0 0 [.ref h] M (fun M9 => ∃ f9, M9 ms = some (aI g 32 f9) ∧ (∀ q, q ≠ ms → M9 q = M q) ∧ ∀ j, j < 32 → f9 j = 0) := by
  obtain ⟨e_h, e_ms, e_sc, e_sa, ⟨fn, e_nm, hz⟩, n_1, n_2, n_3, n_4, n_5, n_6⟩ := hH
  have n_0 : h ≠ ms := ne_lk e_h e_ms (by simp)
  refine hp_startV (by decide) (by exact Nat.le_of_ble_eq_true rfl) ?_
  intro p e s m below meth c Q H locs ls E hnm ret hm hS hl
  have hx := E.1
  have hb := E.2.1
  have hown := E.2.2.2.1
  have hts := E.2.2.2.2.1
  have hl : lv_has ls 2 [(0, .ref h)] := hl
  refine lv_iconst (v := 0) hx hb dX0_clearMessage_0 (by decide) ?_
  refine lv_istore_n (lv' := [(1, .int 0), (0, .ref h)]) hx hb dX0_clearMessage_1 rfl hl (by decide) rfl (fun ls hl => ?_)
  have lp : ∀ (n i : Nat) (M1 : hM) (f1 : Nat → Int32) (H : Heap) (locs : List Loc) (ls : Array Slot), 33 ≤ i + n → i ≤ 32 → M1 ms = some (aI g 32 f1) → (∀ q, q ≠ ms → M1 q = M q) → (∀ j, j < i → f1 j = 0) → hp g M1 H → va_S (hA g) s.heap H locs → lv_has ls 2 [(1, .int (nI i)), (0, .ref h)] → W p l e (hR 1 0 0) s m [.ref h].toArray below meth c H locs 0 0 Q (F0 m 2 ls []) := by
    intro n
    induction n with
    | zero => intro i M1 f1 H locs ls hn hi e_ms hfr hf; exact absurd hn (by omega)
    | succ n ih =>
      intro i M1 f1 H locs ls hn hi e_ms hfr hf hm hS hl
      have e_h : M1 h = some (.inr (0, [.ref nm, .ref ms, .ref sc, .ref sa])) := (hfr h n_0).trans e_h
      refine lv_iload_n hx hb dX0_clearMessage_2 rfl (lv_at hl 0 rfl) ?_
      refine lv_bipush (v := 32) hx hb dX0_clearMessage_3 (by decide) ?_
      refine lv_icmp_ge (tgt := 21) hx hb dX0_clearMessage_5 (by decide) (fun c_5 => ?_) (fun c_5 => ?_)
      · have c_5 : 32 ≤ i := (nI_leI (a := 32) (b := i) (by decide) (by omega)).mp c_5
        exact ret dX0_clearMessage_21 hm hS (Nat.le_of_ble_eq_true rfl) (Nat.le_of_ble_eq_true rfl) (⟨f1, e_ms, hfr, fun j hj => hf j (by omega)⟩)
      · have c_5 : ¬ 32 ≤ i := fun h9 => c_5 ((nI_leI (a := 32) (b := i) (by decide) (by omega)).mpr h9)
        refine lv_aload_n hx hb dX0_clearMessage_8 rfl (lv_at hl 1 rfl) ?_
        refine hp_get (C := RX0) (T := TX0) (N := 4) (v := .ref ms) E hm e_h inh0 rfl 1 (by decide) wf_X0_15 rfl dX0_clearMessage_9 ?_
        refine lv_iload_n hx hb dX0_clearMessage_12 rfl (lv_at hl 0 rfl) ?_
        refine lv_iconst (v := 0) hx hb dX0_clearMessage_13 (by decide) ?_
        refine hp_iastN E hm hS e_ms i rfl (by omega) (by decide) dX0_clearMessage_14 (fun H locs hm hS => ?_)
        obtain ⟨Mx1, hMx1⟩ : ∃ Mz, Mz = hm_up M1 ms (aI g 32 (upd f1 i 0)) := ⟨_, rfl⟩
        have hm : hp g Mx1 H := by rw [hMx1]; exact hm
        have e_h : Mx1 h = some (.inr (0, [.ref nm, .ref ms, .ref sc, .ref sa])) := by rw [hMx1]; exact up_at (ne_lk e_h e_ms (by simp)) e_h
        have e_ms : Mx1 ms = some (aI g 32 (upd f1 i 0)) := by rw [hMx1]; exact up_eq
        refine lv_iinc (v := nI (i + 1)) (lv' := [(1, .int (nI (i + 1))), (0, .ref h)]) hx hb dX0_clearMessage_15 hl (k := 0) rfl (nI_1 _) (by decide) rfl (fun ls hl => ?_)
        refine lv_goto (tgt := 2) hx hb dX0_clearMessage_18 (by decide) ?_
        refine ih (i + 1) Mx1 _ H locs ls (by omega) (by omega) e_ms (fun q hq => by rw [hMx1, up_ne hq]; exact hfr q hq) (fun j hj => ?_) hm hS (lv_sub hl [0, 1] rfl)
        rcases Nat.lt_or_eq_of_le (Nat.le_of_lt_succ hj) with q | q
        · rw [pk_un (by omega)]; exact hf j q
        · rw [q, pk_us]
  exact lp 33 0 M fm H locs ls (by omega) (by omega) e_ms (fun _ _ => rfl) (fun j hj => absurd hj (Nat.not_lt_zero j)) hm hS (lv_sub hl [0, 1] rfl)
set_option maxHeartbeats 4000000 in
set_option maxRecDepth 100000 in
theorem c_X0_start (l : Launch) (g : hG) (M : hM) (h nm ms sc sa : Nat) (fm fs fa : Nat → Int32) (hH : HS g M h nm ms sc sa fm fs fa) : Cv l g yX0_start cX0_start 1 2 0 0 [.ref h] M (fun M9 => ∃ f9, M9 sa = some (aI g 8 f9) ∧ (∀ q, q ≠ sa → M9 q = M q) ∧ ∀ j, j < 8 → f9 j = kStart j) := by
  obtain ⟨e_h, e_ms, e_sc, e_sa, ⟨fn, e_nm, hz⟩, n_1, n_2, n_3, n_4, n_5, n_6⟩ := hH
  refine hp_startV (by decide) (by exact Nat.le_of_ble_eq_true rfl) ?_
  intro p e s m below meth c Q H locs ls E hnm ret hm hS hl
  have hx := E.1
  have hb := E.2.1
  have hown := E.2.2.2.1
  have hts := E.2.2.2.2.1
  have hl : lv_has ls 1 [(0, .ref h)] := hl
  refine va_gets hx hb E.2.2.2.2.2.2.2.1 hS hown (hts _ wf_X0_39) (fun _ h => h) dX0_start_0 ?_
  refine lv_aload_n hx hb dX0_start_3 rfl (lv_at hl 0 rfl) ?_
  refine hp_get (C := RX0) (T := TX0) (N := 4) (v := .ref sa) E hm e_h inh0 rfl 3 (by decide) wf_X0_21 rfl dX0_start_4 ?_
  refine hp_cv (hp_runN (np := 2) (k := 1) (mc := 0) (ms := 0) (As := [.ref (gS g), .ref sa]) (rest := []) E hm hS (c_X3_copyWordsS l g M sa fa e_sa) ms_X3_copyWords wt_X3_copyWords E.2.2.2.2.2.2.2.2.2.2.2.2.2.2.1 rfl hl.1 rfl (Nat.le_of_ble_eq_true rfl) dX0_start_7 ⟨Nat.le_of_ble_eq_true rfl, Nat.le_of_ble_eq_true rfl⟩ ⟨(Nat.le_of_ble_eq_true rfl), (Nat.le_of_ble_eq_true rfl)⟩) hS (fun Mx1 H locs hq2 hm hS => ?_)
  exact ret dX0_start_10 hm hS (Nat.le_of_ble_eq_true rfl) (Nat.le_of_ble_eq_true rfl) (hq2)
theorem ix_sub {a b c : Nat} (h : a = b + c) : nI a - nI b = nI c := by
  subst h
  rw [pk_sub (by omega), Nat.add_sub_cancel_left]
set_option maxHeartbeats 4000000 in
set_option maxRecDepth 100000 in
theorem c_X0_spread (l : Launch) (g : hG) (M : hM) (h nm ms sc sa : Nat) (fm fs fa : Nat → Int32) (hH : HS g M h nm ms sc sa fm fs fa) (fr : Nat) (hfr0 : fr + 16 ≤ 32) : Cv l g yX0_spread cX0_spread 7 2 0 0 [.ref h, .int (nI fr)] M (fun M9 => ∃ f9, M9 sc = some (aI g 64 f9) ∧ (∀ q, q ≠ sc → M9 q = M q) ∧ ∀ j, j < 64 → f9 j = schF (fun t => fm (fr + t)) 48 j) := by
  obtain ⟨e_h, e_ms, e_sc, e_sa, ⟨fn, e_nm, hz⟩, n_1, n_2, n_3, n_4, n_5, n_6⟩ := hH
  have n_0 : h ≠ sc := ne_lk e_h e_sc (by simp)
  refine hp_startV (by decide) (by exact Nat.le_of_ble_eq_true rfl) ?_
  intro p e s m below meth c Q H locs ls E hnm ret hm hS hl
  have hx := E.1
  have hb := E.2.1
  have hown := E.2.2.2.1
  have hts := E.2.2.2.2.1
  have hl : lv_has ls 7 [(0, .ref h), (1, .int (nI fr))] := hl
  refine lv_iconst (v := 0) hx hb dX0_spread_0 (by decide) ?_
  refine lv_istore_n (lv' := [(2, .int 0), (0, .ref h), (1, .int (nI fr))]) hx hb dX0_spread_1 rfl hl (by decide) rfl (fun ls hl => ?_)
  have e_h0 := e_h
  have e_ms0 := e_ms
  have lp : ∀ (n i : Nat) (M1 : hM) (f1 : Nat → Int32) (H : Heap) (locs : List Loc) (ls : Array Slot), 17 ≤ i + n → i ≤ 16 → M1 sc = some (aI g 64 f1) → (∀ q, q ≠ sc → M1 q = M q) → (∀ j, j < i → f1 j = fm (fr + j)) → hp g M1 H → va_S (hA g) s.heap H locs → lv_has ls 7 [(2, .int (nI i)), (0, .ref h), (1, .int (nI fr))] → W p l e (hR 2 0 0) s m [.ref h, .int (nI fr)].toArray below meth c H locs 0 0 Q (F0 m 2 ls []) := by
    intro n
    induction n with
    | zero => intro i M1 f1 H locs ls hn hi e_sc hfr hf; exact absurd hn (by omega)
    | succ n ih =>
      intro i M1 f1 H locs ls hn hi e_sc hfr hf hm hS hl
      have e_h : M1 h = some (.inr (0, [.ref nm, .ref ms, .ref sc, .ref sa])) := (hfr h n_0).trans e_h
      have e_ms : M1 ms = some (aI g 32 fm) := (hfr ms n_1).trans e_ms
      refine lv_iload_n hx hb dX0_spread_2 rfl (lv_at hl 0 rfl) ?_
      refine lv_bipush (v := 16) hx hb dX0_spread_3 (by decide) ?_
      refine lv_icmp_ge (tgt := 28) hx hb dX0_spread_5 (by decide) (fun c_5 => ?_) (fun c_5 => ?_)
      · have c_5 : 16 ≤ i := (nI_leI (a := 16) (b := i) (by decide) (by omega)).mp c_5
        refine lv_bipush (v := 16) hx hb dX0_spread_28 (by decide) ?_
        refine lv_istore_n (lv' := [(2, .int 16), (0, .ref h), (1, .int (nI fr))]) hx hb dX0_spread_30 rfl hl (by decide) rfl (fun ls hl => ?_)
        have lp2 : ∀ (n u : Nat) (M2 : hM) (f2 : Nat → Int32) (H : Heap) (locs : List Loc) (ls : Array Slot), 49 ≤ u + n → u ≤ 48 → M2 sc = some (aI g 64 f2) → (∀ q, q ≠ sc → M2 q = M q) → (∀ j, j < 16 + u → f2 j = schF (fun t => fm (fr + t)) u j) → hp g M2 H → va_S (hA g) s.heap H locs → lv_has ls 7 [(2, .int (nI (16 + u))), (0, .ref h), (1, .int (nI fr))] → W p l e (hR 2 0 0) s m [.ref h, .int (nI fr)].toArray below meth c H locs 0 0 Q (F0 m 31 ls []) := by
          intro n
          induction n with
          | zero => intro u M2 f2 H locs ls hn2 hu e_sc hfr2 hf2; exact absurd hn2 (by omega)
          | succ n ih =>
            intro u M2 f2 H locs ls hn2 hu e_sc hfr2 hf2 hm hS hl
            have e_h : M2 h = some (.inr (0, [.ref nm, .ref ms, .ref sc, .ref sa])) := (hfr2 h n_0).trans e_h0
            refine lv_iload_n hx hb dX0_spread_31 rfl (lv_at hl 0 rfl) ?_
            refine lv_bipush (v := 64) hx hb dX0_spread_32 (by decide) ?_
            refine lv_icmp_ge (tgt := 136) hx hb dX0_spread_34 (by decide) (fun c_34 => ?_) (fun c_34 => ?_)
            · have c_34 : 64 ≤ (16 + u) := (nI_leI (a := 64) (b := 16 + u) (by decide) (by omega)).mp c_34
              exact ret dX0_spread_136 hm hS (Nat.le_of_ble_eq_true rfl) (Nat.le_of_ble_eq_true rfl) (⟨f2, e_sc, hfr2, fun j hj => by rw [show u = 48 by omega] at hf2; exact hf2 j (by omega)⟩)
            · have c_34 : ¬ 64 ≤ (16 + u) := fun h9 => c_34 ((nI_leI (a := 64) (b := 16 + u) (by decide) (by omega)).mpr h9)
              refine lv_aload_n hx hb dX0_spread_37 rfl (lv_at hl 1 rfl) ?_
              refine hp_get (C := RX0) (T := TX0) (N := 4) (v := .ref sc) E hm e_h inh0 rfl 2 (by decide) wf_X0_18 rfl dX0_spread_38 ?_
              refine lv_iload_n hx hb dX0_spread_41 rfl (lv_at hl 0 rfl) ?_
              refine lv_bipush (v := 15) hx hb dX0_spread_42 (by decide) ?_
              refine lv_isub hx hb dX0_spread_44 ?_
              refine hp_ialdN E hm e_sc (1 + u) (ix_sub (b := 15) (by omega)) (by omega) (by decide) dX0_spread_45 ?_
              refine lv_istore_n (lv' := [(3, .int (f2 (1 + u))), (2, .int (nI (16 + u))), (0, .ref h), (1, .int (nI fr))]) hx hb dX0_spread_46 rfl hl (by decide) rfl (fun ls hl => ?_)
              refine lv_aload_n hx hb dX0_spread_47 rfl (lv_at hl 2 rfl) ?_
              refine hp_get (C := RX0) (T := TX0) (N := 4) (v := .ref sc) E hm e_h inh0 rfl 2 (by decide) wf_X0_18 rfl dX0_spread_48 ?_
              refine lv_iload_n hx hb dX0_spread_51 rfl (lv_at hl 1 rfl) ?_
              refine lv_iconst (v := 2) hx hb dX0_spread_52 (by decide) ?_
              refine lv_isub hx hb dX0_spread_53 ?_
              refine hp_ialdN E hm e_sc (14 + u) (ix_sub (b := 2) (by omega)) (by omega) (by decide) dX0_spread_54 ?_
              refine lv_istore (lv' := [(4, .int (f2 (14 + u))), (3, .int (f2 (1 + u))), (2, .int (nI (16 + u))), (0, .ref h), (1, .int (nI fr))]) hx hb dX0_spread_55 hl (by decide) rfl (fun ls hl => ?_)
              refine lv_iload_n hx hb dX0_spread_57 rfl (lv_at hl 1 rfl) ?_
              refine lv_bipush (v := 7) hx hb dX0_spread_58 (by decide) ?_
              refine hp_ci (hp_runS (np := 2) (k := 1) (mc := 0) (ms := 0) (As := [.int (f2 (1 + u)), .int 7]) (rest := []) E hm hS (c_X0_turned l g M2 (f2 (1 + u)) 7) ms_X0_turned wt_X0_turned wl_X0_45 rfl hl.1 rfl (Nat.le_of_ble_eq_true rfl) dX0_spread_60 ⟨Nat.le_of_ble_eq_true rfl, Nat.le_of_ble_eq_true rfl⟩ ⟨(Nat.le_of_ble_eq_true rfl), (Nat.le_of_ble_eq_true rfl)⟩) hS (fun r1 Mx2 H locs hq3 hm hS => ?_)
              obtain ⟨rfl, h9⟩ := hq3
              rw [h9] at hm
              refine lv_iload_n hx hb dX0_spread_63 rfl (lv_at hl 1 rfl) ?_
              refine lv_bipush (v := 18) hx hb dX0_spread_64 (by decide) ?_
              refine hp_ci (hp_runS (np := 2) (k := 1) (mc := 0) (ms := 0) (As := [.int (f2 (1 + u)), .int 18]) (rest := [.int (tur (f2 (1 + u)) 7)]) E hm hS (c_X0_turned l g M2 (f2 (1 + u)) 18) ms_X0_turned wt_X0_turned wl_X0_45 rfl hl.1 rfl (Nat.le_of_ble_eq_true rfl) dX0_spread_66 ⟨Nat.le_of_ble_eq_true rfl, Nat.le_of_ble_eq_true rfl⟩ ⟨(Nat.le_of_ble_eq_true rfl), (Nat.le_of_ble_eq_true rfl)⟩) hS (fun r4 Mx5 H locs hq6 hm hS => ?_)
              obtain ⟨rfl, h9⟩ := hq6
              rw [h9] at hm
              refine lv_ixor hx hb dX0_spread_69 ?_
              refine lv_iload_n hx hb dX0_spread_70 rfl (lv_at hl 1 rfl) ?_
              refine lv_iconst (v := 3) hx hb dX0_spread_71 (by decide) ?_
              refine lv_iushr (v := ush (f2 (1 + u)) 3) hx hb dX0_spread_72 rfl ?_
              refine lv_ixor hx hb dX0_spread_73 ?_
              refine lv_istore (lv' := [(5, .int (((tur (f2 (1 + u)) 7) ^^^ (tur (f2 (1 + u)) 18)) ^^^ (ush (f2 (1 + u)) 3))), (4, .int (f2 (14 + u))), (3, .int (f2 (1 + u))), (2, .int (nI (16 + u))), (0, .ref h), (1, .int (nI fr))]) hx hb dX0_spread_74 hl (by decide) rfl (fun ls hl => ?_)
              refine lv_iload hx hb dX0_spread_76 (lv_at hl 1 rfl) ?_
              refine lv_bipush (v := 17) hx hb dX0_spread_78 (by decide) ?_
              refine hp_ci (hp_runS (np := 2) (k := 1) (mc := 0) (ms := 0) (As := [.int (f2 (14 + u)), .int 17]) (rest := []) E hm hS (c_X0_turned l g M2 (f2 (14 + u)) 17) ms_X0_turned wt_X0_turned wl_X0_45 rfl hl.1 rfl (Nat.le_of_ble_eq_true rfl) dX0_spread_80 ⟨Nat.le_of_ble_eq_true rfl, Nat.le_of_ble_eq_true rfl⟩ ⟨(Nat.le_of_ble_eq_true rfl), (Nat.le_of_ble_eq_true rfl)⟩) hS (fun r7 Mx8 H locs hq9 hm hS => ?_)
              obtain ⟨rfl, h9⟩ := hq9
              rw [h9] at hm
              refine lv_iload hx hb dX0_spread_83 (lv_at hl 1 rfl) ?_
              refine lv_bipush (v := 19) hx hb dX0_spread_85 (by decide) ?_
              refine hp_ci (hp_runS (np := 2) (k := 1) (mc := 0) (ms := 0) (As := [.int (f2 (14 + u)), .int 19]) (rest := [.int (tur (f2 (14 + u)) 17)]) E hm hS (c_X0_turned l g M2 (f2 (14 + u)) 19) ms_X0_turned wt_X0_turned wl_X0_45 rfl hl.1 rfl (Nat.le_of_ble_eq_true rfl) dX0_spread_87 ⟨Nat.le_of_ble_eq_true rfl, Nat.le_of_ble_eq_true rfl⟩ ⟨(Nat.le_of_ble_eq_true rfl), (Nat.le_of_ble_eq_true rfl)⟩) hS (fun r10 Mx11 H locs hq12 hm hS => ?_)
              obtain ⟨rfl, h9⟩ := hq12
              rw [h9] at hm
              refine lv_ixor hx hb dX0_spread_90 ?_
              refine lv_iload hx hb dX0_spread_91 (lv_at hl 1 rfl) ?_
              refine lv_bipush (v := 10) hx hb dX0_spread_93 (by decide) ?_
              refine lv_iushr (v := ush (f2 (14 + u)) 10) hx hb dX0_spread_95 rfl ?_
              refine lv_ixor hx hb dX0_spread_96 ?_
              refine lv_istore (lv' := [(6, .int (((tur (f2 (14 + u)) 17) ^^^ (tur (f2 (14 + u)) 19)) ^^^ (ush (f2 (14 + u)) 10))), (5, .int (((tur (f2 (1 + u)) 7) ^^^ (tur (f2 (1 + u)) 18)) ^^^ (ush (f2 (1 + u)) 3))), (4, .int (f2 (14 + u))), (3, .int (f2 (1 + u))), (2, .int (nI (16 + u))), (0, .ref h), (1, .int (nI fr))]) hx hb dX0_spread_97 hl (by decide) rfl (fun ls hl => ?_)
              refine lv_aload_n hx hb dX0_spread_99 rfl (lv_at hl 5 rfl) ?_
              refine hp_get (C := RX0) (T := TX0) (N := 4) (v := .ref sc) E hm e_h inh0 rfl 2 (by decide) wf_X0_18 rfl dX0_spread_100 ?_
              refine lv_iload_n hx hb dX0_spread_103 rfl (lv_at hl 4 rfl) ?_
              refine lv_iload hx hb dX0_spread_104 (lv_at hl 0 rfl) ?_
              refine lv_aload_n hx hb dX0_spread_106 rfl (lv_at hl 5 rfl) ?_
              refine hp_get (C := RX0) (T := TX0) (N := 4) (v := .ref sc) E hm e_h inh0 rfl 2 (by decide) wf_X0_18 rfl dX0_spread_107 ?_
              refine lv_iload_n hx hb dX0_spread_110 rfl (lv_at hl 4 rfl) ?_
              refine lv_bipush (v := 7) hx hb dX0_spread_111 (by decide) ?_
              refine lv_isub hx hb dX0_spread_113 ?_
              refine hp_ialdN E hm e_sc (9 + u) (ix_sub (b := 7) (by omega)) (by omega) (by decide) dX0_spread_114 ?_
              refine lv_iadd hx hb dX0_spread_115 ?_
              refine lv_iload hx hb dX0_spread_116 (lv_at hl 1 rfl) ?_
              refine lv_iadd hx hb dX0_spread_118 ?_
              refine lv_aload_n hx hb dX0_spread_119 rfl (lv_at hl 5 rfl) ?_
              refine hp_get (C := RX0) (T := TX0) (N := 4) (v := .ref sc) E hm e_h inh0 rfl 2 (by decide) wf_X0_18 rfl dX0_spread_120 ?_
              refine lv_iload_n hx hb dX0_spread_123 rfl (lv_at hl 4 rfl) ?_
              refine lv_bipush (v := 16) hx hb dX0_spread_124 (by decide) ?_
              refine lv_isub hx hb dX0_spread_126 ?_
              refine hp_ialdN E hm e_sc u (ix_sub (b := 16) (by omega)) (by omega) (by decide) dX0_spread_127 ?_
              refine lv_iadd hx hb dX0_spread_128 ?_
              refine hp_iastN E hm hS e_sc ((16 + u)) rfl (by omega) (by decide) dX0_spread_129 (fun H locs hm hS => ?_)
              obtain ⟨Mx13, hMx13⟩ : ∃ Mz, Mz = hm_up M2 sc (aI g 64 (upd f2 ((16 + u)) ((((((tur (f2 (14 + u)) 17) ^^^ (tur (f2 (14 + u)) 19)) ^^^ (ush (f2 (14 + u)) 10)) + (f2 (9 + u))) + (((tur (f2 (1 + u)) 7) ^^^ (tur (f2 (1 + u)) 18)) ^^^ (ush (f2 (1 + u)) 3))) + (f2 u)))) := ⟨_, rfl⟩
              have hm : hp g Mx13 H := by rw [hMx13]; exact hm
              have e_h : Mx13 h = some (.inr (0, [.ref nm, .ref ms, .ref sc, .ref sa])) := by rw [hMx13]; exact up_at (ne_lk e_h e_sc (by simp)) e_h
              have e_sc : Mx13 sc = some (aI g 64 (upd f2 ((16 + u)) ((((((tur (f2 (14 + u)) 17) ^^^ (tur (f2 (14 + u)) 19)) ^^^ (ush (f2 (14 + u)) 10)) + (f2 (9 + u))) + (((tur (f2 (1 + u)) 7) ^^^ (tur (f2 (1 + u)) 18)) ^^^ (ush (f2 (1 + u)) 3))) + (f2 u)))) := by rw [hMx13]; exact up_eq
              refine lv_iinc (v := nI ((16 + u) + 1)) (lv' := [(2, .int (nI ((16 + u) + 1))), (6, .int (((tur (f2 (14 + u)) 17) ^^^ (tur (f2 (14 + u)) 19)) ^^^ (ush (f2 (14 + u)) 10))), (5, .int (((tur (f2 (1 + u)) 7) ^^^ (tur (f2 (1 + u)) 18)) ^^^ (ush (f2 (1 + u)) 3))), (4, .int (f2 (14 + u))), (3, .int (f2 (1 + u))), (0, .ref h), (1, .int (nI fr))]) hx hb dX0_spread_130 hl (k := 4) rfl (nI_1 _) (by decide) rfl (fun ls hl => ?_)
              refine lv_goto (tgt := 31) hx hb dX0_spread_133 (by decide) ?_
              refine ih (u + 1) Mx13 _ H locs ls (by omega) (by omega) e_sc (fun q hq => by rw [hMx13, up_ne hq]; exact hfr2 q hq) (fun j hj => ?_) hm hS (lv_sub hl [0, 5, 6] rfl)
              show _ = upd (schF _ u) (16 + u) _ j
              by_cases q : j = 16 + u
              · rw [q, pk_us, pk_us, ← hf2 (14 + u) (by omega), ← hf2 (9 + u) (by omega), ← hf2 (1 + u) (by omega), ← hf2 u (by omega)]
                rfl
              · rw [pk_un q, pk_un q]; exact hf2 j (by omega)
        exact lp2 49 0 M1 f1 H locs ls (by omega) (by omega) e_sc hfr (fun j hj => hf j (by omega)) hm hS (lv_sub hl [0, 1, 2] rfl)
      · have c_5 : ¬ 16 ≤ i := fun h9 => c_5 ((nI_leI (a := 16) (b := i) (by decide) (by omega)).mpr h9)
        refine lv_aload_n hx hb dX0_spread_8 rfl (lv_at hl 1 rfl) ?_
        refine hp_get (C := RX0) (T := TX0) (N := 4) (v := .ref sc) E hm e_h inh0 rfl 2 (by decide) wf_X0_18 rfl dX0_spread_9 ?_
        refine lv_iload_n hx hb dX0_spread_12 rfl (lv_at hl 0 rfl) ?_
        refine lv_aload_n hx hb dX0_spread_13 rfl (lv_at hl 1 rfl) ?_
        refine hp_get (C := RX0) (T := TX0) (N := 4) (v := .ref ms) E hm e_h inh0 rfl 1 (by decide) wf_X0_15 rfl dX0_spread_14 ?_
        refine lv_iload_n hx hb dX0_spread_17 rfl (lv_at hl 2 rfl) ?_
        refine lv_iload_n hx hb dX0_spread_18 rfl (lv_at hl 0 rfl) ?_
        refine lv_iadd hx hb dX0_spread_19 ?_
        refine hp_ialdN E hm e_ms (fr + i) (nI_add fr i) (by omega) (by decide) dX0_spread_20 ?_
        refine hp_iastN E hm hS e_sc i rfl (by omega) (by decide) dX0_spread_21 (fun H locs hm hS => ?_)
        obtain ⟨Mx14, hMx14⟩ : ∃ Mz, Mz = hm_up M1 sc (aI g 64 (upd f1 i (fm (fr + i)))) := ⟨_, rfl⟩
        have hm : hp g Mx14 H := by rw [hMx14]; exact hm
        have e_h : Mx14 h = some (.inr (0, [.ref nm, .ref ms, .ref sc, .ref sa])) := by rw [hMx14]; exact up_at (ne_lk e_h e_sc (by simp)) e_h
        have e_ms : Mx14 ms = some (aI g 32 fm) := by rw [hMx14]; exact up_at n_1 e_ms
        have e_sc : Mx14 sc = some (aI g 64 (upd f1 i (fm (fr + i)))) := by rw [hMx14]; exact up_eq
        refine lv_iinc (v := nI (i + 1)) (lv' := [(2, .int (nI (i + 1))), (0, .ref h), (1, .int (nI fr))]) hx hb dX0_spread_22 hl (k := 0) rfl (nI_1 _) (by decide) rfl (fun ls hl => ?_)
        refine lv_goto (tgt := 2) hx hb dX0_spread_25 (by decide) ?_
        refine ih (i + 1) Mx14 _ H locs ls (by omega) (by omega) e_sc (fun q hq => by rw [hMx14, up_ne hq]; exact hfr q hq) (fun j hj => ?_) hm hS (lv_sub hl [0, 1, 2] rfl)
        rcases Nat.lt_or_eq_of_le (Nat.le_of_lt_succ hj) with q | q
        · rw [pk_un (by omega)]; exact hf j q
        · rw [q, pk_us]
  exact lp 17 0 M fs H locs ls (by omega) (by omega) e_sc (fun _ _ => rfl) (fun j hj => absurd hj (Nat.not_lt_zero j)) hm hS (lv_sub hl [0, 1, 2] rfl)
set_option maxHeartbeats 4000000 in
set_option maxRecDepth 100000 in
theorem c_X0_compress (l : Launch) (g : hG) (M : hM) (h nm ms sc sa : Nat) (fm fs fa : Nat → Int32) (hH : HS g M h nm ms sc sa fm fs fa) (fr : Nat) (hfr0 : fr + 16 ≤ 32) : Cv l g yX0_compress cX0_compress 16 3 0 0 [.ref h, .int (nI fr)] M (fun M9 => ∃ f9 s9, M9 sc = some (aI g 64 f9) ∧ M9 sa = some (aI g 8 s9) ∧ (∀ q, q ≠ sc → q ≠ sa → M9 q = M q) ∧ ∀ j, j < 8 → s9 j = shaB fa (fun t => fm (fr + t)) j) := by
  have hH0 := hH
  obtain ⟨e_h, e_ms, e_sc, e_sa, ⟨fn, e_nm, hz⟩, n_1, n_2, n_3, n_4, n_5, n_6⟩ := hH
  have n_00 : h ≠ sa := ne_lk e_h e_sa (by simp)
  have n_0 : h ≠ sc := ne_lk e_h e_sc (by simp)
  refine hp_startV (by decide) (by exact Nat.le_of_ble_eq_true rfl) ?_
  intro p e s m below meth c Q H locs ls E hnm ret hm hS hl
  have hx := E.1
  have hb := E.2.1
  have hown := E.2.2.2.1
  have hts := E.2.2.2.2.1
  have hl : lv_has ls 16 [(0, .ref h), (1, .int (nI fr))] := hl
  refine lv_aload_n hx hb dX0_compress_0 rfl (lv_at hl 0 rfl) ?_
  refine lv_iload_n hx hb dX0_compress_1 rfl (lv_at hl 1 rfl) ?_
  refine hp_cv (hp_runV (C := RX0) (T := TX0) (N := 4) (np := 1) (k := 2) (mc := 0) (ms := 0) (As := [.int (nI fr)]) (rest := []) E hm hS (c_X0_spread l g M h nm ms sc sa fm fs fa hH0 fr hfr0) ms_X0_spread wi_X0_spread ws_X0_spread wl_X0_42 e_h rfl rfl hl.1 rfl (Nat.le_of_ble_eq_true rfl) dX0_compress_2 ⟨Nat.le_of_ble_eq_true rfl, Nat.le_of_ble_eq_true rfl⟩ ⟨(Nat.le_of_ble_eq_true rfl), (Nat.le_of_ble_eq_true rfl)⟩) hS (fun Mx1 H locs hq2 hm hS => ?_)
  obtain ⟨f9, e_sc, hfr, hsc⟩ := hq2
  have e_h : Mx1 h = some (.inr (0, [.ref nm, .ref ms, .ref sc, .ref sa])) := (hfr h n_0).trans e_h
  have e_sa : Mx1 sa = some (aI g 8 fa) := (hfr sa (Ne.symm n_3)).trans e_sa
  refine lv_aload_n hx hb dX0_compress_5 rfl (lv_at hl 0 rfl) ?_
  refine hp_get (C := RX0) (T := TX0) (N := 4) (v := .ref sa) E hm e_h inh0 rfl 3 (by decide) wf_X0_21 rfl dX0_compress_6 ?_
  refine lv_iconst (v := 0) hx hb dX0_compress_9 (by decide) ?_
  refine hp_ialdN E hm e_sa 0 rfl (by decide) (by decide) dX0_compress_10 ?_
  refine lv_istore_n (lv' := [(2, .int (fa 0)), (0, .ref h), (1, .int (nI fr))]) hx hb dX0_compress_11 rfl hl (by decide) rfl (fun ls hl => ?_)
  refine lv_aload_n hx hb dX0_compress_12 rfl (lv_at hl 1 rfl) ?_
  refine hp_get (C := RX0) (T := TX0) (N := 4) (v := .ref sa) E hm e_h inh0 rfl 3 (by decide) wf_X0_21 rfl dX0_compress_13 ?_
  refine lv_iconst (v := 1) hx hb dX0_compress_16 (by decide) ?_
  refine hp_ialdN E hm e_sa 1 rfl (by decide) (by decide) dX0_compress_17 ?_
  refine lv_istore_n (lv' := [(3, .int (fa 1)), (2, .int (fa 0)), (0, .ref h), (1, .int (nI fr))]) hx hb dX0_compress_18 rfl hl (by decide) rfl (fun ls hl => ?_)
  refine lv_aload_n hx hb dX0_compress_19 rfl (lv_at hl 2 rfl) ?_
  refine hp_get (C := RX0) (T := TX0) (N := 4) (v := .ref sa) E hm e_h inh0 rfl 3 (by decide) wf_X0_21 rfl dX0_compress_20 ?_
  refine lv_iconst (v := 2) hx hb dX0_compress_23 (by decide) ?_
  refine hp_ialdN E hm e_sa 2 rfl (by decide) (by decide) dX0_compress_24 ?_
  refine lv_istore (lv' := [(4, .int (fa 2)), (3, .int (fa 1)), (2, .int (fa 0)), (0, .ref h), (1, .int (nI fr))]) hx hb dX0_compress_25 hl (by decide) rfl (fun ls hl => ?_)
  refine lv_aload_n hx hb dX0_compress_27 rfl (lv_at hl 3 rfl) ?_
  refine hp_get (C := RX0) (T := TX0) (N := 4) (v := .ref sa) E hm e_h inh0 rfl 3 (by decide) wf_X0_21 rfl dX0_compress_28 ?_
  refine lv_iconst (v := 3) hx hb dX0_compress_31 (by decide) ?_
  refine hp_ialdN E hm e_sa 3 rfl (by decide) (by decide) dX0_compress_32 ?_
  refine lv_istore (lv' := [(5, .int (fa 3)), (4, .int (fa 2)), (3, .int (fa 1)), (2, .int (fa 0)), (0, .ref h), (1, .int (nI fr))]) hx hb dX0_compress_33 hl (by decide) rfl (fun ls hl => ?_)
  refine lv_aload_n hx hb dX0_compress_35 rfl (lv_at hl 4 rfl) ?_
  refine hp_get (C := RX0) (T := TX0) (N := 4) (v := .ref sa) E hm e_h inh0 rfl 3 (by decide) wf_X0_21 rfl dX0_compress_36 ?_
  refine lv_iconst (v := 4) hx hb dX0_compress_39 (by decide) ?_
  refine hp_ialdN E hm e_sa 4 rfl (by decide) (by decide) dX0_compress_40 ?_
  refine lv_istore (lv' := [(6, .int (fa 4)), (5, .int (fa 3)), (4, .int (fa 2)), (3, .int (fa 1)), (2, .int (fa 0)), (0, .ref h), (1, .int (nI fr))]) hx hb dX0_compress_41 hl (by decide) rfl (fun ls hl => ?_)
  refine lv_aload_n hx hb dX0_compress_43 rfl (lv_at hl 5 rfl) ?_
  refine hp_get (C := RX0) (T := TX0) (N := 4) (v := .ref sa) E hm e_h inh0 rfl 3 (by decide) wf_X0_21 rfl dX0_compress_44 ?_
  refine lv_iconst (v := 5) hx hb dX0_compress_47 (by decide) ?_
  refine hp_ialdN E hm e_sa 5 rfl (by decide) (by decide) dX0_compress_48 ?_
  refine lv_istore (lv' := [(7, .int (fa 5)), (6, .int (fa 4)), (5, .int (fa 3)), (4, .int (fa 2)), (3, .int (fa 1)), (2, .int (fa 0)), (0, .ref h), (1, .int (nI fr))]) hx hb dX0_compress_49 hl (by decide) rfl (fun ls hl => ?_)
  refine lv_aload_n hx hb dX0_compress_51 rfl (lv_at hl 6 rfl) ?_
  refine hp_get (C := RX0) (T := TX0) (N := 4) (v := .ref sa) E hm e_h inh0 rfl 3 (by decide) wf_X0_21 rfl dX0_compress_52 ?_
  refine lv_bipush (v := 6) hx hb dX0_compress_55 (by decide) ?_
  refine hp_ialdN E hm e_sa 6 rfl (by decide) (by decide) dX0_compress_57 ?_
  refine lv_istore (lv' := [(8, .int (fa 6)), (7, .int (fa 5)), (6, .int (fa 4)), (5, .int (fa 3)), (4, .int (fa 2)), (3, .int (fa 1)), (2, .int (fa 0)), (0, .ref h), (1, .int (nI fr))]) hx hb dX0_compress_58 hl (by decide) rfl (fun ls hl => ?_)
  refine lv_aload_n hx hb dX0_compress_60 rfl (lv_at hl 7 rfl) ?_
  refine hp_get (C := RX0) (T := TX0) (N := 4) (v := .ref sa) E hm e_h inh0 rfl 3 (by decide) wf_X0_21 rfl dX0_compress_61 ?_
  refine lv_bipush (v := 7) hx hb dX0_compress_64 (by decide) ?_
  refine hp_ialdN E hm e_sa 7 rfl (by decide) (by decide) dX0_compress_66 ?_
  refine lv_istore (lv' := [(9, .int (fa 7)), (8, .int (fa 6)), (7, .int (fa 5)), (6, .int (fa 4)), (5, .int (fa 3)), (4, .int (fa 2)), (3, .int (fa 1)), (2, .int (fa 0)), (0, .ref h), (1, .int (nI fr))]) hx hb dX0_compress_67 hl (by decide) rfl (fun ls hl => ?_)
  refine lv_iconst (v := 0) hx hb dX0_compress_69 (by decide) ?_
  refine lv_istore (lv' := [(10, .int 0), (9, .int (fa 7)), (8, .int (fa 6)), (7, .int (fa 5)), (6, .int (fa 4)), (5, .int (fa 3)), (4, .int (fa 2)), (3, .int (fa 1)), (2, .int (fa 0)), (0, .ref h), (1, .int (nI fr))]) hx hb dX0_compress_70 hl (by decide) rfl (fun ls hl => ?_)
  have lp : ∀ (n i : Nat) (x2 x3 x4 x5 x6 x7 x8 x9 : Int32) (H : Heap) (locs : List Loc) (ls : Array Slot), 65 ≤ i + n → i ≤ 64 → (x2, x3, x4, x5, x6, x7, x8, x9) = rdF f9 (of8 fa) i → hp g Mx1 H → va_S (hA g) s.heap H locs → lv_has ls 16 [(10, .int (nI i)), (2, .int x2), (3, .int x3), (4, .int x4), (5, .int x5), (6, .int x6), (7, .int x7), (8, .int x8), (9, .int x9), (0, .ref h), (1, .int (nI fr))] → W p l e (hR 3 0 0) s m [.ref h, .int (nI fr)].toArray below meth c H locs 0 0 Q (F0 m 72 ls []) := by
    intro n
    induction n with
    | zero => intro i x2 x3 x4 x5 x6 x7 x8 x9 H locs ls hn hi hr; exact absurd hn (by omega)
    | succ n ih =>
      intro i x2 x3 x4 x5 x6 x7 x8 x9 H locs ls hn hi hr hm hS hl
      refine lv_iload hx hb dX0_compress_72 (lv_at hl 0 rfl) ?_
      refine lv_bipush (v := 64) hx hb dX0_compress_74 (by decide) ?_
      refine lv_icmp_ge (tgt := 223) hx hb dX0_compress_76 (by decide) (fun c_76 => ?_) (fun c_76 => ?_)
      · have c_76 : 64 ≤ i := (nI_leI (a := 64) (b := i) (by decide) (by omega)).mp c_76
        have e_sc0 := e_sc
        refine lv_aload_n hx hb dX0_compress_223 rfl (lv_at hl 9 rfl) ?_
        refine hp_get (C := RX0) (T := TX0) (N := 4) (v := .ref sa) E hm e_h inh0 rfl 3 (by decide) wf_X0_21 rfl dX0_compress_224 ?_
        refine lv_iconst (v := 0) hx hb dX0_compress_227 (by decide) ?_
        refine lv_dup2_11 hx hb dX0_compress_228 rfl rfl ?_
        refine hp_ialdN E hm e_sa 0 rfl (by decide) (by decide) dX0_compress_229 ?_
        refine lv_iload_n hx hb dX0_compress_230 rfl (lv_at hl 1 rfl) ?_
        refine lv_iadd hx hb dX0_compress_231 ?_
        refine hp_iastN E hm hS e_sa 0 rfl (by decide) (by decide) dX0_compress_232 (fun H locs hm hS => ?_)
        obtain ⟨Mx3, hMx3⟩ : ∃ Mz, Mz = hm_up Mx1 sa (aI g 8 (upd fa 0 ((fa 0) + x2))) := ⟨_, rfl⟩
        have hm : hp g Mx3 H := by rw [hMx3]; exact hm
        have e_h : Mx3 h = some (.inr (0, [.ref nm, .ref ms, .ref sc, .ref sa])) := by rw [hMx3]; exact up_at (ne_lk e_h e_sa (by simp)) e_h
        have e_sc : Mx3 sc = some (aI g 64 f9) := by rw [hMx3]; exact up_at n_3 e_sc
        have e_sa : Mx3 sa = some (aI g 8 (upd fa 0 ((fa 0) + x2))) := by rw [hMx3]; exact up_eq
        refine lv_aload_n hx hb dX0_compress_233 rfl (lv_at hl 9 rfl) ?_
        refine hp_get (C := RX0) (T := TX0) (N := 4) (v := .ref sa) E hm e_h inh0 rfl 3 (by decide) wf_X0_21 rfl dX0_compress_234 ?_
        refine lv_iconst (v := 1) hx hb dX0_compress_237 (by decide) ?_
        refine lv_dup2_11 hx hb dX0_compress_238 rfl rfl ?_
        refine hp_ialdN E hm e_sa 1 rfl (by decide) (by decide) dX0_compress_239 ?_
        refine lv_iload_n hx hb dX0_compress_240 rfl (lv_at hl 2 rfl) ?_
        refine lv_iadd hx hb dX0_compress_241 ?_
        refine hp_iastN E hm hS e_sa 1 rfl (by decide) (by decide) dX0_compress_242 (fun H locs hm hS => ?_)
        obtain ⟨Mx4, hMx4⟩ : ∃ Mz, Mz = hm_up Mx3 sa (aI g 8 (upd (upd fa 0 ((fa 0) + x2)) 1 (((upd fa 0 ((fa 0) + x2)) 1) + x3))) := ⟨_, rfl⟩
        have hm : hp g Mx4 H := by rw [hMx4]; exact hm
        have e_h : Mx4 h = some (.inr (0, [.ref nm, .ref ms, .ref sc, .ref sa])) := by rw [hMx4]; exact up_at (ne_lk e_h e_sa (by simp)) e_h
        have e_sc : Mx4 sc = some (aI g 64 f9) := by rw [hMx4]; exact up_at n_3 e_sc
        have e_sa : Mx4 sa = some (aI g 8 (upd (upd fa 0 ((fa 0) + x2)) 1 (((upd fa 0 ((fa 0) + x2)) 1) + x3))) := by rw [hMx4]; exact up_eq
        refine lv_aload_n hx hb dX0_compress_243 rfl (lv_at hl 9 rfl) ?_
        refine hp_get (C := RX0) (T := TX0) (N := 4) (v := .ref sa) E hm e_h inh0 rfl 3 (by decide) wf_X0_21 rfl dX0_compress_244 ?_
        refine lv_iconst (v := 2) hx hb dX0_compress_247 (by decide) ?_
        refine lv_dup2_11 hx hb dX0_compress_248 rfl rfl ?_
        refine hp_ialdN E hm e_sa 2 rfl (by decide) (by decide) dX0_compress_249 ?_
        refine lv_iload hx hb dX0_compress_250 (lv_at hl 3 rfl) ?_
        refine lv_iadd hx hb dX0_compress_252 ?_
        refine hp_iastN E hm hS e_sa 2 rfl (by decide) (by decide) dX0_compress_253 (fun H locs hm hS => ?_)
        obtain ⟨Mx5, hMx5⟩ : ∃ Mz, Mz = hm_up Mx4 sa (aI g 8 (upd (upd (upd fa 0 ((fa 0) + x2)) 1 (((upd fa 0 ((fa 0) + x2)) 1) + x3)) 2 (((upd (upd fa 0 ((fa 0) + x2)) 1 (((upd fa 0 ((fa 0) + x2)) 1) + x3)) 2) + x4))) := ⟨_, rfl⟩
        have hm : hp g Mx5 H := by rw [hMx5]; exact hm
        have e_h : Mx5 h = some (.inr (0, [.ref nm, .ref ms, .ref sc, .ref sa])) := by rw [hMx5]; exact up_at (ne_lk e_h e_sa (by simp)) e_h
        have e_sc : Mx5 sc = some (aI g 64 f9) := by rw [hMx5]; exact up_at n_3 e_sc
        have e_sa : Mx5 sa = some (aI g 8 (upd (upd (upd fa 0 ((fa 0) + x2)) 1 (((upd fa 0 ((fa 0) + x2)) 1) + x3)) 2 (((upd (upd fa 0 ((fa 0) + x2)) 1 (((upd fa 0 ((fa 0) + x2)) 1) + x3)) 2) + x4))) := by rw [hMx5]; exact up_eq
        refine lv_aload_n hx hb dX0_compress_254 rfl (lv_at hl 9 rfl) ?_
        refine hp_get (C := RX0) (T := TX0) (N := 4) (v := .ref sa) E hm e_h inh0 rfl 3 (by decide) wf_X0_21 rfl dX0_compress_255 ?_
        refine lv_iconst (v := 3) hx hb dX0_compress_258 (by decide) ?_
        refine lv_dup2_11 hx hb dX0_compress_259 rfl rfl ?_
        refine hp_ialdN E hm e_sa 3 rfl (by decide) (by decide) dX0_compress_260 ?_
        refine lv_iload hx hb dX0_compress_261 (lv_at hl 4 rfl) ?_
        refine lv_iadd hx hb dX0_compress_263 ?_
        refine hp_iastN E hm hS e_sa 3 rfl (by decide) (by decide) dX0_compress_264 (fun H locs hm hS => ?_)
        obtain ⟨Mx6, hMx6⟩ : ∃ Mz, Mz = hm_up Mx5 sa (aI g 8 (upd (upd (upd (upd fa 0 ((fa 0) + x2)) 1 (((upd fa 0 ((fa 0) + x2)) 1) + x3)) 2 (((upd (upd fa 0 ((fa 0) + x2)) 1 (((upd fa 0 ((fa 0) + x2)) 1) + x3)) 2) + x4)) 3 (((upd (upd (upd fa 0 ((fa 0) + x2)) 1 (((upd fa 0 ((fa 0) + x2)) 1) + x3)) 2 (((upd (upd fa 0 ((fa 0) + x2)) 1 (((upd fa 0 ((fa 0) + x2)) 1) + x3)) 2) + x4)) 3) + x5))) := ⟨_, rfl⟩
        have hm : hp g Mx6 H := by rw [hMx6]; exact hm
        have e_h : Mx6 h = some (.inr (0, [.ref nm, .ref ms, .ref sc, .ref sa])) := by rw [hMx6]; exact up_at (ne_lk e_h e_sa (by simp)) e_h
        have e_sc : Mx6 sc = some (aI g 64 f9) := by rw [hMx6]; exact up_at n_3 e_sc
        have e_sa : Mx6 sa = some (aI g 8 (upd (upd (upd (upd fa 0 ((fa 0) + x2)) 1 (((upd fa 0 ((fa 0) + x2)) 1) + x3)) 2 (((upd (upd fa 0 ((fa 0) + x2)) 1 (((upd fa 0 ((fa 0) + x2)) 1) + x3)) 2) + x4)) 3 (((upd (upd (upd fa 0 ((fa 0) + x2)) 1 (((upd fa 0 ((fa 0) + x2)) 1) + x3)) 2 (((upd (upd fa 0 ((fa 0) + x2)) 1 (((upd fa 0 ((fa 0) + x2)) 1) + x3)) 2) + x4)) 3) + x5))) := by rw [hMx6]; exact up_eq
        refine lv_aload_n hx hb dX0_compress_265 rfl (lv_at hl 9 rfl) ?_
        refine hp_get (C := RX0) (T := TX0) (N := 4) (v := .ref sa) E hm e_h inh0 rfl 3 (by decide) wf_X0_21 rfl dX0_compress_266 ?_
        refine lv_iconst (v := 4) hx hb dX0_compress_269 (by decide) ?_
        refine lv_dup2_11 hx hb dX0_compress_270 rfl rfl ?_
        refine hp_ialdN E hm e_sa 4 rfl (by decide) (by decide) dX0_compress_271 ?_
        refine lv_iload hx hb dX0_compress_272 (lv_at hl 5 rfl) ?_
        refine lv_iadd hx hb dX0_compress_274 ?_
        refine hp_iastN E hm hS e_sa 4 rfl (by decide) (by decide) dX0_compress_275 (fun H locs hm hS => ?_)
        obtain ⟨Mx7, hMx7⟩ : ∃ Mz, Mz = hm_up Mx6 sa (aI g 8 (upd (upd (upd (upd (upd fa 0 ((fa 0) + x2)) 1 (((upd fa 0 ((fa 0) + x2)) 1) + x3)) 2 (((upd (upd fa 0 ((fa 0) + x2)) 1 (((upd fa 0 ((fa 0) + x2)) 1) + x3)) 2) + x4)) 3 (((upd (upd (upd fa 0 ((fa 0) + x2)) 1 (((upd fa 0 ((fa 0) + x2)) 1) + x3)) 2 (((upd (upd fa 0 ((fa 0) + x2)) 1 (((upd fa 0 ((fa 0) + x2)) 1) + x3)) 2) + x4)) 3) + x5)) 4 (((upd (upd (upd (upd fa 0 ((fa 0) + x2)) 1 (((upd fa 0 ((fa 0) + x2)) 1) + x3)) 2 (((upd (upd fa 0 ((fa 0) + x2)) 1 (((upd fa 0 ((fa 0) + x2)) 1) + x3)) 2) + x4)) 3 (((upd (upd (upd fa 0 ((fa 0) + x2)) 1 (((upd fa 0 ((fa 0) + x2)) 1) + x3)) 2 (((upd (upd fa 0 ((fa 0) + x2)) 1 (((upd fa 0 ((fa 0) + x2)) 1) + x3)) 2) + x4)) 3) + x5)) 4) + x6))) := ⟨_, rfl⟩
        have hm : hp g Mx7 H := by rw [hMx7]; exact hm
        have e_h : Mx7 h = some (.inr (0, [.ref nm, .ref ms, .ref sc, .ref sa])) := by rw [hMx7]; exact up_at (ne_lk e_h e_sa (by simp)) e_h
        have e_sc : Mx7 sc = some (aI g 64 f9) := by rw [hMx7]; exact up_at n_3 e_sc
        have e_sa : Mx7 sa = some (aI g 8 (upd (upd (upd (upd (upd fa 0 ((fa 0) + x2)) 1 (((upd fa 0 ((fa 0) + x2)) 1) + x3)) 2 (((upd (upd fa 0 ((fa 0) + x2)) 1 (((upd fa 0 ((fa 0) + x2)) 1) + x3)) 2) + x4)) 3 (((upd (upd (upd fa 0 ((fa 0) + x2)) 1 (((upd fa 0 ((fa 0) + x2)) 1) + x3)) 2 (((upd (upd fa 0 ((fa 0) + x2)) 1 (((upd fa 0 ((fa 0) + x2)) 1) + x3)) 2) + x4)) 3) + x5)) 4 (((upd (upd (upd (upd fa 0 ((fa 0) + x2)) 1 (((upd fa 0 ((fa 0) + x2)) 1) + x3)) 2 (((upd (upd fa 0 ((fa 0) + x2)) 1 (((upd fa 0 ((fa 0) + x2)) 1) + x3)) 2) + x4)) 3 (((upd (upd (upd fa 0 ((fa 0) + x2)) 1 (((upd fa 0 ((fa 0) + x2)) 1) + x3)) 2 (((upd (upd fa 0 ((fa 0) + x2)) 1 (((upd fa 0 ((fa 0) + x2)) 1) + x3)) 2) + x4)) 3) + x5)) 4) + x6))) := by rw [hMx7]; exact up_eq
        refine lv_aload_n hx hb dX0_compress_276 rfl (lv_at hl 9 rfl) ?_
        refine hp_get (C := RX0) (T := TX0) (N := 4) (v := .ref sa) E hm e_h inh0 rfl 3 (by decide) wf_X0_21 rfl dX0_compress_277 ?_
        refine lv_iconst (v := 5) hx hb dX0_compress_280 (by decide) ?_
        refine lv_dup2_11 hx hb dX0_compress_281 rfl rfl ?_
        refine hp_ialdN E hm e_sa 5 rfl (by decide) (by decide) dX0_compress_282 ?_
        refine lv_iload hx hb dX0_compress_283 (lv_at hl 6 rfl) ?_
        refine lv_iadd hx hb dX0_compress_285 ?_
        refine hp_iastN E hm hS e_sa 5 rfl (by decide) (by decide) dX0_compress_286 (fun H locs hm hS => ?_)
        obtain ⟨Mx8, hMx8⟩ : ∃ Mz, Mz = hm_up Mx7 sa (aI g 8 (upd (upd (upd (upd (upd (upd fa 0 ((fa 0) + x2)) 1 (((upd fa 0 ((fa 0) + x2)) 1) + x3)) 2 (((upd (upd fa 0 ((fa 0) + x2)) 1 (((upd fa 0 ((fa 0) + x2)) 1) + x3)) 2) + x4)) 3 (((upd (upd (upd fa 0 ((fa 0) + x2)) 1 (((upd fa 0 ((fa 0) + x2)) 1) + x3)) 2 (((upd (upd fa 0 ((fa 0) + x2)) 1 (((upd fa 0 ((fa 0) + x2)) 1) + x3)) 2) + x4)) 3) + x5)) 4 (((upd (upd (upd (upd fa 0 ((fa 0) + x2)) 1 (((upd fa 0 ((fa 0) + x2)) 1) + x3)) 2 (((upd (upd fa 0 ((fa 0) + x2)) 1 (((upd fa 0 ((fa 0) + x2)) 1) + x3)) 2) + x4)) 3 (((upd (upd (upd fa 0 ((fa 0) + x2)) 1 (((upd fa 0 ((fa 0) + x2)) 1) + x3)) 2 (((upd (upd fa 0 ((fa 0) + x2)) 1 (((upd fa 0 ((fa 0) + x2)) 1) + x3)) 2) + x4)) 3) + x5)) 4) + x6)) 5 (((upd (upd (upd (upd (upd fa 0 ((fa 0) + x2)) 1 (((upd fa 0 ((fa 0) + x2)) 1) + x3)) 2 (((upd (upd fa 0 ((fa 0) + x2)) 1 (((upd fa 0 ((fa 0) + x2)) 1) + x3)) 2) + x4)) 3 (((upd (upd (upd fa 0 ((fa 0) + x2)) 1 (((upd fa 0 ((fa 0) + x2)) 1) + x3)) 2 (((upd (upd fa 0 ((fa 0) + x2)) 1 (((upd fa 0 ((fa 0) + x2)) 1) + x3)) 2) + x4)) 3) + x5)) 4 (((upd (upd (upd (upd fa 0 ((fa 0) + x2)) 1 (((upd fa 0 ((fa 0) + x2)) 1) + x3)) 2 (((upd (upd fa 0 ((fa 0) + x2)) 1 (((upd fa 0 ((fa 0) + x2)) 1) + x3)) 2) + x4)) 3 (((upd (upd (upd fa 0 ((fa 0) + x2)) 1 (((upd fa 0 ((fa 0) + x2)) 1) + x3)) 2 (((upd (upd fa 0 ((fa 0) + x2)) 1 (((upd fa 0 ((fa 0) + x2)) 1) + x3)) 2) + x4)) 3) + x5)) 4) + x6)) 5) + x7))) := ⟨_, rfl⟩
        have hm : hp g Mx8 H := by rw [hMx8]; exact hm
        have e_h : Mx8 h = some (.inr (0, [.ref nm, .ref ms, .ref sc, .ref sa])) := by rw [hMx8]; exact up_at (ne_lk e_h e_sa (by simp)) e_h
        have e_sc : Mx8 sc = some (aI g 64 f9) := by rw [hMx8]; exact up_at n_3 e_sc
        have e_sa : Mx8 sa = some (aI g 8 (upd (upd (upd (upd (upd (upd fa 0 ((fa 0) + x2)) 1 (((upd fa 0 ((fa 0) + x2)) 1) + x3)) 2 (((upd (upd fa 0 ((fa 0) + x2)) 1 (((upd fa 0 ((fa 0) + x2)) 1) + x3)) 2) + x4)) 3 (((upd (upd (upd fa 0 ((fa 0) + x2)) 1 (((upd fa 0 ((fa 0) + x2)) 1) + x3)) 2 (((upd (upd fa 0 ((fa 0) + x2)) 1 (((upd fa 0 ((fa 0) + x2)) 1) + x3)) 2) + x4)) 3) + x5)) 4 (((upd (upd (upd (upd fa 0 ((fa 0) + x2)) 1 (((upd fa 0 ((fa 0) + x2)) 1) + x3)) 2 (((upd (upd fa 0 ((fa 0) + x2)) 1 (((upd fa 0 ((fa 0) + x2)) 1) + x3)) 2) + x4)) 3 (((upd (upd (upd fa 0 ((fa 0) + x2)) 1 (((upd fa 0 ((fa 0) + x2)) 1) + x3)) 2 (((upd (upd fa 0 ((fa 0) + x2)) 1 (((upd fa 0 ((fa 0) + x2)) 1) + x3)) 2) + x4)) 3) + x5)) 4) + x6)) 5 (((upd (upd (upd (upd (upd fa 0 ((fa 0) + x2)) 1 (((upd fa 0 ((fa 0) + x2)) 1) + x3)) 2 (((upd (upd fa 0 ((fa 0) + x2)) 1 (((upd fa 0 ((fa 0) + x2)) 1) + x3)) 2) + x4)) 3 (((upd (upd (upd fa 0 ((fa 0) + x2)) 1 (((upd fa 0 ((fa 0) + x2)) 1) + x3)) 2 (((upd (upd fa 0 ((fa 0) + x2)) 1 (((upd fa 0 ((fa 0) + x2)) 1) + x3)) 2) + x4)) 3) + x5)) 4 (((upd (upd (upd (upd fa 0 ((fa 0) + x2)) 1 (((upd fa 0 ((fa 0) + x2)) 1) + x3)) 2 (((upd (upd fa 0 ((fa 0) + x2)) 1 (((upd fa 0 ((fa 0) + x2)) 1) + x3)) 2) + x4)) 3 (((upd (upd (upd fa 0 ((fa 0) + x2)) 1 (((upd fa 0 ((fa 0) + x2)) 1) + x3)) 2 (((upd (upd fa 0 ((fa 0) + x2)) 1 (((upd fa 0 ((fa 0) + x2)) 1) + x3)) 2) + x4)) 3) + x5)) 4) + x6)) 5) + x7))) := by rw [hMx8]; exact up_eq
        refine lv_aload_n hx hb dX0_compress_287 rfl (lv_at hl 9 rfl) ?_
        refine hp_get (C := RX0) (T := TX0) (N := 4) (v := .ref sa) E hm e_h inh0 rfl 3 (by decide) wf_X0_21 rfl dX0_compress_288 ?_
        refine lv_bipush (v := 6) hx hb dX0_compress_291 (by decide) ?_
        refine lv_dup2_11 hx hb dX0_compress_293 rfl rfl ?_
        refine hp_ialdN E hm e_sa 6 rfl (by decide) (by decide) dX0_compress_294 ?_
        refine lv_iload hx hb dX0_compress_295 (lv_at hl 7 rfl) ?_
        refine lv_iadd hx hb dX0_compress_297 ?_
        refine hp_iastN E hm hS e_sa 6 rfl (by decide) (by decide) dX0_compress_298 (fun H locs hm hS => ?_)
        obtain ⟨Mx9, hMx9⟩ : ∃ Mz, Mz = hm_up Mx8 sa (aI g 8 (upd (upd (upd (upd (upd (upd (upd fa 0 ((fa 0) + x2)) 1 (((upd fa 0 ((fa 0) + x2)) 1) + x3)) 2 (((upd (upd fa 0 ((fa 0) + x2)) 1 (((upd fa 0 ((fa 0) + x2)) 1) + x3)) 2) + x4)) 3 (((upd (upd (upd fa 0 ((fa 0) + x2)) 1 (((upd fa 0 ((fa 0) + x2)) 1) + x3)) 2 (((upd (upd fa 0 ((fa 0) + x2)) 1 (((upd fa 0 ((fa 0) + x2)) 1) + x3)) 2) + x4)) 3) + x5)) 4 (((upd (upd (upd (upd fa 0 ((fa 0) + x2)) 1 (((upd fa 0 ((fa 0) + x2)) 1) + x3)) 2 (((upd (upd fa 0 ((fa 0) + x2)) 1 (((upd fa 0 ((fa 0) + x2)) 1) + x3)) 2) + x4)) 3 (((upd (upd (upd fa 0 ((fa 0) + x2)) 1 (((upd fa 0 ((fa 0) + x2)) 1) + x3)) 2 (((upd (upd fa 0 ((fa 0) + x2)) 1 (((upd fa 0 ((fa 0) + x2)) 1) + x3)) 2) + x4)) 3) + x5)) 4) + x6)) 5 (((upd (upd (upd (upd (upd fa 0 ((fa 0) + x2)) 1 (((upd fa 0 ((fa 0) + x2)) 1) + x3)) 2 (((upd (upd fa 0 ((fa 0) + x2)) 1 (((upd fa 0 ((fa 0) + x2)) 1) + x3)) 2) + x4)) 3 (((upd (upd (upd fa 0 ((fa 0) + x2)) 1 (((upd fa 0 ((fa 0) + x2)) 1) + x3)) 2 (((upd (upd fa 0 ((fa 0) + x2)) 1 (((upd fa 0 ((fa 0) + x2)) 1) + x3)) 2) + x4)) 3) + x5)) 4 (((upd (upd (upd (upd fa 0 ((fa 0) + x2)) 1 (((upd fa 0 ((fa 0) + x2)) 1) + x3)) 2 (((upd (upd fa 0 ((fa 0) + x2)) 1 (((upd fa 0 ((fa 0) + x2)) 1) + x3)) 2) + x4)) 3 (((upd (upd (upd fa 0 ((fa 0) + x2)) 1 (((upd fa 0 ((fa 0) + x2)) 1) + x3)) 2 (((upd (upd fa 0 ((fa 0) + x2)) 1 (((upd fa 0 ((fa 0) + x2)) 1) + x3)) 2) + x4)) 3) + x5)) 4) + x6)) 5) + x7)) 6 (((upd (upd (upd (upd (upd (upd fa 0 ((fa 0) + x2)) 1 (((upd fa 0 ((fa 0) + x2)) 1) + x3)) 2 (((upd (upd fa 0 ((fa 0) + x2)) 1 (((upd fa 0 ((fa 0) + x2)) 1) + x3)) 2) + x4)) 3 (((upd (upd (upd fa 0 ((fa 0) + x2)) 1 (((upd fa 0 ((fa 0) + x2)) 1) + x3)) 2 (((upd (upd fa 0 ((fa 0) + x2)) 1 (((upd fa 0 ((fa 0) + x2)) 1) + x3)) 2) + x4)) 3) + x5)) 4 (((upd (upd (upd (upd fa 0 ((fa 0) + x2)) 1 (((upd fa 0 ((fa 0) + x2)) 1) + x3)) 2 (((upd (upd fa 0 ((fa 0) + x2)) 1 (((upd fa 0 ((fa 0) + x2)) 1) + x3)) 2) + x4)) 3 (((upd (upd (upd fa 0 ((fa 0) + x2)) 1 (((upd fa 0 ((fa 0) + x2)) 1) + x3)) 2 (((upd (upd fa 0 ((fa 0) + x2)) 1 (((upd fa 0 ((fa 0) + x2)) 1) + x3)) 2) + x4)) 3) + x5)) 4) + x6)) 5 (((upd (upd (upd (upd (upd fa 0 ((fa 0) + x2)) 1 (((upd fa 0 ((fa 0) + x2)) 1) + x3)) 2 (((upd (upd fa 0 ((fa 0) + x2)) 1 (((upd fa 0 ((fa 0) + x2)) 1) + x3)) 2) + x4)) 3 (((upd (upd (upd fa 0 ((fa 0) + x2)) 1 (((upd fa 0 ((fa 0) + x2)) 1) + x3)) 2 (((upd (upd fa 0 ((fa 0) + x2)) 1 (((upd fa 0 ((fa 0) + x2)) 1) + x3)) 2) + x4)) 3) + x5)) 4 (((upd (upd (upd (upd fa 0 ((fa 0) + x2)) 1 (((upd fa 0 ((fa 0) + x2)) 1) + x3)) 2 (((upd (upd fa 0 ((fa 0) + x2)) 1 (((upd fa 0 ((fa 0) + x2)) 1) + x3)) 2) + x4)) 3 (((upd (upd (upd fa 0 ((fa 0) + x2)) 1 (((upd fa 0 ((fa 0) + x2)) 1) + x3)) 2 (((upd (upd fa 0 ((fa 0) + x2)) 1 (((upd fa 0 ((fa 0) + x2)) 1) + x3)) 2) + x4)) 3) + x5)) 4) + x6)) 5) + x7)) 6) + x8))) := ⟨_, rfl⟩
        have hm : hp g Mx9 H := by rw [hMx9]; exact hm
        have e_h : Mx9 h = some (.inr (0, [.ref nm, .ref ms, .ref sc, .ref sa])) := by rw [hMx9]; exact up_at (ne_lk e_h e_sa (by simp)) e_h
        have e_sc : Mx9 sc = some (aI g 64 f9) := by rw [hMx9]; exact up_at n_3 e_sc
        have e_sa : Mx9 sa = some (aI g 8 (upd (upd (upd (upd (upd (upd (upd fa 0 ((fa 0) + x2)) 1 (((upd fa 0 ((fa 0) + x2)) 1) + x3)) 2 (((upd (upd fa 0 ((fa 0) + x2)) 1 (((upd fa 0 ((fa 0) + x2)) 1) + x3)) 2) + x4)) 3 (((upd (upd (upd fa 0 ((fa 0) + x2)) 1 (((upd fa 0 ((fa 0) + x2)) 1) + x3)) 2 (((upd (upd fa 0 ((fa 0) + x2)) 1 (((upd fa 0 ((fa 0) + x2)) 1) + x3)) 2) + x4)) 3) + x5)) 4 (((upd (upd (upd (upd fa 0 ((fa 0) + x2)) 1 (((upd fa 0 ((fa 0) + x2)) 1) + x3)) 2 (((upd (upd fa 0 ((fa 0) + x2)) 1 (((upd fa 0 ((fa 0) + x2)) 1) + x3)) 2) + x4)) 3 (((upd (upd (upd fa 0 ((fa 0) + x2)) 1 (((upd fa 0 ((fa 0) + x2)) 1) + x3)) 2 (((upd (upd fa 0 ((fa 0) + x2)) 1 (((upd fa 0 ((fa 0) + x2)) 1) + x3)) 2) + x4)) 3) + x5)) 4) + x6)) 5 (((upd (upd (upd (upd (upd fa 0 ((fa 0) + x2)) 1 (((upd fa 0 ((fa 0) + x2)) 1) + x3)) 2 (((upd (upd fa 0 ((fa 0) + x2)) 1 (((upd fa 0 ((fa 0) + x2)) 1) + x3)) 2) + x4)) 3 (((upd (upd (upd fa 0 ((fa 0) + x2)) 1 (((upd fa 0 ((fa 0) + x2)) 1) + x3)) 2 (((upd (upd fa 0 ((fa 0) + x2)) 1 (((upd fa 0 ((fa 0) + x2)) 1) + x3)) 2) + x4)) 3) + x5)) 4 (((upd (upd (upd (upd fa 0 ((fa 0) + x2)) 1 (((upd fa 0 ((fa 0) + x2)) 1) + x3)) 2 (((upd (upd fa 0 ((fa 0) + x2)) 1 (((upd fa 0 ((fa 0) + x2)) 1) + x3)) 2) + x4)) 3 (((upd (upd (upd fa 0 ((fa 0) + x2)) 1 (((upd fa 0 ((fa 0) + x2)) 1) + x3)) 2 (((upd (upd fa 0 ((fa 0) + x2)) 1 (((upd fa 0 ((fa 0) + x2)) 1) + x3)) 2) + x4)) 3) + x5)) 4) + x6)) 5) + x7)) 6 (((upd (upd (upd (upd (upd (upd fa 0 ((fa 0) + x2)) 1 (((upd fa 0 ((fa 0) + x2)) 1) + x3)) 2 (((upd (upd fa 0 ((fa 0) + x2)) 1 (((upd fa 0 ((fa 0) + x2)) 1) + x3)) 2) + x4)) 3 (((upd (upd (upd fa 0 ((fa 0) + x2)) 1 (((upd fa 0 ((fa 0) + x2)) 1) + x3)) 2 (((upd (upd fa 0 ((fa 0) + x2)) 1 (((upd fa 0 ((fa 0) + x2)) 1) + x3)) 2) + x4)) 3) + x5)) 4 (((upd (upd (upd (upd fa 0 ((fa 0) + x2)) 1 (((upd fa 0 ((fa 0) + x2)) 1) + x3)) 2 (((upd (upd fa 0 ((fa 0) + x2)) 1 (((upd fa 0 ((fa 0) + x2)) 1) + x3)) 2) + x4)) 3 (((upd (upd (upd fa 0 ((fa 0) + x2)) 1 (((upd fa 0 ((fa 0) + x2)) 1) + x3)) 2 (((upd (upd fa 0 ((fa 0) + x2)) 1 (((upd fa 0 ((fa 0) + x2)) 1) + x3)) 2) + x4)) 3) + x5)) 4) + x6)) 5 (((upd (upd (upd (upd (upd fa 0 ((fa 0) + x2)) 1 (((upd fa 0 ((fa 0) + x2)) 1) + x3)) 2 (((upd (upd fa 0 ((fa 0) + x2)) 1 (((upd fa 0 ((fa 0) + x2)) 1) + x3)) 2) + x4)) 3 (((upd (upd (upd fa 0 ((fa 0) + x2)) 1 (((upd fa 0 ((fa 0) + x2)) 1) + x3)) 2 (((upd (upd fa 0 ((fa 0) + x2)) 1 (((upd fa 0 ((fa 0) + x2)) 1) + x3)) 2) + x4)) 3) + x5)) 4 (((upd (upd (upd (upd fa 0 ((fa 0) + x2)) 1 (((upd fa 0 ((fa 0) + x2)) 1) + x3)) 2 (((upd (upd fa 0 ((fa 0) + x2)) 1 (((upd fa 0 ((fa 0) + x2)) 1) + x3)) 2) + x4)) 3 (((upd (upd (upd fa 0 ((fa 0) + x2)) 1 (((upd fa 0 ((fa 0) + x2)) 1) + x3)) 2 (((upd (upd fa 0 ((fa 0) + x2)) 1 (((upd fa 0 ((fa 0) + x2)) 1) + x3)) 2) + x4)) 3) + x5)) 4) + x6)) 5) + x7)) 6) + x8))) := by rw [hMx9]; exact up_eq
        refine lv_aload_n hx hb dX0_compress_299 rfl (lv_at hl 9 rfl) ?_
        refine hp_get (C := RX0) (T := TX0) (N := 4) (v := .ref sa) E hm e_h inh0 rfl 3 (by decide) wf_X0_21 rfl dX0_compress_300 ?_
        refine lv_bipush (v := 7) hx hb dX0_compress_303 (by decide) ?_
        refine lv_dup2_11 hx hb dX0_compress_305 rfl rfl ?_
        refine hp_ialdN E hm e_sa 7 rfl (by decide) (by decide) dX0_compress_306 ?_
        refine lv_iload hx hb dX0_compress_307 (lv_at hl 8 rfl) ?_
        refine lv_iadd hx hb dX0_compress_309 ?_
        refine hp_iastN E hm hS e_sa 7 rfl (by decide) (by decide) dX0_compress_310 (fun H locs hm hS => ?_)
        obtain ⟨Mx10, hMx10⟩ : ∃ Mz, Mz = hm_up Mx9 sa (aI g 8 (upd (upd (upd (upd (upd (upd (upd (upd fa 0 ((fa 0) + x2)) 1 (((upd fa 0 ((fa 0) + x2)) 1) + x3)) 2 (((upd (upd fa 0 ((fa 0) + x2)) 1 (((upd fa 0 ((fa 0) + x2)) 1) + x3)) 2) + x4)) 3 (((upd (upd (upd fa 0 ((fa 0) + x2)) 1 (((upd fa 0 ((fa 0) + x2)) 1) + x3)) 2 (((upd (upd fa 0 ((fa 0) + x2)) 1 (((upd fa 0 ((fa 0) + x2)) 1) + x3)) 2) + x4)) 3) + x5)) 4 (((upd (upd (upd (upd fa 0 ((fa 0) + x2)) 1 (((upd fa 0 ((fa 0) + x2)) 1) + x3)) 2 (((upd (upd fa 0 ((fa 0) + x2)) 1 (((upd fa 0 ((fa 0) + x2)) 1) + x3)) 2) + x4)) 3 (((upd (upd (upd fa 0 ((fa 0) + x2)) 1 (((upd fa 0 ((fa 0) + x2)) 1) + x3)) 2 (((upd (upd fa 0 ((fa 0) + x2)) 1 (((upd fa 0 ((fa 0) + x2)) 1) + x3)) 2) + x4)) 3) + x5)) 4) + x6)) 5 (((upd (upd (upd (upd (upd fa 0 ((fa 0) + x2)) 1 (((upd fa 0 ((fa 0) + x2)) 1) + x3)) 2 (((upd (upd fa 0 ((fa 0) + x2)) 1 (((upd fa 0 ((fa 0) + x2)) 1) + x3)) 2) + x4)) 3 (((upd (upd (upd fa 0 ((fa 0) + x2)) 1 (((upd fa 0 ((fa 0) + x2)) 1) + x3)) 2 (((upd (upd fa 0 ((fa 0) + x2)) 1 (((upd fa 0 ((fa 0) + x2)) 1) + x3)) 2) + x4)) 3) + x5)) 4 (((upd (upd (upd (upd fa 0 ((fa 0) + x2)) 1 (((upd fa 0 ((fa 0) + x2)) 1) + x3)) 2 (((upd (upd fa 0 ((fa 0) + x2)) 1 (((upd fa 0 ((fa 0) + x2)) 1) + x3)) 2) + x4)) 3 (((upd (upd (upd fa 0 ((fa 0) + x2)) 1 (((upd fa 0 ((fa 0) + x2)) 1) + x3)) 2 (((upd (upd fa 0 ((fa 0) + x2)) 1 (((upd fa 0 ((fa 0) + x2)) 1) + x3)) 2) + x4)) 3) + x5)) 4) + x6)) 5) + x7)) 6 (((upd (upd (upd (upd (upd (upd fa 0 ((fa 0) + x2)) 1 (((upd fa 0 ((fa 0) + x2)) 1) + x3)) 2 (((upd (upd fa 0 ((fa 0) + x2)) 1 (((upd fa 0 ((fa 0) + x2)) 1) + x3)) 2) + x4)) 3 (((upd (upd (upd fa 0 ((fa 0) + x2)) 1 (((upd fa 0 ((fa 0) + x2)) 1) + x3)) 2 (((upd (upd fa 0 ((fa 0) + x2)) 1 (((upd fa 0 ((fa 0) + x2)) 1) + x3)) 2) + x4)) 3) + x5)) 4 (((upd (upd (upd (upd fa 0 ((fa 0) + x2)) 1 (((upd fa 0 ((fa 0) + x2)) 1) + x3)) 2 (((upd (upd fa 0 ((fa 0) + x2)) 1 (((upd fa 0 ((fa 0) + x2)) 1) + x3)) 2) + x4)) 3 (((upd (upd (upd fa 0 ((fa 0) + x2)) 1 (((upd fa 0 ((fa 0) + x2)) 1) + x3)) 2 (((upd (upd fa 0 ((fa 0) + x2)) 1 (((upd fa 0 ((fa 0) + x2)) 1) + x3)) 2) + x4)) 3) + x5)) 4) + x6)) 5 (((upd (upd (upd (upd (upd fa 0 ((fa 0) + x2)) 1 (((upd fa 0 ((fa 0) + x2)) 1) + x3)) 2 (((upd (upd fa 0 ((fa 0) + x2)) 1 (((upd fa 0 ((fa 0) + x2)) 1) + x3)) 2) + x4)) 3 (((upd (upd (upd fa 0 ((fa 0) + x2)) 1 (((upd fa 0 ((fa 0) + x2)) 1) + x3)) 2 (((upd (upd fa 0 ((fa 0) + x2)) 1 (((upd fa 0 ((fa 0) + x2)) 1) + x3)) 2) + x4)) 3) + x5)) 4 (((upd (upd (upd (upd fa 0 ((fa 0) + x2)) 1 (((upd fa 0 ((fa 0) + x2)) 1) + x3)) 2 (((upd (upd fa 0 ((fa 0) + x2)) 1 (((upd fa 0 ((fa 0) + x2)) 1) + x3)) 2) + x4)) 3 (((upd (upd (upd fa 0 ((fa 0) + x2)) 1 (((upd fa 0 ((fa 0) + x2)) 1) + x3)) 2 (((upd (upd fa 0 ((fa 0) + x2)) 1 (((upd fa 0 ((fa 0) + x2)) 1) + x3)) 2) + x4)) 3) + x5)) 4) + x6)) 5) + x7)) 6) + x8)) 7 (((upd (upd (upd (upd (upd (upd (upd fa 0 ((fa 0) + x2)) 1 (((upd fa 0 ((fa 0) + x2)) 1) + x3)) 2 (((upd (upd fa 0 ((fa 0) + x2)) 1 (((upd fa 0 ((fa 0) + x2)) 1) + x3)) 2) + x4)) 3 (((upd (upd (upd fa 0 ((fa 0) + x2)) 1 (((upd fa 0 ((fa 0) + x2)) 1) + x3)) 2 (((upd (upd fa 0 ((fa 0) + x2)) 1 (((upd fa 0 ((fa 0) + x2)) 1) + x3)) 2) + x4)) 3) + x5)) 4 (((upd (upd (upd (upd fa 0 ((fa 0) + x2)) 1 (((upd fa 0 ((fa 0) + x2)) 1) + x3)) 2 (((upd (upd fa 0 ((fa 0) + x2)) 1 (((upd fa 0 ((fa 0) + x2)) 1) + x3)) 2) + x4)) 3 (((upd (upd (upd fa 0 ((fa 0) + x2)) 1 (((upd fa 0 ((fa 0) + x2)) 1) + x3)) 2 (((upd (upd fa 0 ((fa 0) + x2)) 1 (((upd fa 0 ((fa 0) + x2)) 1) + x3)) 2) + x4)) 3) + x5)) 4) + x6)) 5 (((upd (upd (upd (upd (upd fa 0 ((fa 0) + x2)) 1 (((upd fa 0 ((fa 0) + x2)) 1) + x3)) 2 (((upd (upd fa 0 ((fa 0) + x2)) 1 (((upd fa 0 ((fa 0) + x2)) 1) + x3)) 2) + x4)) 3 (((upd (upd (upd fa 0 ((fa 0) + x2)) 1 (((upd fa 0 ((fa 0) + x2)) 1) + x3)) 2 (((upd (upd fa 0 ((fa 0) + x2)) 1 (((upd fa 0 ((fa 0) + x2)) 1) + x3)) 2) + x4)) 3) + x5)) 4 (((upd (upd (upd (upd fa 0 ((fa 0) + x2)) 1 (((upd fa 0 ((fa 0) + x2)) 1) + x3)) 2 (((upd (upd fa 0 ((fa 0) + x2)) 1 (((upd fa 0 ((fa 0) + x2)) 1) + x3)) 2) + x4)) 3 (((upd (upd (upd fa 0 ((fa 0) + x2)) 1 (((upd fa 0 ((fa 0) + x2)) 1) + x3)) 2 (((upd (upd fa 0 ((fa 0) + x2)) 1 (((upd fa 0 ((fa 0) + x2)) 1) + x3)) 2) + x4)) 3) + x5)) 4) + x6)) 5) + x7)) 6 (((upd (upd (upd (upd (upd (upd fa 0 ((fa 0) + x2)) 1 (((upd fa 0 ((fa 0) + x2)) 1) + x3)) 2 (((upd (upd fa 0 ((fa 0) + x2)) 1 (((upd fa 0 ((fa 0) + x2)) 1) + x3)) 2) + x4)) 3 (((upd (upd (upd fa 0 ((fa 0) + x2)) 1 (((upd fa 0 ((fa 0) + x2)) 1) + x3)) 2 (((upd (upd fa 0 ((fa 0) + x2)) 1 (((upd fa 0 ((fa 0) + x2)) 1) + x3)) 2) + x4)) 3) + x5)) 4 (((upd (upd (upd (upd fa 0 ((fa 0) + x2)) 1 (((upd fa 0 ((fa 0) + x2)) 1) + x3)) 2 (((upd (upd fa 0 ((fa 0) + x2)) 1 (((upd fa 0 ((fa 0) + x2)) 1) + x3)) 2) + x4)) 3 (((upd (upd (upd fa 0 ((fa 0) + x2)) 1 (((upd fa 0 ((fa 0) + x2)) 1) + x3)) 2 (((upd (upd fa 0 ((fa 0) + x2)) 1 (((upd fa 0 ((fa 0) + x2)) 1) + x3)) 2) + x4)) 3) + x5)) 4) + x6)) 5 (((upd (upd (upd (upd (upd fa 0 ((fa 0) + x2)) 1 (((upd fa 0 ((fa 0) + x2)) 1) + x3)) 2 (((upd (upd fa 0 ((fa 0) + x2)) 1 (((upd fa 0 ((fa 0) + x2)) 1) + x3)) 2) + x4)) 3 (((upd (upd (upd fa 0 ((fa 0) + x2)) 1 (((upd fa 0 ((fa 0) + x2)) 1) + x3)) 2 (((upd (upd fa 0 ((fa 0) + x2)) 1 (((upd fa 0 ((fa 0) + x2)) 1) + x3)) 2) + x4)) 3) + x5)) 4 (((upd (upd (upd (upd fa 0 ((fa 0) + x2)) 1 (((upd fa 0 ((fa 0) + x2)) 1) + x3)) 2 (((upd (upd fa 0 ((fa 0) + x2)) 1 (((upd fa 0 ((fa 0) + x2)) 1) + x3)) 2) + x4)) 3 (((upd (upd (upd fa 0 ((fa 0) + x2)) 1 (((upd fa 0 ((fa 0) + x2)) 1) + x3)) 2 (((upd (upd fa 0 ((fa 0) + x2)) 1 (((upd fa 0 ((fa 0) + x2)) 1) + x3)) 2) + x4)) 3) + x5)) 4) + x6)) 5) + x7)) 6) + x8)) 7) + x9))) := ⟨_, rfl⟩
        have hm : hp g Mx10 H := by rw [hMx10]; exact hm
        have e_h : Mx10 h = some (.inr (0, [.ref nm, .ref ms, .ref sc, .ref sa])) := by rw [hMx10]; exact up_at (ne_lk e_h e_sa (by simp)) e_h
        have e_sc : Mx10 sc = some (aI g 64 f9) := by rw [hMx10]; exact up_at n_3 e_sc
        have e_sa : Mx10 sa = some (aI g 8 (upd (upd (upd (upd (upd (upd (upd (upd fa 0 ((fa 0) + x2)) 1 (((upd fa 0 ((fa 0) + x2)) 1) + x3)) 2 (((upd (upd fa 0 ((fa 0) + x2)) 1 (((upd fa 0 ((fa 0) + x2)) 1) + x3)) 2) + x4)) 3 (((upd (upd (upd fa 0 ((fa 0) + x2)) 1 (((upd fa 0 ((fa 0) + x2)) 1) + x3)) 2 (((upd (upd fa 0 ((fa 0) + x2)) 1 (((upd fa 0 ((fa 0) + x2)) 1) + x3)) 2) + x4)) 3) + x5)) 4 (((upd (upd (upd (upd fa 0 ((fa 0) + x2)) 1 (((upd fa 0 ((fa 0) + x2)) 1) + x3)) 2 (((upd (upd fa 0 ((fa 0) + x2)) 1 (((upd fa 0 ((fa 0) + x2)) 1) + x3)) 2) + x4)) 3 (((upd (upd (upd fa 0 ((fa 0) + x2)) 1 (((upd fa 0 ((fa 0) + x2)) 1) + x3)) 2 (((upd (upd fa 0 ((fa 0) + x2)) 1 (((upd fa 0 ((fa 0) + x2)) 1) + x3)) 2) + x4)) 3) + x5)) 4) + x6)) 5 (((upd (upd (upd (upd (upd fa 0 ((fa 0) + x2)) 1 (((upd fa 0 ((fa 0) + x2)) 1) + x3)) 2 (((upd (upd fa 0 ((fa 0) + x2)) 1 (((upd fa 0 ((fa 0) + x2)) 1) + x3)) 2) + x4)) 3 (((upd (upd (upd fa 0 ((fa 0) + x2)) 1 (((upd fa 0 ((fa 0) + x2)) 1) + x3)) 2 (((upd (upd fa 0 ((fa 0) + x2)) 1 (((upd fa 0 ((fa 0) + x2)) 1) + x3)) 2) + x4)) 3) + x5)) 4 (((upd (upd (upd (upd fa 0 ((fa 0) + x2)) 1 (((upd fa 0 ((fa 0) + x2)) 1) + x3)) 2 (((upd (upd fa 0 ((fa 0) + x2)) 1 (((upd fa 0 ((fa 0) + x2)) 1) + x3)) 2) + x4)) 3 (((upd (upd (upd fa 0 ((fa 0) + x2)) 1 (((upd fa 0 ((fa 0) + x2)) 1) + x3)) 2 (((upd (upd fa 0 ((fa 0) + x2)) 1 (((upd fa 0 ((fa 0) + x2)) 1) + x3)) 2) + x4)) 3) + x5)) 4) + x6)) 5) + x7)) 6 (((upd (upd (upd (upd (upd (upd fa 0 ((fa 0) + x2)) 1 (((upd fa 0 ((fa 0) + x2)) 1) + x3)) 2 (((upd (upd fa 0 ((fa 0) + x2)) 1 (((upd fa 0 ((fa 0) + x2)) 1) + x3)) 2) + x4)) 3 (((upd (upd (upd fa 0 ((fa 0) + x2)) 1 (((upd fa 0 ((fa 0) + x2)) 1) + x3)) 2 (((upd (upd fa 0 ((fa 0) + x2)) 1 (((upd fa 0 ((fa 0) + x2)) 1) + x3)) 2) + x4)) 3) + x5)) 4 (((upd (upd (upd (upd fa 0 ((fa 0) + x2)) 1 (((upd fa 0 ((fa 0) + x2)) 1) + x3)) 2 (((upd (upd fa 0 ((fa 0) + x2)) 1 (((upd fa 0 ((fa 0) + x2)) 1) + x3)) 2) + x4)) 3 (((upd (upd (upd fa 0 ((fa 0) + x2)) 1 (((upd fa 0 ((fa 0) + x2)) 1) + x3)) 2 (((upd (upd fa 0 ((fa 0) + x2)) 1 (((upd fa 0 ((fa 0) + x2)) 1) + x3)) 2) + x4)) 3) + x5)) 4) + x6)) 5 (((upd (upd (upd (upd (upd fa 0 ((fa 0) + x2)) 1 (((upd fa 0 ((fa 0) + x2)) 1) + x3)) 2 (((upd (upd fa 0 ((fa 0) + x2)) 1 (((upd fa 0 ((fa 0) + x2)) 1) + x3)) 2) + x4)) 3 (((upd (upd (upd fa 0 ((fa 0) + x2)) 1 (((upd fa 0 ((fa 0) + x2)) 1) + x3)) 2 (((upd (upd fa 0 ((fa 0) + x2)) 1 (((upd fa 0 ((fa 0) + x2)) 1) + x3)) 2) + x4)) 3) + x5)) 4 (((upd (upd (upd (upd fa 0 ((fa 0) + x2)) 1 (((upd fa 0 ((fa 0) + x2)) 1) + x3)) 2 (((upd (upd fa 0 ((fa 0) + x2)) 1 (((upd fa 0 ((fa 0) + x2)) 1) + x3)) 2) + x4)) 3 (((upd (upd (upd fa 0 ((fa 0) + x2)) 1 (((upd fa 0 ((fa 0) + x2)) 1) + x3)) 2 (((upd (upd fa 0 ((fa 0) + x2)) 1 (((upd fa 0 ((fa 0) + x2)) 1) + x3)) 2) + x4)) 3) + x5)) 4) + x6)) 5) + x7)) 6) + x8)) 7 (((upd (upd (upd (upd (upd (upd (upd fa 0 ((fa 0) + x2)) 1 (((upd fa 0 ((fa 0) + x2)) 1) + x3)) 2 (((upd (upd fa 0 ((fa 0) + x2)) 1 (((upd fa 0 ((fa 0) + x2)) 1) + x3)) 2) + x4)) 3 (((upd (upd (upd fa 0 ((fa 0) + x2)) 1 (((upd fa 0 ((fa 0) + x2)) 1) + x3)) 2 (((upd (upd fa 0 ((fa 0) + x2)) 1 (((upd fa 0 ((fa 0) + x2)) 1) + x3)) 2) + x4)) 3) + x5)) 4 (((upd (upd (upd (upd fa 0 ((fa 0) + x2)) 1 (((upd fa 0 ((fa 0) + x2)) 1) + x3)) 2 (((upd (upd fa 0 ((fa 0) + x2)) 1 (((upd fa 0 ((fa 0) + x2)) 1) + x3)) 2) + x4)) 3 (((upd (upd (upd fa 0 ((fa 0) + x2)) 1 (((upd fa 0 ((fa 0) + x2)) 1) + x3)) 2 (((upd (upd fa 0 ((fa 0) + x2)) 1 (((upd fa 0 ((fa 0) + x2)) 1) + x3)) 2) + x4)) 3) + x5)) 4) + x6)) 5 (((upd (upd (upd (upd (upd fa 0 ((fa 0) + x2)) 1 (((upd fa 0 ((fa 0) + x2)) 1) + x3)) 2 (((upd (upd fa 0 ((fa 0) + x2)) 1 (((upd fa 0 ((fa 0) + x2)) 1) + x3)) 2) + x4)) 3 (((upd (upd (upd fa 0 ((fa 0) + x2)) 1 (((upd fa 0 ((fa 0) + x2)) 1) + x3)) 2 (((upd (upd fa 0 ((fa 0) + x2)) 1 (((upd fa 0 ((fa 0) + x2)) 1) + x3)) 2) + x4)) 3) + x5)) 4 (((upd (upd (upd (upd fa 0 ((fa 0) + x2)) 1 (((upd fa 0 ((fa 0) + x2)) 1) + x3)) 2 (((upd (upd fa 0 ((fa 0) + x2)) 1 (((upd fa 0 ((fa 0) + x2)) 1) + x3)) 2) + x4)) 3 (((upd (upd (upd fa 0 ((fa 0) + x2)) 1 (((upd fa 0 ((fa 0) + x2)) 1) + x3)) 2 (((upd (upd fa 0 ((fa 0) + x2)) 1 (((upd fa 0 ((fa 0) + x2)) 1) + x3)) 2) + x4)) 3) + x5)) 4) + x6)) 5) + x7)) 6 (((upd (upd (upd (upd (upd (upd fa 0 ((fa 0) + x2)) 1 (((upd fa 0 ((fa 0) + x2)) 1) + x3)) 2 (((upd (upd fa 0 ((fa 0) + x2)) 1 (((upd fa 0 ((fa 0) + x2)) 1) + x3)) 2) + x4)) 3 (((upd (upd (upd fa 0 ((fa 0) + x2)) 1 (((upd fa 0 ((fa 0) + x2)) 1) + x3)) 2 (((upd (upd fa 0 ((fa 0) + x2)) 1 (((upd fa 0 ((fa 0) + x2)) 1) + x3)) 2) + x4)) 3) + x5)) 4 (((upd (upd (upd (upd fa 0 ((fa 0) + x2)) 1 (((upd fa 0 ((fa 0) + x2)) 1) + x3)) 2 (((upd (upd fa 0 ((fa 0) + x2)) 1 (((upd fa 0 ((fa 0) + x2)) 1) + x3)) 2) + x4)) 3 (((upd (upd (upd fa 0 ((fa 0) + x2)) 1 (((upd fa 0 ((fa 0) + x2)) 1) + x3)) 2 (((upd (upd fa 0 ((fa 0) + x2)) 1 (((upd fa 0 ((fa 0) + x2)) 1) + x3)) 2) + x4)) 3) + x5)) 4) + x6)) 5 (((upd (upd (upd (upd (upd fa 0 ((fa 0) + x2)) 1 (((upd fa 0 ((fa 0) + x2)) 1) + x3)) 2 (((upd (upd fa 0 ((fa 0) + x2)) 1 (((upd fa 0 ((fa 0) + x2)) 1) + x3)) 2) + x4)) 3 (((upd (upd (upd fa 0 ((fa 0) + x2)) 1 (((upd fa 0 ((fa 0) + x2)) 1) + x3)) 2 (((upd (upd fa 0 ((fa 0) + x2)) 1 (((upd fa 0 ((fa 0) + x2)) 1) + x3)) 2) + x4)) 3) + x5)) 4 (((upd (upd (upd (upd fa 0 ((fa 0) + x2)) 1 (((upd fa 0 ((fa 0) + x2)) 1) + x3)) 2 (((upd (upd fa 0 ((fa 0) + x2)) 1 (((upd fa 0 ((fa 0) + x2)) 1) + x3)) 2) + x4)) 3 (((upd (upd (upd fa 0 ((fa 0) + x2)) 1 (((upd fa 0 ((fa 0) + x2)) 1) + x3)) 2 (((upd (upd fa 0 ((fa 0) + x2)) 1 (((upd fa 0 ((fa 0) + x2)) 1) + x3)) 2) + x4)) 3) + x5)) 4) + x6)) 5) + x7)) 6) + x8)) 7) + x9))) := by rw [hMx10]; exact up_eq
        have hfin : (x2, x3, x4, x5, x6, x7, x8, x9) = rdF (schF (fun t => fm (fr + t)) 48) (of8 fa) 64 := by rw [hr, show i = 64 by omega]; exact rdF_w _ 64 hsc
        exact ret dX0_compress_311 hm hS (Nat.le_of_ble_eq_true rfl) (Nat.le_of_ble_eq_true rfl) (⟨f9, _, (by rw [hMx10, up_ne n_3, hMx9, up_ne n_3, hMx8, up_ne n_3, hMx7, up_ne n_3, hMx6, up_ne n_3, hMx5, up_ne n_3, hMx4, up_ne n_3, hMx3, up_ne n_3]; exact e_sc0), e_sa, (fun q h1 h2 => by rw [hMx10, up_ne h2, hMx9, up_ne h2, hMx8, up_ne h2, hMx7, up_ne h2, hMx6, up_ne h2, hMx5, up_ne h2, hMx4, up_ne h2, hMx3, up_ne h2]; exact hfr q h1), fun j hj => by
      show _ = fa j + at8 (rdF _ (of8 fa) 64) j
      rw [← hfin]
      rcases lt8 hj with q | q | q | q | q | q | q | q <;> subst q <;> simp [upd, at8]⟩)
      · have c_76 : ¬ 64 ≤ i := fun h9 => c_76 ((nI_leI (a := 64) (b := i) (by decide) (by omega)).mpr h9)
        refine lv_iload hx hb dX0_compress_79 (lv_at hl 5 rfl) ?_
        refine lv_bipush (v := 6) hx hb dX0_compress_81 (by decide) ?_
        refine hp_ci (hp_runS (np := 2) (k := 1) (mc := 0) (ms := 0) (As := [.int x6, .int 6]) (rest := []) E hm hS (c_X0_turned l g Mx1 x6 6) ms_X0_turned wt_X0_turned wl_X0_45 rfl hl.1 rfl (Nat.le_of_ble_eq_true rfl) dX0_compress_83 ⟨Nat.le_of_ble_eq_true rfl, Nat.le_of_ble_eq_true rfl⟩ ⟨(Nat.le_of_ble_eq_true rfl), (Nat.le_of_ble_eq_true rfl)⟩) hS (fun r11 Mx12 H locs hq13 hm hS => ?_)
        obtain ⟨rfl, h9⟩ := hq13
        rw [h9] at hm
        refine lv_iload hx hb dX0_compress_86 (lv_at hl 5 rfl) ?_
        refine lv_bipush (v := 11) hx hb dX0_compress_88 (by decide) ?_
        refine hp_ci (hp_runS (np := 2) (k := 1) (mc := 0) (ms := 0) (As := [.int x6, .int 11]) (rest := [.int (tur x6 6)]) E hm hS (c_X0_turned l g Mx1 x6 11) ms_X0_turned wt_X0_turned wl_X0_45 rfl hl.1 rfl (Nat.le_of_ble_eq_true rfl) dX0_compress_90 ⟨Nat.le_of_ble_eq_true rfl, Nat.le_of_ble_eq_true rfl⟩ ⟨(Nat.le_of_ble_eq_true rfl), (Nat.le_of_ble_eq_true rfl)⟩) hS (fun r14 Mx15 H locs hq16 hm hS => ?_)
        obtain ⟨rfl, h9⟩ := hq16
        rw [h9] at hm
        refine lv_ixor hx hb dX0_compress_93 ?_
        refine lv_iload hx hb dX0_compress_94 (lv_at hl 5 rfl) ?_
        refine lv_bipush (v := 25) hx hb dX0_compress_96 (by decide) ?_
        refine hp_ci (hp_runS (np := 2) (k := 1) (mc := 0) (ms := 0) (As := [.int x6, .int 25]) (rest := [.int ((tur x6 6) ^^^ (tur x6 11))]) E hm hS (c_X0_turned l g Mx1 x6 25) ms_X0_turned wt_X0_turned wl_X0_45 rfl hl.1 rfl (Nat.le_of_ble_eq_true rfl) dX0_compress_98 ⟨Nat.le_of_ble_eq_true rfl, Nat.le_of_ble_eq_true rfl⟩ ⟨(Nat.le_of_ble_eq_true rfl), (Nat.le_of_ble_eq_true rfl)⟩) hS (fun r17 Mx18 H locs hq19 hm hS => ?_)
        obtain ⟨rfl, h9⟩ := hq19
        rw [h9] at hm
        refine lv_ixor hx hb dX0_compress_101 ?_
        refine lv_istore (lv' := [(11, .int (((tur x6 6) ^^^ (tur x6 11)) ^^^ (tur x6 25))), (10, .int (nI i)), (2, .int x2), (3, .int x3), (4, .int x4), (5, .int x5), (6, .int x6), (7, .int x7), (8, .int x8), (9, .int x9), (0, .ref h), (1, .int (nI fr))]) hx hb dX0_compress_102 hl (by decide) rfl (fun ls hl => ?_)
        refine lv_iload hx hb dX0_compress_104 (lv_at hl 6 rfl) ?_
        refine lv_iload hx hb dX0_compress_106 (lv_at hl 7 rfl) ?_
        refine lv_iand hx hb dX0_compress_108 ?_
        refine lv_iload hx hb dX0_compress_109 (lv_at hl 6 rfl) ?_
        refine lv_iconst (v := (-1)) hx hb dX0_compress_111 (by decide) ?_
        refine lv_ixor hx hb dX0_compress_112 ?_
        refine lv_iload hx hb dX0_compress_113 (lv_at hl 8 rfl) ?_
        refine lv_iand hx hb dX0_compress_115 ?_
        refine lv_ixor hx hb dX0_compress_116 ?_
        refine lv_istore (lv' := [(12, .int ((x6 &&& x7) ^^^ ((x6 ^^^ ((-1))) &&& x8))), (11, .int (((tur x6 6) ^^^ (tur x6 11)) ^^^ (tur x6 25))), (10, .int (nI i)), (2, .int x2), (3, .int x3), (4, .int x4), (5, .int x5), (6, .int x6), (7, .int x7), (8, .int x8), (9, .int x9), (0, .ref h), (1, .int (nI fr))]) hx hb dX0_compress_117 hl (by decide) rfl (fun ls hl => ?_)
        refine lv_iload hx hb dX0_compress_119 (lv_at hl 10 rfl) ?_
        refine lv_iload hx hb dX0_compress_121 (lv_at hl 1 rfl) ?_
        refine lv_iadd hx hb dX0_compress_123 ?_
        refine lv_iload hx hb dX0_compress_124 (lv_at hl 0 rfl) ?_
        refine lv_iadd hx hb dX0_compress_126 ?_
        refine va_gets hx hb E.2.2.2.2.2.2.2.2.1 hS hown (hts _ wf_X0_49) (fun _ h => h) dX0_compress_127 ?_
        refine lv_iload hx hb dX0_compress_130 (lv_at hl 2 rfl) ?_
        refine hp_ialdKN E hS i rfl (by omega) dX0_compress_132 ?_
        refine lv_iadd hx hb dX0_compress_133 ?_
        refine lv_aload_n hx hb dX0_compress_134 rfl (lv_at hl 11 rfl) ?_
        refine hp_get (C := RX0) (T := TX0) (N := 4) (v := .ref sc) E hm e_h inh0 rfl 2 (by decide) wf_X0_18 rfl dX0_compress_135 ?_
        refine lv_iload hx hb dX0_compress_138 (lv_at hl 2 rfl) ?_
        refine hp_ialdN E hm e_sc i rfl (by omega) (by decide) dX0_compress_140 ?_
        refine lv_iadd hx hb dX0_compress_141 ?_
        refine lv_istore (lv' := [(13, .int ((((x9 + (((tur x6 6) ^^^ (tur x6 11)) ^^^ (tur x6 25))) + ((x6 &&& x7) ^^^ ((x6 ^^^ ((-1))) &&& x8))) + (kRound i)) + (f9 i))), (12, .int ((x6 &&& x7) ^^^ ((x6 ^^^ ((-1))) &&& x8))), (11, .int (((tur x6 6) ^^^ (tur x6 11)) ^^^ (tur x6 25))), (10, .int (nI i)), (2, .int x2), (3, .int x3), (4, .int x4), (5, .int x5), (6, .int x6), (7, .int x7), (8, .int x8), (9, .int x9), (0, .ref h), (1, .int (nI fr))]) hx hb dX0_compress_142 hl (by decide) rfl (fun ls hl => ?_)
        refine lv_iload_n hx hb dX0_compress_144 rfl (lv_at hl 4 rfl) ?_
        refine lv_iconst (v := 2) hx hb dX0_compress_145 (by decide) ?_
        refine hp_ci (hp_runS (np := 2) (k := 1) (mc := 0) (ms := 0) (As := [.int x2, .int 2]) (rest := []) E hm hS (c_X0_turned l g Mx1 x2 2) ms_X0_turned wt_X0_turned wl_X0_45 rfl hl.1 rfl (Nat.le_of_ble_eq_true rfl) dX0_compress_146 ⟨Nat.le_of_ble_eq_true rfl, Nat.le_of_ble_eq_true rfl⟩ ⟨(Nat.le_of_ble_eq_true rfl), (Nat.le_of_ble_eq_true rfl)⟩) hS (fun r20 Mx21 H locs hq22 hm hS => ?_)
        obtain ⟨rfl, h9⟩ := hq22
        rw [h9] at hm
        refine lv_iload_n hx hb dX0_compress_149 rfl (lv_at hl 4 rfl) ?_
        refine lv_bipush (v := 13) hx hb dX0_compress_150 (by decide) ?_
        refine hp_ci (hp_runS (np := 2) (k := 1) (mc := 0) (ms := 0) (As := [.int x2, .int 13]) (rest := [.int (tur x2 2)]) E hm hS (c_X0_turned l g Mx1 x2 13) ms_X0_turned wt_X0_turned wl_X0_45 rfl hl.1 rfl (Nat.le_of_ble_eq_true rfl) dX0_compress_152 ⟨Nat.le_of_ble_eq_true rfl, Nat.le_of_ble_eq_true rfl⟩ ⟨(Nat.le_of_ble_eq_true rfl), (Nat.le_of_ble_eq_true rfl)⟩) hS (fun r23 Mx24 H locs hq25 hm hS => ?_)
        obtain ⟨rfl, h9⟩ := hq25
        rw [h9] at hm
        refine lv_ixor hx hb dX0_compress_155 ?_
        refine lv_iload_n hx hb dX0_compress_156 rfl (lv_at hl 4 rfl) ?_
        refine lv_bipush (v := 22) hx hb dX0_compress_157 (by decide) ?_
        refine hp_ci (hp_runS (np := 2) (k := 1) (mc := 0) (ms := 0) (As := [.int x2, .int 22]) (rest := [.int ((tur x2 2) ^^^ (tur x2 13))]) E hm hS (c_X0_turned l g Mx1 x2 22) ms_X0_turned wt_X0_turned wl_X0_45 rfl hl.1 rfl (Nat.le_of_ble_eq_true rfl) dX0_compress_159 ⟨Nat.le_of_ble_eq_true rfl, Nat.le_of_ble_eq_true rfl⟩ ⟨(Nat.le_of_ble_eq_true rfl), (Nat.le_of_ble_eq_true rfl)⟩) hS (fun r26 Mx27 H locs hq28 hm hS => ?_)
        obtain ⟨rfl, h9⟩ := hq28
        rw [h9] at hm
        refine lv_ixor hx hb dX0_compress_162 ?_
        refine lv_istore (lv' := [(14, .int (((tur x2 2) ^^^ (tur x2 13)) ^^^ (tur x2 22))), (13, .int ((((x9 + (((tur x6 6) ^^^ (tur x6 11)) ^^^ (tur x6 25))) + ((x6 &&& x7) ^^^ ((x6 ^^^ ((-1))) &&& x8))) + (kRound i)) + (f9 i))), (12, .int ((x6 &&& x7) ^^^ ((x6 ^^^ ((-1))) &&& x8))), (11, .int (((tur x6 6) ^^^ (tur x6 11)) ^^^ (tur x6 25))), (10, .int (nI i)), (2, .int x2), (3, .int x3), (4, .int x4), (5, .int x5), (6, .int x6), (7, .int x7), (8, .int x8), (9, .int x9), (0, .ref h), (1, .int (nI fr))]) hx hb dX0_compress_163 hl (by decide) rfl (fun ls hl => ?_)
        refine lv_iload_n hx hb dX0_compress_165 rfl (lv_at hl 5 rfl) ?_
        refine lv_iload_n hx hb dX0_compress_166 rfl (lv_at hl 6 rfl) ?_
        refine lv_iand hx hb dX0_compress_167 ?_
        refine lv_iload_n hx hb dX0_compress_168 rfl (lv_at hl 5 rfl) ?_
        refine lv_iload hx hb dX0_compress_169 (lv_at hl 7 rfl) ?_
        refine lv_iand hx hb dX0_compress_171 ?_
        refine lv_ixor hx hb dX0_compress_172 ?_
        refine lv_iload_n hx hb dX0_compress_173 rfl (lv_at hl 6 rfl) ?_
        refine lv_iload hx hb dX0_compress_174 (lv_at hl 7 rfl) ?_
        refine lv_iand hx hb dX0_compress_176 ?_
        refine lv_ixor hx hb dX0_compress_177 ?_
        refine lv_istore (lv' := [(15, .int (((x2 &&& x3) ^^^ (x2 &&& x4)) ^^^ (x3 &&& x4))), (14, .int (((tur x2 2) ^^^ (tur x2 13)) ^^^ (tur x2 22))), (13, .int ((((x9 + (((tur x6 6) ^^^ (tur x6 11)) ^^^ (tur x6 25))) + ((x6 &&& x7) ^^^ ((x6 ^^^ ((-1))) &&& x8))) + (kRound i)) + (f9 i))), (12, .int ((x6 &&& x7) ^^^ ((x6 ^^^ ((-1))) &&& x8))), (11, .int (((tur x6 6) ^^^ (tur x6 11)) ^^^ (tur x6 25))), (10, .int (nI i)), (2, .int x2), (3, .int x3), (4, .int x4), (5, .int x5), (6, .int x6), (7, .int x7), (8, .int x8), (9, .int x9), (0, .ref h), (1, .int (nI fr))]) hx hb dX0_compress_178 hl (by decide) rfl (fun ls hl => ?_)
        refine lv_iload hx hb dX0_compress_180 (lv_at hl 12 rfl) ?_
        refine lv_istore (lv' := [(9, .int x8), (15, .int (((x2 &&& x3) ^^^ (x2 &&& x4)) ^^^ (x3 &&& x4))), (14, .int (((tur x2 2) ^^^ (tur x2 13)) ^^^ (tur x2 22))), (13, .int ((((x9 + (((tur x6 6) ^^^ (tur x6 11)) ^^^ (tur x6 25))) + ((x6 &&& x7) ^^^ ((x6 ^^^ ((-1))) &&& x8))) + (kRound i)) + (f9 i))), (12, .int ((x6 &&& x7) ^^^ ((x6 ^^^ ((-1))) &&& x8))), (11, .int (((tur x6 6) ^^^ (tur x6 11)) ^^^ (tur x6 25))), (10, .int (nI i)), (2, .int x2), (3, .int x3), (4, .int x4), (5, .int x5), (6, .int x6), (7, .int x7), (8, .int x8), (0, .ref h), (1, .int (nI fr))]) hx hb dX0_compress_182 hl (by decide) rfl (fun ls hl => ?_)
        refine lv_iload hx hb dX0_compress_184 (lv_at hl 12 rfl) ?_
        refine lv_istore (lv' := [(8, .int x7), (9, .int x8), (15, .int (((x2 &&& x3) ^^^ (x2 &&& x4)) ^^^ (x3 &&& x4))), (14, .int (((tur x2 2) ^^^ (tur x2 13)) ^^^ (tur x2 22))), (13, .int ((((x9 + (((tur x6 6) ^^^ (tur x6 11)) ^^^ (tur x6 25))) + ((x6 &&& x7) ^^^ ((x6 ^^^ ((-1))) &&& x8))) + (kRound i)) + (f9 i))), (12, .int ((x6 &&& x7) ^^^ ((x6 ^^^ ((-1))) &&& x8))), (11, .int (((tur x6 6) ^^^ (tur x6 11)) ^^^ (tur x6 25))), (10, .int (nI i)), (2, .int x2), (3, .int x3), (4, .int x4), (5, .int x5), (6, .int x6), (7, .int x7), (0, .ref h), (1, .int (nI fr))]) hx hb dX0_compress_186 hl (by decide) rfl (fun ls hl => ?_)
        refine lv_iload hx hb dX0_compress_188 (lv_at hl 12 rfl) ?_
        refine lv_istore (lv' := [(7, .int x6), (8, .int x7), (9, .int x8), (15, .int (((x2 &&& x3) ^^^ (x2 &&& x4)) ^^^ (x3 &&& x4))), (14, .int (((tur x2 2) ^^^ (tur x2 13)) ^^^ (tur x2 22))), (13, .int ((((x9 + (((tur x6 6) ^^^ (tur x6 11)) ^^^ (tur x6 25))) + ((x6 &&& x7) ^^^ ((x6 ^^^ ((-1))) &&& x8))) + (kRound i)) + (f9 i))), (12, .int ((x6 &&& x7) ^^^ ((x6 ^^^ ((-1))) &&& x8))), (11, .int (((tur x6 6) ^^^ (tur x6 11)) ^^^ (tur x6 25))), (10, .int (nI i)), (2, .int x2), (3, .int x3), (4, .int x4), (5, .int x5), (6, .int x6), (0, .ref h), (1, .int (nI fr))]) hx hb dX0_compress_190 hl (by decide) rfl (fun ls hl => ?_)
        refine lv_iload hx hb dX0_compress_192 (lv_at hl 12 rfl) ?_
        refine lv_iload hx hb dX0_compress_194 (lv_at hl 5 rfl) ?_
        refine lv_iadd hx hb dX0_compress_196 ?_
        refine lv_istore (lv' := [(6, .int (x5 + ((((x9 + (((tur x6 6) ^^^ (tur x6 11)) ^^^ (tur x6 25))) + ((x6 &&& x7) ^^^ ((x6 ^^^ ((-1))) &&& x8))) + (kRound i)) + (f9 i)))), (7, .int x6), (8, .int x7), (9, .int x8), (15, .int (((x2 &&& x3) ^^^ (x2 &&& x4)) ^^^ (x3 &&& x4))), (14, .int (((tur x2 2) ^^^ (tur x2 13)) ^^^ (tur x2 22))), (13, .int ((((x9 + (((tur x6 6) ^^^ (tur x6 11)) ^^^ (tur x6 25))) + ((x6 &&& x7) ^^^ ((x6 ^^^ ((-1))) &&& x8))) + (kRound i)) + (f9 i))), (12, .int ((x6 &&& x7) ^^^ ((x6 ^^^ ((-1))) &&& x8))), (11, .int (((tur x6 6) ^^^ (tur x6 11)) ^^^ (tur x6 25))), (10, .int (nI i)), (2, .int x2), (3, .int x3), (4, .int x4), (5, .int x5), (0, .ref h), (1, .int (nI fr))]) hx hb dX0_compress_197 hl (by decide) rfl (fun ls hl => ?_)
        refine lv_iload hx hb dX0_compress_199 (lv_at hl 12 rfl) ?_
        refine lv_istore (lv' := [(5, .int x4), (6, .int (x5 + ((((x9 + (((tur x6 6) ^^^ (tur x6 11)) ^^^ (tur x6 25))) + ((x6 &&& x7) ^^^ ((x6 ^^^ ((-1))) &&& x8))) + (kRound i)) + (f9 i)))), (7, .int x6), (8, .int x7), (9, .int x8), (15, .int (((x2 &&& x3) ^^^ (x2 &&& x4)) ^^^ (x3 &&& x4))), (14, .int (((tur x2 2) ^^^ (tur x2 13)) ^^^ (tur x2 22))), (13, .int ((((x9 + (((tur x6 6) ^^^ (tur x6 11)) ^^^ (tur x6 25))) + ((x6 &&& x7) ^^^ ((x6 ^^^ ((-1))) &&& x8))) + (kRound i)) + (f9 i))), (12, .int ((x6 &&& x7) ^^^ ((x6 ^^^ ((-1))) &&& x8))), (11, .int (((tur x6 6) ^^^ (tur x6 11)) ^^^ (tur x6 25))), (10, .int (nI i)), (2, .int x2), (3, .int x3), (4, .int x4), (0, .ref h), (1, .int (nI fr))]) hx hb dX0_compress_201 hl (by decide) rfl (fun ls hl => ?_)
        refine lv_iload_n hx hb dX0_compress_203 rfl (lv_at hl 12 rfl) ?_
        refine lv_istore (lv' := [(4, .int x3), (5, .int x4), (6, .int (x5 + ((((x9 + (((tur x6 6) ^^^ (tur x6 11)) ^^^ (tur x6 25))) + ((x6 &&& x7) ^^^ ((x6 ^^^ ((-1))) &&& x8))) + (kRound i)) + (f9 i)))), (7, .int x6), (8, .int x7), (9, .int x8), (15, .int (((x2 &&& x3) ^^^ (x2 &&& x4)) ^^^ (x3 &&& x4))), (14, .int (((tur x2 2) ^^^ (tur x2 13)) ^^^ (tur x2 22))), (13, .int ((((x9 + (((tur x6 6) ^^^ (tur x6 11)) ^^^ (tur x6 25))) + ((x6 &&& x7) ^^^ ((x6 ^^^ ((-1))) &&& x8))) + (kRound i)) + (f9 i))), (12, .int ((x6 &&& x7) ^^^ ((x6 ^^^ ((-1))) &&& x8))), (11, .int (((tur x6 6) ^^^ (tur x6 11)) ^^^ (tur x6 25))), (10, .int (nI i)), (2, .int x2), (3, .int x3), (0, .ref h), (1, .int (nI fr))]) hx hb dX0_compress_204 hl (by decide) rfl (fun ls hl => ?_)
        refine lv_iload_n hx hb dX0_compress_206 rfl (lv_at hl 12 rfl) ?_
        refine lv_istore_n (lv' := [(3, .int x2), (4, .int x3), (5, .int x4), (6, .int (x5 + ((((x9 + (((tur x6 6) ^^^ (tur x6 11)) ^^^ (tur x6 25))) + ((x6 &&& x7) ^^^ ((x6 ^^^ ((-1))) &&& x8))) + (kRound i)) + (f9 i)))), (7, .int x6), (8, .int x7), (9, .int x8), (15, .int (((x2 &&& x3) ^^^ (x2 &&& x4)) ^^^ (x3 &&& x4))), (14, .int (((tur x2 2) ^^^ (tur x2 13)) ^^^ (tur x2 22))), (13, .int ((((x9 + (((tur x6 6) ^^^ (tur x6 11)) ^^^ (tur x6 25))) + ((x6 &&& x7) ^^^ ((x6 ^^^ ((-1))) &&& x8))) + (kRound i)) + (f9 i))), (12, .int ((x6 &&& x7) ^^^ ((x6 ^^^ ((-1))) &&& x8))), (11, .int (((tur x6 6) ^^^ (tur x6 11)) ^^^ (tur x6 25))), (10, .int (nI i)), (2, .int x2), (0, .ref h), (1, .int (nI fr))]) hx hb dX0_compress_207 rfl hl (by decide) rfl (fun ls hl => ?_)
        refine lv_iload hx hb dX0_compress_208 (lv_at hl 9 rfl) ?_
        refine lv_iload hx hb dX0_compress_210 (lv_at hl 8 rfl) ?_
        refine lv_iadd hx hb dX0_compress_212 ?_
        refine lv_iload hx hb dX0_compress_213 (lv_at hl 7 rfl) ?_
        refine lv_iadd hx hb dX0_compress_215 ?_
        refine lv_istore_n (lv' := [(2, .int ((((((x9 + (((tur x6 6) ^^^ (tur x6 11)) ^^^ (tur x6 25))) + ((x6 &&& x7) ^^^ ((x6 ^^^ ((-1))) &&& x8))) + (kRound i)) + (f9 i)) + (((tur x2 2) ^^^ (tur x2 13)) ^^^ (tur x2 22))) + (((x2 &&& x3) ^^^ (x2 &&& x4)) ^^^ (x3 &&& x4)))), (3, .int x2), (4, .int x3), (5, .int x4), (6, .int (x5 + ((((x9 + (((tur x6 6) ^^^ (tur x6 11)) ^^^ (tur x6 25))) + ((x6 &&& x7) ^^^ ((x6 ^^^ ((-1))) &&& x8))) + (kRound i)) + (f9 i)))), (7, .int x6), (8, .int x7), (9, .int x8), (15, .int (((x2 &&& x3) ^^^ (x2 &&& x4)) ^^^ (x3 &&& x4))), (14, .int (((tur x2 2) ^^^ (tur x2 13)) ^^^ (tur x2 22))), (13, .int ((((x9 + (((tur x6 6) ^^^ (tur x6 11)) ^^^ (tur x6 25))) + ((x6 &&& x7) ^^^ ((x6 ^^^ ((-1))) &&& x8))) + (kRound i)) + (f9 i))), (12, .int ((x6 &&& x7) ^^^ ((x6 ^^^ ((-1))) &&& x8))), (11, .int (((tur x6 6) ^^^ (tur x6 11)) ^^^ (tur x6 25))), (10, .int (nI i)), (0, .ref h), (1, .int (nI fr))]) hx hb dX0_compress_216 rfl hl (by decide) rfl (fun ls hl => ?_)
        refine lv_iinc (v := nI (i + 1)) (lv' := [(10, .int (nI (i + 1))), (2, .int ((((((x9 + (((tur x6 6) ^^^ (tur x6 11)) ^^^ (tur x6 25))) + ((x6 &&& x7) ^^^ ((x6 ^^^ ((-1))) &&& x8))) + (kRound i)) + (f9 i)) + (((tur x2 2) ^^^ (tur x2 13)) ^^^ (tur x2 22))) + (((x2 &&& x3) ^^^ (x2 &&& x4)) ^^^ (x3 &&& x4)))), (3, .int x2), (4, .int x3), (5, .int x4), (6, .int (x5 + ((((x9 + (((tur x6 6) ^^^ (tur x6 11)) ^^^ (tur x6 25))) + ((x6 &&& x7) ^^^ ((x6 ^^^ ((-1))) &&& x8))) + (kRound i)) + (f9 i)))), (7, .int x6), (8, .int x7), (9, .int x8), (15, .int (((x2 &&& x3) ^^^ (x2 &&& x4)) ^^^ (x3 &&& x4))), (14, .int (((tur x2 2) ^^^ (tur x2 13)) ^^^ (tur x2 22))), (13, .int ((((x9 + (((tur x6 6) ^^^ (tur x6 11)) ^^^ (tur x6 25))) + ((x6 &&& x7) ^^^ ((x6 ^^^ ((-1))) &&& x8))) + (kRound i)) + (f9 i))), (12, .int ((x6 &&& x7) ^^^ ((x6 ^^^ ((-1))) &&& x8))), (11, .int (((tur x6 6) ^^^ (tur x6 11)) ^^^ (tur x6 25))), (0, .ref h), (1, .int (nI fr))]) hx hb dX0_compress_217 hl (k := 13) rfl (nI_1 _) (by decide) rfl (fun ls hl => ?_)
        refine lv_goto (tgt := 72) hx hb dX0_compress_220 (by decide) ?_
        refine ih (i + 1) _ _ _ _ _ _ _ _ H locs ls (by omega) (by omega) ?_ hm hS (lv_sub hl [0, 1, 2, 3, 4, 5, 6, 7, 8, 14, 15] rfl)
        show _ = rdS (rdF f9 (of8 fa) i) (kRound i) (f9 i)
        rw [← hr]
        rfl
  exact lp 65 0 _ _ _ _ _ _ _ _ H locs ls (by omega) (by omega) rfl hm hS (lv_sub hl [0, 8, 7, 6, 5, 4, 3, 2, 1, 9, 10] rfl)
