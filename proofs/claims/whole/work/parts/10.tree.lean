/-! the map as a row of entries by rising keys; its halves by a bit; its digest -/
abbrev En : Type := List (Nat × Int32)
def spl (n : Nat) (b : Bool) (E : En) : En := E.filter (fun x => x.1.testBit n == b)
def dgF : Nat → En → Nat → Int32
  | 0, E => match E with
    | [(k, v)] => hLeaf (nI k) v
    | _ => fun _ => 0
  | n + 1, E => match E with
    | [] => fun _ => 0
    | [(k, v)] => hLeaf (nI k) v
    | _ => hPair (dgF n (spl n false E)) (dgF n (spl n true E))
theorem dgF_nil (n : Nat) : dgF n [] = fun _ => 0 := by cases n <;> rfl
theorem dgF_one (n k : Nat) (v : Int32) : dgF n [(k, v)] = hLeaf (nI k) v := by cases n <;> rfl
theorem dgF_two {n : Nat} {E : En} (h : 2 ≤ E.length) : dgF (n + 1) E = hPair (dgF n (spl n false E)) (dgF n (spl n true E)) := by
  match E, h with
  | [], h => simp at h
  | [x], h => simp at h
  | x :: y :: t, h => rfl
theorem mp_w {z z' o o' : Nat → Int32} (hz : ∀ j, j < 8 → z j = z' j) (ho : ∀ j, j < 8 → o j = o' j) (j : Nat) : mp z o j = mp z' o' j := by
  unfold mp
  by_cases h8 : j < 8
  · rw [if_pos h8, if_pos h8, hz j h8]
    cases j with
    | zero => rfl
    | succ k => show (z k <<< _ ||| _) = (z' k <<< _ ||| _); rw [hz k (by omega)]
  · rw [if_neg h8, if_neg h8]
    by_cases h16 : j < 16
    · rw [if_pos h16, if_pos h16, ho (j - 8) (by omega)]
      obtain ⟨i, hi⟩ : ∃ i, j - 8 = i := ⟨_, rfl⟩
      rw [hi]
      cases i with
      | zero => show (z 7 <<< _ ||| _) = (z' 7 <<< _ ||| _); rw [hz 7 (by omega)]
      | succ k => show (o k <<< _ ||| _) = (o' k <<< _ ||| _); rw [ho k (by omega)]
    · rw [if_neg h16, if_neg h16, ho 7 (by omega)]
theorem hPair_w {z z' o o' : Nat → Int32} (hz : ∀ j, j < 8 → z j = z' j) (ho : ∀ j, j < 8 → o j = o' j) {j : Nat} (hj : j < 8) : hPair z o j = hPair z' o' j :=
  shaB_w (fun i hi => shaB_w (fun _ _ => rfl) (fun b _ => mp_w hz ho b) hi) (fun i _ => mp_w hz ho (16 + i)) hj
/-- entries by rising keys -/
def srt (E : En) : Prop := E.Pairwise (fun a b => a.1 < b.1)
theorem srt_spl {E : En} (h : srt E) (n : Nat) (b : Bool) : srt (spl n b E) := List.Pairwise.filter _ h
def putL (k : Nat) (v : Int32) : En → En
  | [] => [(k, v)]
  | x :: t => if k < x.1 then (k, v) :: x :: t else if k = x.1 then (k, v) :: t else x :: putL k v t
def remL (k : Nat) (E : En) : En := E.filter (fun x => x.1 != k)
theorem putL_cons (k : Nat) (v : Int32) (x : Nat × Int32) (t : En) : putL k v (x :: t) = if k < x.1 then (k, v) :: x :: t else if k = x.1 then (k, v) :: t else x :: putL k v t := rfl
theorem spl_in {n : Nat} {b : Bool} {x : Nat × Int32} {t : En} (h : x.1.testBit n = b) : spl n b (x :: t) = x :: spl n b t := by
  unfold spl
  rw [List.filter_cons, if_pos (by simp [h])]
theorem spl_out {n : Nat} {b : Bool} {x : Nat × Int32} {t : En} (h : ¬ x.1.testBit n = b) : spl n b (x :: t) = spl n b t := by
  unfold spl
  rw [List.filter_cons, if_neg (by simp [h])]
theorem spl_len (n : Nat) (E : En) : (spl n false E).length + (spl n true E).length = E.length := by
  induction E with
  | nil => rfl
  | cons x t ih =>
    cases hb : x.1.testBit n with
    | false => rw [spl_in hb, spl_out (by rw [hb]; decide), List.length_cons, List.length_cons]; omega
    | true => rw [spl_in hb, spl_out (by rw [hb]; decide), List.length_cons, List.length_cons]; omega
theorem spl_mem {n : Nat} {b : Bool} {E : En} {x : Nat × Int32} : x ∈ spl n b E ↔ x ∈ E ∧ x.1.testBit n = b := by
  unfold spl
  rw [List.mem_filter]
  simp
theorem putL_mem {k : Nat} {v : Int32} : ∀ {E : En} {x : Nat × Int32}, x ∈ putL k v E → x = (k, v) ∨ x ∈ E
  | [], x, h => by simp [putL] at h; exact Or.inl h
  | y :: t, x, h => by
    rw [putL_cons] at h
    by_cases h1 : k < y.1
    · rw [if_pos h1] at h
      rcases List.mem_cons.mp h with q | q
      · exact Or.inl q
      · exact Or.inr q
    · rw [if_neg h1] at h
      by_cases h2 : k = y.1
      · rw [if_pos h2] at h
        rcases List.mem_cons.mp h with q | q
        · exact Or.inl q
        · exact Or.inr (List.mem_cons_of_mem _ q)
      · rw [if_neg h2] at h
        rcases List.mem_cons.mp h with q | q
        · exact Or.inr (by rw [q]; exact List.mem_cons_self)
        · rcases putL_mem q with z | z
          · exact Or.inl z
          · exact Or.inr (List.mem_cons_of_mem _ z)
theorem putL_srt {k : Nat} {v : Int32} : ∀ {E : En}, srt E → srt (putL k v E)
  | [], _ => by simp [putL, srt]
  | y :: t, h => by
    obtain ⟨h1, h2⟩ := List.pairwise_cons.mp h
    rw [putL_cons]
    by_cases q1 : k < y.1
    · rw [if_pos q1]
      refine List.pairwise_cons.mpr ⟨fun x hx => ?_, h⟩
      rcases List.mem_cons.mp hx with q | q
      · rw [q]; exact q1
      · exact Nat.lt_trans q1 (h1 x q)
    · rw [if_neg q1]
      by_cases q2 : k = y.1
      · rw [if_pos q2]
        exact List.pairwise_cons.mpr ⟨fun x hx => by show k < x.1; rw [q2]; exact h1 x hx, h2⟩
      · rw [if_neg q2]
        refine List.pairwise_cons.mpr ⟨fun x hx => ?_, putL_srt h2⟩
        rcases putL_mem hx with q | q
        · rw [q]; show y.1 < k; omega
        · exact h1 x q
theorem putL_front {k : Nat} {v : Int32} {E : En} (h : ∀ x ∈ E, k < x.1) : putL k v E = (k, v) :: E := by
  cases E with
  | nil => rfl
  | cons y t => unfold putL; rw [if_pos (h y List.mem_cons_self)]
theorem spl_putL {n k : Nat} {v : Int32} {b : Bool} : ∀ {E : En}, srt E → spl n b (putL k v E) = if k.testBit n = b then putL k v (spl n b E) else spl n b E
  | [], _ => by
    show spl n b [(k, v)] = _
    by_cases h : k.testBit n = b
    · rw [if_pos h, spl_in h]; rfl
    · rw [if_neg h, spl_out h]
  | y :: t, hs => by
    obtain ⟨h1, h2⟩ := List.pairwise_cons.mp hs
    have ih := spl_putL (n := n) (k := k) (v := v) (b := b) h2
    rw [putL_cons]
    by_cases q1 : k < y.1
    · rw [if_pos q1]
      have hf : ∀ x ∈ spl n b (y :: t), k < x.1 := fun x hx => by
        rcases List.mem_cons.mp (spl_mem.mp hx).1 with q | q
        · rw [q]; exact q1
        · exact Nat.lt_trans q1 (h1 x q)
      by_cases h : k.testBit n = b
      · rw [if_pos h, putL_front hf, spl_in h]
      · rw [if_neg h, spl_out h]
    · rw [if_neg q1]
      by_cases q2 : k = y.1
      · rw [if_pos q2]
        by_cases h : k.testBit n = b
        · rw [if_pos h, spl_in h, spl_in (by rw [← q2]; exact h), putL_cons, if_neg q1, if_pos q2]
        · rw [if_neg h, spl_out h, spl_out (by rw [← q2]; exact h)]
      · rw [if_neg q2]
        by_cases hy : y.1.testBit n = b
        · rw [spl_in hy, spl_in hy, ih]
          by_cases h : k.testBit n = b
          · rw [if_pos h, if_pos h, putL_cons, if_neg q1, if_neg q2]
          · rw [if_neg h, if_neg h]
        · rw [spl_out hy, spl_out hy, ih]
theorem spl_remL {n k : Nat} {b : Bool} (E : En) : spl n b (remL k E) = remL k (spl n b E) := by
  unfold spl remL
  rw [List.filter_filter, List.filter_filter]
  congr 1
  funext x
  exact Bool.and_comm _ _
theorem remL_out {k : Nat} {E : En} (h : ∀ x ∈ E, x.1 ≠ k) : remL k E = E := by
  unfold remL
  exact List.filter_eq_self.mpr (fun x hx => by simp [h x hx])
/-- all keys of E begin as k does, but for the last n bits -/
def pre (n k : Nat) (E : En) : Prop := ∀ x ∈ E, x.1 >>> n = k >>> n
theorem shr_bit {a b n : Nat} (h : a >>> (n + 1) = b >>> (n + 1)) (hb : a.testBit n = b.testBit n) : a >>> n = b >>> n := by
  apply Nat.eq_of_testBit_eq
  intro i
  rw [Nat.testBit_shiftRight, Nat.testBit_shiftRight]
  cases i with
  | zero => exact hb
  | succ i =>
    have := congrArg (fun z => z.testBit i) h
    simp only [Nat.testBit_shiftRight] at this
    rw [show n + (i + 1) = n + 1 + i by omega]
    exact this
theorem pre_spl {n k : Nat} {E : En} (h : pre (n + 1) k E) : pre n k (spl n (k.testBit n) E) := fun x hx => shr_bit (h x (spl_mem.mp hx).1) (spl_mem.mp hx).2
theorem pre_0 {k : Nat} {E : En} (h : pre 0 k E) (hs : srt E) : E = [] ∨ ∃ v, E = [(k, v)] := by
  match E, h, hs with
  | [], _, _ => exact Or.inl rfl
  | [x], h, _ => exact Or.inr ⟨x.2, by have := h x List.mem_cons_self; simp at this; rw [← this]⟩
  | x :: y :: t, h, hs =>
    have h1 := h x List.mem_cons_self
    have h2 := h y (List.mem_cons_of_mem _ List.mem_cons_self)
    have h3 := (List.pairwise_cons.mp hs).1 y List.mem_cons_self
    simp at h1 h2
    omega
