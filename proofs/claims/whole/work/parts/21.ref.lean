/-! the reference: one object with rows of numbers -/
def AR : List Nat := [0, 1, 2, 3, 4, 5, 8, 9, 10, 11, 12, 13, 14, 16, 17, 18, 20]
def rl (k : Nat) : Nat := (#[64, 8, 18300, 18300, 61, 488, 0, 0, 128, 64, 8, 300, 300, 300, 2400, 0, 17, 17, 136, 0, 128] : Array Nat).getD k 0
def rF (ad : Nat → Nat) (V : Nat → Int32) : List Value := [.ref (ad 0), .ref (ad 1), .ref (ad 2), .ref (ad 3), .ref (ad 4), .ref (ad 5), .int (V 6), .int (V 7), .ref (ad 8), .ref (ad 9), .ref (ad 10), .ref (ad 11), .ref (ad 12), .ref (ad 13), .ref (ad 14), .int (V 15), .ref (ad 16), .ref (ad 17), .ref (ad 18), .int (V 19), .ref (ad 20), .int (V 21), .int (V 22), .int (V 23)]
def RS (g : hG) (M : hM) (y : Nat) (ad : Nat → Nat) (S : Nat → Nat → Int32) (V : Nat → Int32) : Prop := M y = some (.inr (4, rF ad V)) ∧ (∀ k, k ∈ AR → M (ad k) = some (aI g (rl k) (S k))) ∧ ∀ i j, i ∈ AR → j ∈ AR → ad i = ad j → i = j
def rO (y : Nat) (ad : Nat → Nat) (q : Nat) : Prop := q = y ∨ ∃ k, k ∈ AR ∧ q = ad k
def sU (S : Nat → Nat → Int32) (k i : Nat) (v : Int32) : Nat → Nat → Int32 := fun k1 => if k1 = k then upd (S k) i v else S k1
def vU (V : Nat → Int32) (k : Nat) (v : Int32) : Nat → Int32 := fun k1 => if k1 = k then v else V k1
theorem sU_o {S : Nat → Nat → Int32} {k i k1 : Nat} {v : Int32} (h : k1 ≠ k) : sU S k i v k1 = S k1 := if_neg h
theorem sU_s {S : Nat → Nat → Int32} {k i : Nat} {v : Int32} : sU S k i v k = upd (S k) i v := if_pos rfl
theorem sU_i {S : Nat → Nat → Int32} {k i : Nat} {v : Int32} : sU S k i v k i = v := by rw [sU_s, pk_us]
theorem sU_n {S : Nat → Nat → Int32} {k i j : Nat} {v : Int32} (h : j ≠ i) : sU S k i v k j = S k j := by rw [sU_s, pk_un h]
theorem vU_s {V : Nat → Int32} {k : Nat} {v : Int32} : vU V k v k = v := if_pos rfl
theorem vU_o {V : Nat → Int32} {k k1 : Nat} {v : Int32} (h : k1 ≠ k) : vU V k v k1 = V k1 := if_neg h
theorem RS.st {g : hG} {M M9 : hM} {y : Nat} {ad : Nat → Nat} {S : Nat → Nat → Int32} {V : Nat → Int32} (h : RS g M y ad S V) {k i : Nat} {v : Int32} (hk : k ∈ AR) (e : M9 (ad k) = some (aI g (rl k) (upd (S k) i v))) (hf : ∀ q, q ≠ ad k → M9 q = M q) : RS g M9 y ad (sU S k i v) V := by
  obtain ⟨h1, h2, h3⟩ := h
  refine ⟨(hf y (ne_lk h1 (h2 k hk) (by simp))).trans h1, fun k1 hk1 => ?_, h3⟩
  by_cases t : k1 = k
  · subst t; rw [sU_s]; exact e
  · rw [sU_o t, hf _ (fun z => t (h3 k1 k hk1 hk z))]; exact h2 k1 hk1
theorem RS.pt {g : hG} {M M9 : hM} {y : Nat} {ad : Nat → Nat} {S : Nat → Nat → Int32} {V V9 : Nat → Int32} (h : RS g M y ad S V) (e : M9 y = some (.inr (4, rF ad V9))) (hf : ∀ q, q ≠ y → M9 q = M q) : RS g M9 y ad S V9 := by
  obtain ⟨h1, h2, h3⟩ := h
  exact ⟨e, fun k1 hk1 => (hf _ (Ne.symm (ne_lk h1 (h2 k1 hk1) (by simp)))).trans (h2 k1 hk1), h3⟩
section HR
variable {p : Program} {l : Launch} {e : Env} {R : Room} {s : State} {m : MethodId} {args : Array Value} {below : List Frame} {meth : Method} {c : Code} {H : Heap} {locs : List Loc} {cells slots : Nat} {Q : State → Prop}
variable {cc : ByteArray} {pc : Nat} {ls : Array Slot} {rest : List Value} {g : hG} {M M0 : hM} {own : String} {nL y : Nat} {ad : Nat → Nat} {S : Nat → Nat → Int32} {V : Nat → Int32}
theorem hr_get (E : hE p c cc nL s args m own g) (hm : hp g M H) (hR : RS g M y ad S V) {index : Nat} (k : Nat) (hk : k < 24) (hlink : Cond.fieldLink own index (TX4 k).1 (TX4 k).2.1 (TX4 k).2.2.1 ∈ hT) {v : Value} (hv : (rF ad V)[k]? = some v) (hdg : decode cc pc = .ok (.getfield index, 3))
    (kk : W p l e R s m args below meth c H locs cells slots Q (F0 m (pc + 3) ls (v :: rest))) : W p l e R s m args below meth c H locs cells slots Q (F0 m pc ls (.ref y :: rest)) :=
  hp_get (C := RX4) (T := TX4) (N := 24) E hm hR.1 inh4 rfl k hk hlink hv hdg kk
theorem hr_ald (E : hE p c cc nL s args m own g) (hm : hp g M H) (hR : RS g M y ad S V) {x : Int32} (k i : Nat) (hk : k ∈ AR) (hi : x = nI i) (hlt : i < rl k) (hn : rl k < 2 ^ 31) (hdg : decode cc pc = .ok (.iaload, 1))
    (kk : W p l e R s m args below meth c H locs cells slots Q (F0 m (pc + 1) ls (.int (S k i) :: rest))) : W p l e R s m args below meth c H locs cells slots Q (F0 m pc ls (.int x :: .ref (ad k) :: rest)) :=
  hp_ialdN E hm (hR.2.1 k hk) i hi hlt hn hdg kk
theorem hr_ast (E : hE p c cc nL s args m own g) (hm : hp g M H) (hS : va_S (hA g) s.heap H locs) (hR : RS g M y ad S V) (hF : ∀ q, ¬ rO y ad q → M q = M0 q) {x v : Int32} (k i : Nat) (hk : k ∈ AR) (hi : x = nI i) (hlt : i < rl k) (hn : rl k < 2 ^ 31) (hdg : decode cc pc = .ok (.iastore, 1))
    (kk : ∀ (H1 : Heap) (locs1 : List Loc) (M1 : hM), hp g M1 H1 → va_S (hA g) s.heap H1 locs1 → RS g M1 y ad (sU S k i v) V → (∀ q, ¬ rO y ad q → M1 q = M0 q) → W p l e R s m args below meth c H1 locs1 cells slots Q (F0 m (pc + 1) ls rest)) : W p l e R s m args below meth c H locs cells slots Q (F0 m pc ls (.int v :: .int x :: .ref (ad k) :: rest)) := by
  refine hp_iastN E hm hS (hR.2.1 k hk) i hi hlt hn hdg (fun H1 locs1 hm1 hS1 => kk H1 locs1 _ hm1 hS1 (hR.st hk up_eq (fun q hq => up_ne hq)) (fun q hq => ?_))
  rw [up_ne (fun t => hq (Or.inr ⟨k, hk, t⟩))]
  exact hF q hq
theorem hr_put (E : hE p c cc nL s args m own g) (hm : hp g M H) (hS : va_S (hA g) s.heap H locs) (hR : RS g M y ad S V) (hF : ∀ q, ¬ rO y ad q → M q = M0 q) {index : Nat} {v : Int32} {ty : FieldType} (V9 : Nat → Int32) (k : Nat) (hk : k < 24) (hlink : Cond.fieldLink own index (TX4 k).1 (TX4 k).2.1 (TX4 k).2.2.1 ∈ hT) (hfin : (TX4 k).2.2.2 = false) (hd : parseFieldDescriptor (TX4 k).2.2.1 = some ty) (hn : narrow ty (.int v) = .int v) (hfit : fits ty (.int v) = true) (hv : (rF ad V).set k (.int v) = rF ad V9) (hdg : decode cc pc = .ok (.putfield index, 3))
    (kk : ∀ (H1 : Heap) (locs1 : List Loc) (M1 : hM), hp g M1 H1 → va_S (hA g) s.heap H1 locs1 → RS g M1 y ad S V9 → (∀ q, ¬ rO y ad q → M1 q = M0 q) → W p l e R s m args below meth c H1 locs1 cells slots Q (F0 m (pc + 3) ls rest)) : W p l e R s m args below meth c H locs cells slots Q (F0 m pc ls (.int v :: .ref y :: rest)) := by
  refine hp_put (C := RX4) (T := TX4) (N := 24) E hm hS hR.1 inh4 tyX4 tyX4_ok nmX4 rfl k hk hlink hfin hd hn hfit hk hdg (fun H1 locs1 hm1 hS1 => kk H1 locs1 _ hm1 hS1 (hR.pt (by rw [up_eq, hv]) (fun q hq => up_ne hq)) (fun q hq => ?_))
  rw [up_ne (fun t => hq (Or.inl t))]
  exact hF q hq
end HR
/-- a row of the map: E in the rows 2 (keys), 3 (values), 4 (sizes) -/
def rowE (S : Nat → Nat → Int32) (r : Nat) (E : En) : Prop := S 4 r = nI E.length ∧ ∀ j (h : j < E.length), S 2 (300 * r + j) = nI (E[j]).1 ∧ S 3 (300 * r + j) = (E[j]).2
/-- the reference's world with the state σ -/
def RW (g : hG) (M : hM) (y : Nat) (ad : Nat → Nat) (S : Nat → Nat → Int32) (V : Nat → Int32) (σ : cSt) : Prop :=
  RS g M y ad S V ∧ sOK σ ∧ (∀ j, j < 64 → S 0 j = kRound j) ∧ (∀ j, j < 8 → S 1 j = kStart j) ∧ V 6 = nI (sKc σ) ∧ (∀ j, j < sKc σ → rowE S j (sVs σ j)) ∧ rowE S 60 (sNow σ) ∧ (∀ j, j < sKc σ → ∀ i, i < 8 → S 5 (8 * j + i) = dgF 16 (sVs σ j) i) ∧ (∃ kw, V 7 = bI kw ∧ (kw = true → ∀ i, i < 8 → S 5 (8 * 60 + i) = dgF 16 (sNow σ) i)) ∧ V 19 = nI (sPl σ) ∧ V 21 = bI (sPe σ) ∧ V 22 = sPk σ ∧ V 23 = sPv σ ∧ ∀ i, i < sPl σ → ∀ j, j < 8 → S 20 (8 * i + j) = sSb σ i j
/-- behind a call of the reference -/
def RP (g : hG) (M : hM) (y : Nat) (ad : Nat → Nat) (M9 : hM) (σ9 : cSt) : Prop := ∃ S9 V9, RW g M9 y ad S9 V9 σ9 ∧ ∀ q, ¬ rO y ad q → M9 q = M q
theorem RP.rf {g : hG} {M : hM} {y : Nat} {ad : Nat → Nat} {S : Nat → Nat → Int32} {V : Nat → Int32} {σ : cSt} (h : RW g M y ad S V σ) : RP g M y ad M σ := ⟨S, V, h, fun _ _ => rfl⟩
