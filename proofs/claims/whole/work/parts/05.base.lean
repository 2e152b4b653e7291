/-! the memory picture: a partial function from addresses to cells; all methods speak of it -/
abbrev hM : Type := Nat → Option va_E
/-- what stays over a run: the classes' numbers and slots; the classes of int[], Node[], int[][]; the first new address; the cells of START and ROUND_WORDS -/
abbrev hG : Type := va_G × (ClassId × ClassId × ClassId) × Nat × Nat × Nat
abbrev gD (g : hG) : va_G := g.1
abbrev gI (g : hG) : ClassId := g.2.1.1
abbrev gN (g : hG) : ClassId := g.2.1.2.1
abbrev gR (g : hG) : ClassId := g.2.1.2.2
abbrev gB (g : hG) : Nat := g.2.2.1
abbrev gS (g : hG) : Nat := g.2.2.2.1
abbrev gK (g : hG) : Nat := g.2.2.2.2
def hA (g : hG) : Nat → Prop := fun q => gB g ≤ q
def hTy (g : hG) : List (ClassId × FieldType) := [(gI g, .int), (gN g, .object "ProofMap$Node"), (gR g, .array .int)]
/-- an int[], a Node[], an int[][] in the picture -/
abbrev aI (g : hG) (n : Nat) (f : Nat → Int32) : va_E := .inl (gI g, n, .inl f)
abbrev aN (g : hG) (n : Nat) (f : Nat → Option Nat) : va_E := .inl (gN g, n, .inr (.inr (.inr (.inr f))))
abbrev aR (g : hG) (n : Nat) (f : Nat → Option Nat) : va_E := .inl (gR g, n, .inr (.inr (.inr (.inr f))))
def hm_up (M : hM) (a : Nat) (e : va_E) : hM := fun q => if q = a then some e else M q
theorem up_eq {M : hM} {a : Nat} {e : va_E} : hm_up M a e a = some e := if_pos rfl
theorem up_ne {M : hM} {a b : Nat} {e : va_E} (h : b ≠ a) : hm_up M a e b = M b := if_neg h
theorem up_at {M : hM} {a b : Nat} {e e' : va_E} (h : b ≠ a) (hb : M b = some e') : hm_up M a e b = some e' := (up_ne h).trans hb
/-- two cells with different contents are two cells -/
theorem ne_lk {M : hM} {a b : Nat} {e e' : va_E} (ha : M a = some e) (hb : M b = some e') (h : e ≠ e') : a ≠ b := fun q => h (Option.some.inj (ha.symm.trans ((congrArg M q).trans hb)))
theorem ne_new {M : hM} {a b : Nat} {e : va_E} (hb : M b = none) (ha : M a = some e) : a ≠ b := fun q => by rw [q, hb] at ha; cases ha
/-- the heap holds the picture, and all of it is new -/
def hp (g : hG) (M : hM) (H : Heap) : Prop := ∀ a e, M a = some e → gB g ≤ a ∧ va_at (gD g) vwCl (a, e) H
def kStart : Nat → Int32 := fun j => (#[1779033703, -1150833019, 1013904242, -1521486534, 1359893119, -1694144372, 528734635, 1541459225] : Array Int32).getD j 0
def kRound : Nat → Int32 := fun j => (#[1116352408, 1899447441, -1245643825, -373957723, 961987163, 1508970993, -1841331548, -1424204075, -670586216, 310598401, 607225278, 1426881987, 1925078388, -2132889090, -1680079193, -1046744716, -459576895, -272742522, 264347078, 604807628, 770255983, 1249150122, 1555081692, 1996064986, -1740746414, -1473132947, -1341970488, -1084653625, -958395405, -710438585, 113926993, 338241895, 666307205, 773529912, 1294757372, 1396182291, 1695183700, 1986661051, -2117940946, -1838011259, -1564481375, -1474664885, -1035236496, -949202525, -778901479, -694614492, -200395387, 275423344, 430227734, 506948616, 659060556, 883997877, 958139571, 1322822218, 1537002063, 1747873779, 1955562222, 2024104815, -2067236844, -1933114872, -1866530822, -1538233109, -1090935817, -965641998] : Array Int32).getD j 0
/-- the words that don't pass on by themselves: two links to private methods of the nest's host, and that Node[] and int[][] are there -/
def hX (U : State) : Prop := va_Nw (.methodLinkNest RX1 30 yX3_countOf RX3) U ∧ va_Nw (.methodLinkNest RX0 34 yX3_copyWords RX3) U ∧ va_AO "ProofMap$Node" U ∧ va_Nw (.arrayOver (.array .int)) U
theorem hX_AOA {u U : State} (hvm : u.vm.Alike U.vm) (h : va_Nw (.arrayOver (.array .int)) u) : va_Nw (.arrayOver (.array .int)) U := by
  obtain ⟨comp, c, k, h1, h2, h3, h4, h5⟩ := arrayOverA_spec h
  obtain ⟨k', hk', he⟩ := hvm.2.2 _ _ h3
  have hi := (va_idx_bare U.vm comp).symm.trans (Eq.trans (by first | rw [hvm.bare_eq] | rw [← hvm.bare_eq]) ((va_idx_bare u.vm comp).trans h2))
  have hkind : k'.kind = .array comp (.array .int) := by rw [he]; exact h4
  have f1 : U.vm.findClass (FieldType.array .int).toString = some comp := by rw [hvm.findClass]; exact h1
  have f2 : U.vm.findClass ("[" ++ (FieldType.array .int).toString) = some c := by rw [hvm.findClass]; exact h5
  unfold va_Nw Cond.before Cond.holds
  simp only [Cond.value]
  rw [f1, Option.bind_some]
  refine (congrArg (fun o : Option Nat => (o.bind (fun c => (U.vm.classes[c]?).map fun (k : Class) => match k.kind with | .array _ ty => decide (ty = FieldType.array .int) && decide (U.vm.findClass ("[" ++ (FieldType.array .int).toString) = some c) | _ => false) == some true)) hi).trans ?_
  simp [hk', hkind, f2]
theorem hX.warm {s U : State} (hW : s.WarmedH U.vm) (h : hX s) : hX U := ⟨va_Nw.warmM hW h.1, va_Nw.warmM hW h.2.1, va_AO.moved hW.alike h.2.2.1, hX_AOA hW.alike h.2.2.2⟩
theorem hX.call {U : State} (h : hX U) (f : JFrame) (mk : MethodId) (a : Array Value) : hX (U.calling f mk a) :=
  ⟨va_Nw.same rfl rfl h.1, va_Nw.same rfl rfl h.2.1, va_AO.moved (u := U) (U := U.calling f mk a) (Vm.Alike.refl U.vm) h.2.2.1, hX_AOA (u := U) (U := U.calling f mk a) (Vm.Alike.refl U.vm) h.2.2.2⟩
/-- what stays of the machine -/
def hGX (g : hG) (U : State) : Prop := va_K (gD g) vwCl (hTy g) U ∧ gB g ≤ U.heap.size ∧ va_Z "ProofMap$Hasher" "START" "[I" (.ref (gS g)) (hA g) U U.heap ∧ va_Z "ProofMap$Hasher" "ROUND_WORDS" "[I" (.ref (gK g)) (hA g) U U.heap ∧ va_T .int (gS g) 8 (fun j => .int (kStart j)) (hA g) U U.heap ∧ va_T .int (gK g) 64 (fun j => .int (kRound j)) (hA g) U U.heap ∧ gS g < gB g ∧ gK g < gB g ∧ hX U
theorem hGX.move {g : hG} {s U : State} {H : Heap} {locs : List Loc} (h : hGX g s) (hS : va_S (hA g) s.heap H locs) (hU : U.heap = H) (hW : s.WarmedH U.vm) : hGX g U := by
  obtain ⟨h1, h2, h3, h4, h5, h6, h7, h8, h9⟩ := h
  have hvm : s.vm.Alike U.vm := hW.alike
  have hq : ∀ a : Nat, a < s.heap.size → ¬ hA g a → U.heap[a]? = s.heap[a]? := fun a x y => by rw [hU]; exact hS.2.1 a x y
  exact ⟨va_K.moved hvm h1, Nat.le_trans h2 (by rw [hU]; exact hS.1), (h3.moved hvm).kept hq, (h4.moved hvm).kept hq, (h5.moved hvm).kept hq, (h6.moved hvm).kept hq, h7, h8, h9.warm hW⟩
theorem hGX.call {g : hG} {U : State} (h : hGX g U) (f : JFrame) (mk : MethodId) (a : Array Value) : hGX g (U.calling f mk a) := by
  obtain ⟨h1, h2, h3, h4, h5, h6, h7, h8, h9⟩ := h
  have hvm : U.vm.Alike (U.calling f mk a).vm := Vm.Alike.refl U.vm
  exact ⟨va_K.moved hvm h1, h2, h3.moved hvm, h4.moved hvm, h5.moved hvm, h6.moved hvm, h7, h8, h9.call f mk a⟩
/-- a method's own surroundings -/
def hE (p : Program) (c : Code) (cc : ByteArray) (nL : Nat) (s : State) (args : Array Value) (m : MethodId) (own : String) (g : hG) : Prop :=
  p.tables.exec = Jvm.exec ∧ c.code = cc ∧ c.maxLocals = nL ∧ s.vm.findClass own = some m.cls ∧ (∀ w ∈ hT, w.before args s = true) ∧ hGX g s
/-- the words of every method: its code, then all words of the law -/
abbrev hW (y : MethodName) (cc : ByteArray) (n : Nat) (r : Option FieldType) : List Cond := Cond.code y cc n r :: hT
/-- the room of a level, with so many cells and slots to make -/
abbrev hR (k mc ms : Nat) : Room := { frames := k, cells := mc, slots := ms, locals := 100 * k }
theorem hW_good {y : MethodName} {cc : ByteArray} {n : Nat} {r : Option FieldType} (h : Cond.code y cc n r ∈ hT) : GoodIn hT (hW y cc n r) := fun w hw => by
  rcases List.mem_cons.mp hw with e | e
  · rw [e]; exact hT_good _ h
  · exact hT_good _ e
abbrev hPre (g : hG) (M : hM) (av : List Value) : Array Value → State → Prop := va_Pc av (fun U => hGX g U ∧ hp g M U.heap)
/-- contracts: int (and boolean), long, void, reference or null; from the picture M, with a post over the new picture -/
abbrev Ci (l : Launch) (g : hG) (y : MethodName) (cc : ByteArray) (n : Nat) (r : FieldType) (k mc ms : Nat) (av : List Value) (M : hM) (post : Int32 → hM → Prop) : Prop := Met l y (hW y cc n (some r)) (hR k mc ms) (hPre g M av) (va_Qi post (fun M' t => hp g M' t.heap) (hA g)) mc ms (hA g)
abbrev Cl (l : Launch) (g : hG) (y : MethodName) (cc : ByteArray) (n : Nat) (k mc ms : Nat) (av : List Value) (M : hM) (post : Int64 → hM → Prop) : Prop := Met l y (hW y cc n (some .long)) (hR k mc ms) (hPre g M av) (va_Ql post (fun M' t => hp g M' t.heap) (hA g)) mc ms (hA g)
abbrev Cv (l : Launch) (g : hG) (y : MethodName) (cc : ByteArray) (n : Nat) (k mc ms : Nat) (av : List Value) (M : hM) (post : hM → Prop) : Prop := Met l y (hW y cc n none) (hR k mc ms) (hPre g M av) (va_Qv post (fun M' t => hp g M' t.heap) (hA g)) mc ms (hA g)
abbrev Cq (l : Launch) (g : hG) (y : MethodName) (cc : ByteArray) (n : Nat) (r : FieldType) (k mc ms : Nat) (av : List Value) (M : hM) (post : Option Nat → hM → Prop) : Prop := Met l y (hW y cc n (some r)) (hR k mc ms) (hPre g M av) (va_Qq post (fun M' t => hp g M' t.heap) (hA g)) mc ms (hA g)
theorem hPre.blind {g : hG} {M : hM} {av : List Value} : FrameBlind (hPre g M av) := fun a U f mk h => ⟨h.1, h.2.1.call f mk a, h.2.2⟩
/-- a method's facts for its callers -/
def hMs (y : MethodName) (cc : ByteArray) (n : Nat) (r : Option FieldType) (np : Nat) : Prop := Cond.code y cc n r ∈ hT ∧ Cond.initialized y.cls ∈ hT ∧ y.cls ≠ "java/lang/invoke/MethodHandle" ∧ y.cls ≠ "java/lang/invoke/VarHandle" ∧ (parseMethodDescriptor y.desc).map (fun d => d.parameters.length) = some np
section HP
variable {p : Program} {l : Launch} {e : Env} {R : Room} {s : State} {m : MethodId} {args : Array Value} {below : List Frame} {meth : Method} {c : Code} {H : Heap} {locs : List Loc} {cells slots : Nat} {Q : State → Prop}
variable {cc : ByteArray} {pc : Nat} {ls : Array Slot} {rest : List Value} {a : Nat} {g : hG} {M : hM} {own : String} {nL : Nat}
/-- getfield -/
theorem hp_get (E : hE p c cc nL s args m own g) (hm : hp g M H) {C : String} {T : u_T} {N ci index : Nat} {fs : List Value} (he : M a = some (.inr (ci, fs))) (hin : ∀ w ∈ u_ws C T N, w ∈ hT) (hc : vwCl[ci]? = some (C, T, N)) (k : Nat) (hk : k < N) (hlink : Cond.fieldLink own index (T k).1 (T k).2.1 (T k).2.2.1 ∈ hT) {v : Value} (hv : fs[k]? = some v) (hdg : decode cc pc = .ok (.getfield index, 3))
    (kk : W p l e R s m args below meth c H locs cells slots Q (F0 m (pc + 3) ls (v :: rest))) : W p l e R s m args below meth c H locs cells slots Q (F0 m pc ls (.ref a :: rest)) := by
  obtain ⟨hx, hb, -, hown, hts, hG⟩ := E
  exact va_get (ws := [(a, .inr (ci, fs))]) hx hb hts hin hown hG.1 (fun k q h => by
    match k, h with
    | 0, h => cases h; exact (hm _ _ he).2
    | k + 1, h => simp at h) 0 rfl hc k hk (hts _ hlink) (fun _ h => h) hv hdg kk
/-- putfield of a field that isn't final -/
theorem hp_put (E : hE p c cc nL s args m own g) (hm : hp g M H) (hS : va_S (hA g) s.heap H locs) {C : String} {T : u_T} {N ci index : Nat} {fs : List Value} (he : M a = some (.inr (ci, fs))) (hin : ∀ w ∈ u_ws C T N, w ∈ hT) (ty0 : Nat → FieldType) (hty : ∀ k, k < N → parseFieldDescriptor (T k).2.2.1 = some (ty0 k)) (hnm : ∀ a, a < N → ∀ b, b < N → a ≠ b → (T a).2.1 ≠ (T b).2.1) (hc : vwCl[ci]? = some (C, T, N)) (k : Nat) (hk : k < N) (hlink : Cond.fieldLink own index (T k).1 (T k).2.1 (T k).2.2.1 ∈ hT) (hfin : (T k).2.2.2 = false) {ty : FieldType} {v : Value} (hd : parseFieldDescriptor (T k).2.2.1 = some ty) (hn : narrow ty v = v) (hfit : fits ty v = true) (hl : k < fs.length) (hdg : decode cc pc = .ok (.putfield index, 3))
    (kk : ∀ (H1 : Heap) (locs1 : List Loc), hp g (hm_up M a (.inr (ci, fs.set k v))) H1 → va_S (hA g) s.heap H1 locs1 → W p l e R s m args below meth c H1 locs1 cells slots Q (F0 m (pc + 3) ls rest)) : W p l e R s m args below meth c H locs cells slots Q (F0 m pc ls (v :: .ref a :: rest)) := by
  obtain ⟨hx, hb, -, hown, hts, hG⟩ := E
  have hap := va_apart (own := own) hts hin ty0 hty hnm hG.1 hc
  obtain ⟨hBa, r, h1, cell, q1, q2, q3, q4⟩ := hm _ _ he
  have hr : r = (C, T, N) := Option.some.inj (h1.symm.trans hc)
  subst hr
  obtain ⟨hS0, hfc, kC, hkC, hkind⟩ := hG.1.1 ci _ hc
  obtain ⟨cf, kf, fi, f, hi, hsl⟩ := hS0 k hk
  have hlay := hts _ (hin _ (u_in_lay hk))
  unfold u_lay at hlay
  rw [if_neg (by rw [hfin]; decide)] at hlay
  have hst := (u_facts hfc hkC (u_lays hts hin hk) hi).1
  have h6 := u_store hfc hkC hkind hlay hi hd hn hfit
  refine W.putK hx hb (f := f) ⟨hown, hts _ hlink, ⟨_, _, _, hi⟩, hst⟩ (by rw [q2]; exact h6) q1 q3 (by rw [hsl]; exact k2_hasslot (q4 k hk)) rfl rfl hdg fun H' e1 e2 e3 => ?_
  rw [hsl] at e1 ⊢
  refine kk H' _ (fun b eb hb => ?_) (hS.put e2 e3 hBa)
  by_cases hba : b = a
  · subst hba
    rw [up_eq] at hb
    cases hb
    exact ⟨hBa, _, hc, t_OB.to (V := updV (vp_V fs) k v) ⟨_, e1, q2, q3, t_set q4 hap hk v⟩ (fun j _ => vp_updV_set hl v j)⟩
  · rw [up_ne hba] at hb
    exact ⟨(hm _ _ hb).1, (hm _ _ hb).2.kept (e3 _ hba)⟩
/-- putfield of a final field, in a constructor -/
theorem hp_putF (E : hE p c cc nL s args m own g) (hm : hp g M H) (hS : va_S (hA g) s.heap H locs) {C : String} {T : u_T} {N ci index : Nat} {fs : List Value} (he : M a = some (.inr (ci, fs))) (hin : ∀ w ∈ u_ws C T N, w ∈ hT) (ty0 : Nat → FieldType) (hty : ∀ k, k < N → parseFieldDescriptor (T k).2.2.1 = some (ty0 k)) (hnm : ∀ a, a < N → ∀ b, b < N → a ≠ b → (T a).2.1 ≠ (T b).2.1) (hc : vwCl[ci]? = some (C, T, N)) (k : Nat) (hk : k < N) (hlink : Cond.fieldLink own index (T k).1 (T k).2.1 (T k).2.2.1 ∈ hT) (hfin : (T k).2.2.2 = true) (hin2 : meth.name = "<init>") (hdecl : (T k).1 = own) {ty : FieldType} {v : Value} (hd : parseFieldDescriptor (T k).2.2.1 = some ty) (hn : narrow ty v = v) (hfit : fits ty v = true) (hl : k < fs.length) (hdg : decode cc pc = .ok (.putfield index, 3))
    (kk : ∀ (H1 : Heap) (locs1 : List Loc), hp g (hm_up M a (.inr (ci, fs.set k v))) H1 → va_S (hA g) s.heap H1 locs1 → W p l e R s m args below meth c H1 locs1 cells slots Q (F0 m (pc + 3) ls rest)) : W p l e R s m args below meth c H locs cells slots Q (F0 m pc ls (v :: .ref a :: rest)) := by
  obtain ⟨hx, hb, -, hown, hts, hG⟩ := E
  have hap := va_apart (own := own) hts hin ty0 hty hnm hG.1 hc
  obtain ⟨hBa, r, h1, cell, q1, q2, q3, q4⟩ := hm _ _ he
  have hr : r = (C, T, N) := Option.some.inj (h1.symm.trans hc)
  subst hr
  obtain ⟨hS0, hfc, kC, hkC, hkind⟩ := hG.1.1 ci _ hc
  obtain ⟨cf, kf, fi, f, hi, hsl⟩ := hS0 k hk
  have hlay := hts _ (hin _ (u_in_lay hk))
  unfold u_lay at hlay
  rw [if_pos hfin] at hlay
  have hst := (u_facts hfc hkC (u_lays hts hin hk) hi).1
  have hcf : m.cls = cf := by
    obtain ⟨_, _, c', _, _, _, -, -, hf', -, -, -, hown2, -⟩ := Cond.laysFinal_spec hlay
    have e1 : c' = cf := by have := hi.symm.trans hf'; simp at this; exact this.1.symm
    rw [hdecl] at hown2
    rw [← e1]; exact Option.some.inj (hown.symm.trans hown2)
  have h6 := u_fits hfc hkC hkind (Or.inr hlay) hi hd hn hfit
  refine W.putFinK hx hb hown (hts _ hlink) hi hst hcf hin2 (by rw [q2]; exact h6) q1 q3 (by rw [hsl]; exact k2_hasslot (q4 k hk)) rfl rfl hdg fun H' e1 e2 e3 => ?_
  rw [hsl] at e1 ⊢
  refine kk H' _ (fun b eb hb => ?_) (hS.put e2 e3 hBa)
  by_cases hba : b = a
  · subst hba
    rw [up_eq] at hb
    cases hb
    exact ⟨hBa, _, hc, t_OB.to (V := updV (vp_V fs) k v) ⟨_, e1, q2, q3, t_set q4 hap hk v⟩ (fun j _ => vp_updV_set hl v j)⟩
  · rw [up_ne hba] at hb
    exact ⟨(hm _ _ hb).1, (hm _ _ hb).2.kept (e3 _ hba)⟩
/-- iaload, iastore, arraylength -/
theorem hp_iald (E : hE p c cc nL s args m own g) (hm : hp g M H) {n : Nat} {f : Nat → Int32} (he : M a = some (aI g n f)) {i : Int32} (hin : vp_in i n) (hdg : decode cc pc = .ok (.iaload, 1))
    (kk : W p l e R s m args below meth c H locs cells slots Q (F0 m (pc + 1) ls (.int (f i.toNatClampNeg) :: rest))) : W p l e R s m args below meth c H locs cells slots Q (F0 m pc ls (.int i :: .ref a :: rest)) := by
  obtain ⟨hx, hb, -, hown, hts, hG⟩ := E
  exact va_iald (ws := [(a, aI g n f)]) hx hb hG.1 (fun k q h => by
    match k, h with
    | 0, h => cases h; exact (hm _ _ he).2
    | k + 1, h => simp at h) 0 0 rfl rfl hin hdg kk
theorem hp_iast (E : hE p c cc nL s args m own g) (hm : hp g M H) (hS : va_S (hA g) s.heap H locs) {n : Nat} {f : Nat → Int32} (he : M a = some (aI g n f)) {i x : Int32} (hin : vp_in i n) (hdg : decode cc pc = .ok (.iastore, 1))
    (kk : ∀ (H1 : Heap) (locs1 : List Loc), hp g (hm_up M a (aI g n (upd f i.toNatClampNeg x))) H1 → va_S (hA g) s.heap H1 locs1 → W p l e R s m args below meth c H1 locs1 cells slots Q (F0 m (pc + 1) ls rest)) : W p l e R s m args below meth c H locs cells slots Q (F0 m pc ls (.int x :: .int i :: .ref a :: rest)) := by
  obtain ⟨hx, hb, -, hown, hts, hG⟩ := E
  have hat : H[a]? = some (vp_cell (gI g) (n, .inl f)) := (hm _ _ he).2
  refine W.iast hx hb hat ((hG.1.2 0 (gI g, .int) rfl).1 n (fun j => .int (f j))) (fun q => by cases q) (by show ¬ (i < 0 ∨ (arrV _ _ _).slots.size ≤ _); rw [arrV_size]; exact hin) rfl rfl hdg fun H1 e1 z oq => ?_
  refine kk H1 _ (fun b eb hb => ?_) (hS.put z oq (hm _ _ he).1)
  by_cases hba : b = a
  · subst hba
    rw [up_eq] at hb
    cases hb
    refine ⟨(hm _ _ he).1, ?_⟩
    show H1[b]? = some (vp_cell _ _)
    rw [e1]
    rw [vp_cell_i, vp_cell_i, arrV_store]
    congr 2
    funext q
    by_cases hq : q = i.toNatClampNeg
    · subst hq
      simp [updV, upd]
    · simp [updV, upd, hq]
  · rw [up_ne hba] at hb
    exact ⟨(hm _ _ hb).1, (hm _ _ hb).2.kept (oq _ hba)⟩
/-- the static rows of numbers -/
theorem hp_ialdS (E : hE p c cc nL s args m own g) (hS : va_S (hA g) s.heap H locs) {i : Int32} (hin : vp_in i 8) (hdg : decode cc pc = .ok (.iaload, 1))
    (kk : W p l e R s m args below meth c H locs cells slots Q (F0 m (pc + 1) ls (.int (kStart i.toNatClampNeg) :: rest))) : W p l e R s m args below meth c H locs cells slots Q (F0 m pc ls (.int i :: .ref (gS g) :: rest)) := by
  obtain ⟨hx, hb, -, hown, hts, h1, h2, h3, h4, h5, h6, h7, h8, h9⟩ := E
  exact va_ti hx hb h5 hS hin rfl hdg kk
theorem hp_ialdK (E : hE p c cc nL s args m own g) (hS : va_S (hA g) s.heap H locs) {i : Int32} (hin : vp_in i 64) (hdg : decode cc pc = .ok (.iaload, 1))
    (kk : W p l e R s m args below meth c H locs cells slots Q (F0 m (pc + 1) ls (.int (kRound i.toNatClampNeg) :: rest))) : W p l e R s m args below meth c H locs cells slots Q (F0 m pc ls (.int i :: .ref (gK g) :: rest)) := by
  obtain ⟨hx, hb, -, hown, hts, h1, h2, h3, h4, h5, h6, h7, h8, h9⟩ := E
  exact va_ti hx hb h6 hS hin rfl hdg kk
/-- aaload of a Node[] and of an int[][] -/
theorem hp_aaldN (E : hE p c cc nL s args m own g) (hm : hp g M H) {n : Nat} {f : Nat → Option Nat} (he : M a = some (aN g n f)) {i : Int32} (hin : vp_in i n) (hdg : decode cc pc = .ok (.aaload, 1))
    (kk : W p l e R s m args below meth c H locs cells slots Q (F0 m (pc + 1) ls (va_rf (f i.toNatClampNeg) :: rest))) : W p l e R s m args below meth c H locs cells slots Q (F0 m pc ls (.int i :: .ref a :: rest)) := by
  obtain ⟨hx, hb, -, hown, hts, hG⟩ := E
  exact va_aldq (C := "ProofMap$Node") (ws := [(a, aN g n f)]) hx hb hG.1 (fun k q h => by
    match k, h with
    | 0, h => cases h; exact (hm _ _ he).2
    | k + 1, h => simp at h) 0 1 rfl rfl hin hdg kk
theorem hp_aaldR (E : hE p c cc nL s args m own g) (hm : hp g M H) {n : Nat} {f : Nat → Option Nat} (he : M a = some (aR g n f)) {i : Int32} (hin : vp_in i n) (hdg : decode cc pc = .ok (.aaload, 1))
    (kk : W p l e R s m args below meth c H locs cells slots Q (F0 m (pc + 1) ls (va_rf (f i.toNatClampNeg) :: rest))) : W p l e R s m args below meth c H locs cells slots Q (F0 m pc ls (.int i :: .ref a :: rest)) := by
  obtain ⟨hx, hb, -, hown, hts, hG⟩ := E
  have hlt : i.toNatClampNeg < n := Nat.not_le.mp fun q => hin (Or.inr q)
  have hat : H[a]? = some (vp_cell (gR g) (n, .inr (.inr (.inr (.inr f))))) := (hm _ _ he).2
  exact W.aald (v := va_rf (f i.toNatClampNeg)) (ty := .array .int) hx hb hat ((hG.1.2 2 (gR g, .array .int) rfl).1 n (fun j => va_rf (f j))) rfl (fun q => by cases q) (by show ¬ (i < 0 ∨ (arrV _ _ _).slots.size ≤ _); rw [arrV_size]; exact hin) (by show (arrV _ _ _).slots[_]? = _; rw [arrV_read _ _ hlt]) rfl rfl hdg kk
/-- new, newarray int -/
theorem hp_new (E : hE p c cc nL s args m own g) (hm : hp g M H) (hS : va_S (hA g) s.heap H locs) {C : String} {T : u_T} {N ci index : Nat} (hin : ∀ w ∈ u_ws C T N, w ∈ hT) (ty : Nat → FieldType) (hty : ∀ k, k < N → parseFieldDescriptor (T k).2.2.1 = some (ty k)) (hc : vwCl[ci]? = some (C, T, N)) (hcl : Cond.classLink own index C ∈ hT) (hinst : Cond.instantiable C N ∈ hT) (hini : Cond.initialized C ∈ hT) {fs : List Value} (hfs : ∀ j, j < N → defaultValue (ty j) = vp_V fs j) (hcells : cells + 1 ≤ R.cells) (hslots : slots + N ≤ R.slots) (hdg : decode cc pc = .ok (.new index, 3))
    (kk : ∀ (q : Nat) (H1 : Heap), M q = none → hp g (hm_up M q (.inr (ci, fs))) H1 → va_S (hA g) s.heap H1 locs → W p l e R s m args below meth c H1 locs (cells + 1) (slots + N) Q (F0 m (pc + 3) ls (.ref q :: rest))) : W p l e R s m args below meth c H locs cells slots Q (F0 m pc ls rest) := by
  obtain ⟨hx, hb, -, hown, hts, hG⟩ := E
  have hKn := hG.1.1 ci _ hc
  refine W.newcK hx hb hown (hts _ hcl) (hts _ hinst) (hts _ hini) rfl hdg hcells hslots hKn.2.1 rfl fun H1 kC hkC e1 z1 o1 => ?_
  have hnone : M H.size = none := by
    cases hq : M H.size with
    | none => rfl
    | some e0 => exact absurd ((hm _ _ hq).2.lt) (Nat.lt_irrefl _)
  refine kk H.size H1 hnone (fun b eb hb => ?_) ⟨Nat.le_trans hS.1 (by omega), fun x h1 h2 => (o1 x (Nat.lt_of_lt_of_le h1 hS.1)).trans (hS.2.1 x h1 h2), hS.2.2⟩
  by_cases hba : b = H.size
  · subst hba
    rw [up_eq] at hb
    cases hb
    exact ⟨Nat.le_trans hG.2.1 hS.1, _, hc, (u_born ty hts hin hKn hkC e1 hty).to hfs⟩
  · rw [up_ne hba] at hb
    have := (hm _ _ hb).2.lt
    exact ⟨(hm _ _ hb).1, (hm _ _ hb).2.kept (o1 _ this)⟩
theorem hp_newa (E : hE p c cc nL s args m own g) (hm : hp g M H) (hS : va_S (hA g) s.heap H locs) (harr : Cond.arrayClass .int ∈ hT) {n : Int32} {N' : Nat} (hn : ¬ n < 0) (hN : n.toNatClampNeg = N') (hbytes : N' * 4 ≤ 536870912) (hcells : cells + 1 ≤ R.cells) (hslots : slots + N' ≤ R.slots) (hdg : decode cc pc = .ok (.newarray .int, 2))
    (kk : ∀ (q : Nat) (H1 : Heap), M q = none → hp g (hm_up M q (aI g N' (fun _ => 0))) H1 → va_S (hA g) s.heap H1 locs → W p l e R s m args below meth c H1 locs (cells + 1) (slots + N') Q (F0 m (pc + 2) ls (.ref q :: rest))) : W p l e R s m args below meth c H locs cells slots Q (F0 m pc ls (.int n :: rest)) := by
  obtain ⟨hx, hb, -, hown, hts, hG⟩ := E
  refine va_newaK (atype := .int) hx hb (hts _ harr) rfl hdg rfl hn hN hbytes hcells hslots rfl fun H1 cA e1 z1 o1 hAr hNm => ?_
  have hcA : cA = gI g := Option.some.inj (hNm.symm.trans (hG.1.2 0 (gI g, .int) rfl).2)
  subst hcA
  have hnone : M H.size = none := by
    cases hq : M H.size with
    | none => rfl
    | some e0 => exact absurd ((hm _ _ hq).2.lt) (Nat.lt_irrefl _)
  refine kk H.size H1 hnone (fun b eb hb => ?_) ⟨Nat.le_trans hS.1 (by omega), fun x h1 h2 => (o1 x (Nat.lt_of_lt_of_le h1 hS.1)).trans (hS.2.1 x h1 h2), hS.2.2⟩
  by_cases hba : b = H.size
  · subst hba
    rw [up_eq] at hb
    cases hb
    exact ⟨Nat.le_trans hG.2.1 hS.1, e1⟩
  · rw [up_ne hba] at hb
    have := (hm _ _ hb).2.lt
    exact ⟨(hm _ _ hb).1, (hm _ _ hb).2.kept (o1 _ this)⟩
/-- Object.<init> -/
theorem hp_obj (E : hE p c cc nL s args m own g) {idx : Nat} (hlink : Cond.methodLink own idx objectInit ∈ hT) (hinst : Cond.instanceMethod objectInit ∈ hT) (hcode : Cond.code objectInit ⟨#[0xb1]⟩ 1 none ∈ hT) (hl : ls.size = nL) (hd : decode cc pc = .ok (.invokespecial idx, 3)) (hframes : 1 ≤ R.frames) (hlocals : (rest.map fun v => v.category).sum + 12 ≤ R.locals)
    (kk : W p l e R s m args below meth c H locs cells slots Q (F0 m (pc + 3) ls rest)) : W p l e R s m args below meth c H locs cells slots Q (F0 m pc ls (.ref a :: rest)) := by
  obtain ⟨hx, hb, hml, hown, hts, hG⟩ := E
  exact W.objInit hx hb hown (hts _ hlink) (hts _ hinst) (hts _ hcode) rfl (by rw [hml]; exact hl) rfl hd hframes (by show 2 * 0 + _ + 12 ≤ _; omega) kk
/-- calls: the run of each kind; then what goes on behind it, by the kind of the answer -/
theorem hp_runS (E : hE p c cc nL s args m own g) (hm : hp g M H) (hS : va_S (hA g) s.heap H locs) {y : MethodName} {cy : ByteArray} {ny : Nat} {r : Option FieldType} {k mc ms np index : Nat} {As st0 : List Value} {Qc : Array Value → State → Outcome → State → Prop} (hC : Met l y (hW y cy ny r) (hR k mc ms) (hPre g M As) Qc mc ms (hA g)) (hs : hMs y cy ny r np) (hst : Cond.static y ∈ hT) (hlink : Cond.methodLink own index y ∈ hT) (hn : As.length = np) (hsz : ls.size = nL) (hst0 : st0 = As.reverse ++ rest) (hcat : (rest.map fun v => v.category).sum ≤ 8) (hdg : decode cc pc = .ok (.invokestatic index, 3)) (hk : k + 1 ≤ R.frames ∧ 8 + (ny + 11) + 100 * k ≤ R.locals) (hf : cells + mc ≤ R.cells ∧ slots + ms ≤ R.slots) :
    va_Run p l e R s m args below meth c H locs cells slots mc ms (F0 m pc ls st0) rest (Qc As.toArray) (hA g) := by
  obtain ⟨hx, hb, hml, hown, hts, hG⟩ := E
  subst hst0
  exact va_runS ⟨hx, hb, hml, hown, hts⟩ hC ⟨callB_of (ws' := hT) np hts (hW_good hs.1) rfl rfl rfl (hts _ hs.2.1) (hts _ hlink) hs.2.2 hk, hts _ hst⟩ ⟨hPre.blind, fun U hU hW => ⟨rfl, hG.move hS hU hW, by rw [hU]; exact hm⟩⟩ rfl hn hsz rfl (lv_room hcat) hdg hf
theorem hp_runV (E : hE p c cc nL s args m own g) (hm : hp g M H) (hS : va_S (hA g) s.heap H locs) {y : MethodName} {cy : ByteArray} {ny : Nat} {r : Option FieldType} {k mc ms np index ci : Nat} {C : String} {T : u_T} {N : Nat} {fs : List Value} {As st0 : List Value} {Qc : Array Value → State → Outcome → State → Prop} (hC : Met l y (hW y cy ny r) (hR k mc ms) (hPre g M (.ref a :: As)) Qc mc ms (hA g)) (hs : hMs y cy ny r np) (hin : Cond.instanceMethod y ∈ hT) (hsel : Cond.selects C y y ∈ hT) (hlink : Cond.methodLink own index y ∈ hT) (he : M a = some (.inr (ci, fs))) (hc : vwCl[ci]? = some (C, T, N)) (hn : As.length = np) (hsz : ls.size = nL) (hst0 : st0 = As.reverse ++ .ref a :: rest) (hcat : (rest.map fun v => v.category).sum ≤ 8) (hdg : decode cc pc = .ok (.invokevirtual index, 3)) (hk : k + 1 ≤ R.frames ∧ 8 + (ny + 11) + 100 * k ≤ R.locals) (hf : cells + mc ≤ R.cells ∧ slots + ms ≤ R.slots) :
    va_Run p l e R s m args below meth c H locs cells slots mc ms (F0 m pc ls st0) rest (Qc (Value.ref a :: As).toArray) (hA g) := by
  obtain ⟨hx, hb, hml, hown, hts, hG⟩ := E
  subst hst0
  refine va_runV (C := C) ⟨hx, hb, hml, hown, hts⟩ hC ⟨callB_of (ws' := hT) np hts (hW_good hs.1) rfl rfl rfl (hts _ hs.2.1) (hts _ hlink) hs.2.2 hk, hts _ hin, hts _ hsel⟩ ⟨hPre.blind, ?_, fun U hU hW => ⟨rfl, hG.move hS hU hW, by rw [hU]; exact hm⟩⟩ rfl hn hsz rfl (lv_room hcat) hdg hf
  exact va_recv (ws := [(a, .inr (ci, fs))]) hG.1 (fun k q h => by
    match k, h with
    | 0, h => cases h; exact (hm _ _ he).2
    | k + 1, h => simp at h) (q0 := 0) hc rfl
theorem hp_runI (E : hE p c cc nL s args m own g) (hm : hp g M H) (hS : va_S (hA g) s.heap H locs) {y : MethodName} {cy : ByteArray} {ny : Nat} {k mc ms np index : Nat} {As st0 : List Value} {Qc : Array Value → State → Outcome → State → Prop} (hC : Met l y (hW y cy ny none) (hR k mc ms) (hPre g M (.ref a :: As)) Qc mc ms (hA g)) (hs : hMs y cy ny none np) (hin : Cond.instanceMethod y ∈ hT) (hy : y.name = "<init>") (hlink : Cond.methodLink own index y ∈ hT) (hn : As.length = np) (hsz : ls.size = nL) (hst0 : st0 = As.reverse ++ .ref a :: rest) (hcat : (rest.map fun v => v.category).sum ≤ 8) (hdg : decode cc pc = .ok (.invokespecial index, 3)) (hk : k + 1 ≤ R.frames ∧ 8 + (ny + 11) + 100 * k ≤ R.locals) (hf : cells + mc ≤ R.cells ∧ slots + ms ≤ R.slots) :
    va_Run p l e R s m args below meth c H locs cells slots mc ms (F0 m pc ls st0) rest (Qc (Value.ref a :: As).toArray) (hA g) := by
  obtain ⟨hx, hb, hml, hown, hts, hG⟩ := E
  subst hst0
  exact va_runI ⟨hx, hb, hml, hown, hts⟩ hC ⟨callB_of (ws' := hT) np hts (hW_good hs.1) rfl rfl rfl (hts _ hs.2.1) (hts _ hlink) hs.2.2 hk, hy, hts _ hin⟩ ⟨hPre.blind, fun U hU hW => ⟨rfl, hG.move hS hU hW, by rw [hU]; exact hm⟩⟩ rfl hn hsz rfl (lv_room hcat) hdg hf
theorem hp_runN (E : hE p c cc nL s args m own g) (hm : hp g M H) (hS : va_S (hA g) s.heap H locs) {y : MethodName} {cy : ByteArray} {ny : Nat} {r : Option FieldType} {k mc ms np index : Nat} {host : String} {As st0 : List Value} {Qc : Array Value → State → Outcome → State → Prop} (hC : Met l y (hW y cy ny r) (hR k mc ms) (hPre g M As) Qc mc ms (hA g)) (hs : hMs y cy ny r np) (hst : Cond.static y ∈ hT) (hlink : va_Nw (.methodLinkNest own index y host) s) (hn : As.length = np) (hsz : ls.size = nL) (hst0 : st0 = As.reverse ++ rest) (hcat : (rest.map fun v => v.category).sum ≤ 8) (hdg : decode cc pc = .ok (.invokestatic index, 3)) (hk : k + 1 ≤ R.frames ∧ 8 + (ny + 11) + 100 * k ≤ R.locals) (hf : cells + mc ≤ R.cells ∧ slots + ms ≤ R.slots) :
    va_Run p l e R s m args below meth c H locs cells slots mc ms (F0 m pc ls st0) rest (Qc As.toArray) (hA g) := by
  obtain ⟨hx, hb, hml, hown, hts, hG⟩ := E
  subst hst0
  exact va_runSN (host := host) ⟨hx, hb, hml, hown, hts⟩ hC ⟨va_cnB (ws' := hT) np hts (hW_good hs.1) rfl rfl rfl hlink (hts _ hs.2.1) hs.2.2 hk, hts _ hst, trivial⟩ ⟨hPre.blind, fun U hU hW => ⟨rfl, hG.move hS hU hW, by rw [hU]; exact hm⟩⟩ rfl hn hsz rfl (lv_room hcat) hdg hf
variable {st0 : List Value} {av : Array Value} {mc ms : Nat}
theorem hp_ci {post : Int32 → hM → Prop} (hr : va_Run p l e R s m args below meth c H locs cells slots mc ms (F0 m pc ls st0) rest (va_Qi post (fun M' t => hp g M' t.heap) (hA g) av) (hA g)) (hS : va_S (hA g) s.heap H locs)
    (kk : ∀ (r : Int32) (M1 : hM) (H1 : Heap) (locs1 : List Loc), post r M1 → hp g M1 H1 → va_S (hA g) s.heap H1 locs1 → W p l e R s m args below meth c H1 locs1 (cells + mc) (slots + ms) Q (F0 m (pc + 3) ls (.int r :: rest))) : W p l e R s m args below meth c H locs cells slots Q (F0 m pc ls st0) :=
  va_calli hr hS (fun _ _ h => h) (fun _ h => h) (fun r u t H1 locs1 ht _ hp1 hB _ _ hS1 => kk r u H1 locs1 hp1 (by rw [← ht]; exact hB) hS1)
theorem hp_cl {post : Int64 → hM → Prop} (hr : va_Run p l e R s m args below meth c H locs cells slots mc ms (F0 m pc ls st0) rest (va_Ql post (fun M' t => hp g M' t.heap) (hA g) av) (hA g)) (hS : va_S (hA g) s.heap H locs)
    (kk : ∀ (r : Int64) (M1 : hM) (H1 : Heap) (locs1 : List Loc), post r M1 → hp g M1 H1 → va_S (hA g) s.heap H1 locs1 → W p l e R s m args below meth c H1 locs1 (cells + mc) (slots + ms) Q (F0 m (pc + 3) ls (.long r :: rest))) : W p l e R s m args below meth c H locs cells slots Q (F0 m pc ls st0) :=
  va_calll hr hS (fun _ _ h => h) (fun _ h => h) (fun r u t H1 locs1 ht _ hp1 hB _ _ hS1 => kk r u H1 locs1 hp1 (by rw [← ht]; exact hB) hS1)
theorem hp_cv {post : hM → Prop} (hr : va_Run p l e R s m args below meth c H locs cells slots mc ms (F0 m pc ls st0) rest (va_Qv post (fun M' t => hp g M' t.heap) (hA g) av) (hA g)) (hS : va_S (hA g) s.heap H locs)
    (kk : ∀ (M1 : hM) (H1 : Heap) (locs1 : List Loc), post M1 → hp g M1 H1 → va_S (hA g) s.heap H1 locs1 → W p l e R s m args below meth c H1 locs1 (cells + mc) (slots + ms) Q (F0 m (pc + 3) ls rest)) : W p l e R s m args below meth c H locs cells slots Q (F0 m pc ls st0) :=
  va_callv hr hS (fun _ _ h => h) (fun _ h => h) (fun u t H1 locs1 ht _ hp1 hB _ _ hS1 => kk u H1 locs1 hp1 (by rw [← ht]; exact hB) hS1)
theorem hp_cq {post : Option Nat → hM → Prop} (hr : va_Run p l e R s m args below meth c H locs cells slots mc ms (F0 m pc ls st0) rest (va_Qq post (fun M' t => hp g M' t.heap) (hA g) av) (hA g)) (hS : va_S (hA g) s.heap H locs)
    (kk : ∀ (r : Option Nat) (M1 : hM) (H1 : Heap) (locs1 : List Loc), post r M1 → hp g M1 H1 → va_S (hA g) s.heap H1 locs1 → W p l e R s m args below meth c H1 locs1 (cells + mc) (slots + ms) Q (F0 m (pc + 3) ls (va_rf r :: rest))) : W p l e R s m args below meth c H locs cells slots Q (F0 m pc ls st0) :=
  va_callq hr hS (fun _ _ h => h) (fun _ h => h) (fun r u t H1 locs1 ht _ hp1 hB _ _ hS1 => kk r u H1 locs1 hp1 (by rw [← ht]; exact hB) hS1)
/-- returns -/
theorem hp_ri {post : Int32 → hM → Prop} {v : Int32} {ty : FieldType} (E : hE p c cc nL s args m own g) (hr : meth.sig.returnType = some ty) (hlk : meth.locks = false) (hm : hp g M H) (hS : va_S (hA g) s.heap H locs) (hn : narrow ty (.int v) = .int v) (hp1 : post v M) (hdg : decode cc pc = .ok (.ireturn, 1)) (h1 : cells ≤ mc) (h2 : slots ≤ ms) : W p l e R s m args below meth c H locs cells slots (MQ below (va_Qi post (fun M' t => hp g M' t.heap) (hA g)) args s mc ms (hA g)) (F0 m pc ls [.int v]) :=
  W.widen h1 h2 (W.zret E.1 E.2.1 hr hn (fun t ht _ => ⟨⟨v, M, rfl, hp1, by show hp g M t.heap; rw [ht]; exact hm⟩, hS.F ht⟩) hS.2.2 hdg hlk)
theorem hp_rl {post : Int64 → hM → Prop} {v : Int64} (E : hE p c cc nL s args m own g) (hr : meth.sig.returnType = some .long) (hlk : meth.locks = false) (hm : hp g M H) (hS : va_S (hA g) s.heap H locs) (hp1 : post v M) (hdg : decode cc pc = .ok (.lreturn, 1)) (h1 : cells ≤ mc) (h2 : slots ≤ ms) : W p l e R s m args below meth c H locs cells slots (MQ below (va_Ql post (fun M' t => hp g M' t.heap) (hA g)) args s mc ms (hA g)) (F0 m pc ls [.long v]) :=
  W.widen h1 h2 (W.lret E.1 E.2.1 hr (fun t ht _ => ⟨⟨v, M, rfl, hp1, by show hp g M t.heap; rw [ht]; exact hm⟩, hS.F ht⟩) hS.2.2 hdg hlk)
theorem hp_rv {post : hM → Prop} (E : hE p c cc nL s args m own g) (hr : meth.sig.returnType = none) (hlk : meth.locks = false) (hm : hp g M H) (hS : va_S (hA g) s.heap H locs) (hp1 : post M) (hdg : decode cc pc = .ok (.return_, 1)) (h1 : cells ≤ mc) (h2 : slots ≤ ms) : W p l e R s m args below meth c H locs cells slots (MQ below (va_Qv post (fun M' t => hp g M' t.heap) (hA g)) args s mc ms (hA g)) (F0 m pc ls []) :=
  W.widen h1 h2 (W.vret E.1 E.2.1 hr (fun t ht _ => ⟨⟨M, rfl, hp1, by show hp g M t.heap; rw [ht]; exact hm⟩, hS.F ht⟩) hS.2.2 hdg hlk)
theorem hp_rq {post : Option Nat → hM → Prop} {r : Option Nat} {ty : FieldType} (E : hE p c cc nL s args m own g) (hr : meth.sig.returnType = some ty) (hty : (∃ n, ty = .object n) ∨ ∃ t, ty = .array t) (hlk : meth.locks = false) (hm : hp g M H) (hS : va_S (hA g) s.heap H locs) (hp1 : post r M) (hdg : decode cc pc = .ok (.areturn, 1)) (h1 : cells ≤ mc) (h2 : slots ≤ ms) : W p l e R s m args below meth c H locs cells slots (MQ below (va_Qq post (fun M' t => hp g M' t.heap) (hA g)) args s mc ms (hA g)) (F0 m pc ls [va_rf r]) :=
  W.widen h1 h2 (W.aret E.1 E.2.1 hr hty (va_rf_or r) (fun t ht _ => ⟨⟨r, M, rfl, hp1, by show hp g M t.heap; rw [ht]; exact hm⟩, hS.F ht⟩) hS.2.2 hdg hlk)
end HP
/-! the start of a method: its surroundings, its locals, and its end -/
theorem hp_startI {l : Launch} {g : hG} {y : MethodName} {cy : ByteArray} {ny k mc ms : Nat} {r : FieldType} {av : List Value} {M : hM} {post : Int32 → hM → Prop} (hy : plainName y.cls = true) (hlen : (lg_sl av).length ≤ ny)
    (body : ∀ (p : Program) (e : Env) (s : State) (m : MethodId) (below : List Frame) (meth : Method) (c : Code) (Q : State → Prop) (H : Heap) (locs : List Loc) (ls : Array Slot), hE p c cy ny s av.toArray m y.cls g → meth.name = y.name → (∀ {H : Heap} {locs : List Loc} {cells slots : Nat} {M : hM} {v : Int32} {ls : Array Slot} {pc : Nat}, decode cy pc = .ok (.ireturn, 1) → narrow r (.int v) = .int v → hp g M H → va_S (hA g) s.heap H locs → cells ≤ mc → slots ≤ ms → post v M → W p l e (hR k mc ms) s m av.toArray below meth c H locs cells slots Q (F0 m pc ls [.int v])) → hp g M H → va_S (hA g) s.heap H locs → lv_has ls ny (lv_args 0 av) →
      W p l e (hR k mc ms) s m av.toArray below meth c H locs 0 0 Q (F0 m 0 ls [])) : Met l y (hW y cy ny (some r)) (hR k mc ms) (hPre g M av) (va_Qi post (fun M' t => hp g M' t.heap) (hA g)) mc ms (hA g) := by
  refine Met.ofW (cc := cy) (maxL := ny) (ret := (some r)) hy rfl ?_
  intro p e s m args below meth c s₁ B hml hv
  obtain ⟨rfl, hG, hm⟩ := hv
  have hts := atoms_spec (ws := hW y cy ny (some r)) B.pre
  rw [lg_entry_eq]
  have E : hE p c cy ny s av.toArray m y.cls g := ⟨B.exec, B.bytes, hml, findClass_of_methodNamed B.named, fun w h => hts w (List.mem_cons_of_mem _ h), hG⟩
  exact body p e s m below meth c _ _ _ _ E (name_of_methodNamed B.named B.method).1 (fun d hn hm hS h1 h2 hp1 => hp_ri E B.returns B.notSynchronized hm hS hn hp1 d h1 h2) hm va_S.rf (lv_entry av hlen)
theorem hp_startL {l : Launch} {g : hG} {y : MethodName} {cy : ByteArray} {ny k mc ms : Nat} {av : List Value} {M : hM} {post : Int64 → hM → Prop} (hy : plainName y.cls = true) (hlen : (lg_sl av).length ≤ ny)
    (body : ∀ (p : Program) (e : Env) (s : State) (m : MethodId) (below : List Frame) (meth : Method) (c : Code) (Q : State → Prop) (H : Heap) (locs : List Loc) (ls : Array Slot), hE p c cy ny s av.toArray m y.cls g → meth.name = y.name → (∀ {H : Heap} {locs : List Loc} {cells slots : Nat} {M : hM} {v : Int64} {ls : Array Slot} {pc : Nat}, decode cy pc = .ok (.lreturn, 1) → hp g M H → va_S (hA g) s.heap H locs → cells ≤ mc → slots ≤ ms → post v M → W p l e (hR k mc ms) s m av.toArray below meth c H locs cells slots Q (F0 m pc ls [.long v])) → hp g M H → va_S (hA g) s.heap H locs → lv_has ls ny (lv_args 0 av) →
      W p l e (hR k mc ms) s m av.toArray below meth c H locs 0 0 Q (F0 m 0 ls [])) : Met l y (hW y cy ny (some .long)) (hR k mc ms) (hPre g M av) (va_Ql post (fun M' t => hp g M' t.heap) (hA g)) mc ms (hA g) := by
  refine Met.ofW (cc := cy) (maxL := ny) (ret := (some .long)) hy rfl ?_
  intro p e s m args below meth c s₁ B hml hv
  obtain ⟨rfl, hG, hm⟩ := hv
  have hts := atoms_spec (ws := hW y cy ny (some .long)) B.pre
  rw [lg_entry_eq]
  have E : hE p c cy ny s av.toArray m y.cls g := ⟨B.exec, B.bytes, hml, findClass_of_methodNamed B.named, fun w h => hts w (List.mem_cons_of_mem _ h), hG⟩
  exact body p e s m below meth c _ _ _ _ E (name_of_methodNamed B.named B.method).1 (fun d hm hS h1 h2 hp1 => hp_rl E B.returns B.notSynchronized hm hS hp1 d h1 h2) hm va_S.rf (lv_entry av hlen)
theorem hp_startV {l : Launch} {g : hG} {y : MethodName} {cy : ByteArray} {ny k mc ms : Nat} {av : List Value} {M : hM} {post : hM → Prop} (hy : plainName y.cls = true) (hlen : (lg_sl av).length ≤ ny)
    (body : ∀ (p : Program) (e : Env) (s : State) (m : MethodId) (below : List Frame) (meth : Method) (c : Code) (Q : State → Prop) (H : Heap) (locs : List Loc) (ls : Array Slot), hE p c cy ny s av.toArray m y.cls g → meth.name = y.name → (∀ {H : Heap} {locs : List Loc} {cells slots : Nat} {M : hM} {ls : Array Slot} {pc : Nat}, decode cy pc = .ok (.return_, 1) → hp g M H → va_S (hA g) s.heap H locs → cells ≤ mc → slots ≤ ms → post M → W p l e (hR k mc ms) s m av.toArray below meth c H locs cells slots Q (F0 m pc ls [])) → hp g M H → va_S (hA g) s.heap H locs → lv_has ls ny (lv_args 0 av) →
      W p l e (hR k mc ms) s m av.toArray below meth c H locs 0 0 Q (F0 m 0 ls [])) : Met l y (hW y cy ny none) (hR k mc ms) (hPre g M av) (va_Qv post (fun M' t => hp g M' t.heap) (hA g)) mc ms (hA g) := by
  refine Met.ofW (cc := cy) (maxL := ny) (ret := none) hy rfl ?_
  intro p e s m args below meth c s₁ B hml hv
  obtain ⟨rfl, hG, hm⟩ := hv
  have hts := atoms_spec (ws := hW y cy ny none) B.pre
  rw [lg_entry_eq]
  have E : hE p c cy ny s av.toArray m y.cls g := ⟨B.exec, B.bytes, hml, findClass_of_methodNamed B.named, fun w h => hts w (List.mem_cons_of_mem _ h), hG⟩
  exact body p e s m below meth c _ _ _ _ E (name_of_methodNamed B.named B.method).1 (fun d hm hS h1 h2 hp1 => hp_rv E B.returns B.notSynchronized hm hS hp1 d h1 h2) hm va_S.rf (lv_entry av hlen)
theorem hp_startQ {l : Launch} {g : hG} {y : MethodName} {cy : ByteArray} {ny k mc ms : Nat} {r : FieldType} {av : List Value} {M : hM} {post : Option Nat → hM → Prop} (hy : plainName y.cls = true) (hlen : (lg_sl av).length ≤ ny) (hty : (∃ n, r = .object n) ∨ ∃ t, r = .array t)
    (body : ∀ (p : Program) (e : Env) (s : State) (m : MethodId) (below : List Frame) (meth : Method) (c : Code) (Q : State → Prop) (H : Heap) (locs : List Loc) (ls : Array Slot), hE p c cy ny s av.toArray m y.cls g → meth.name = y.name → (∀ {H : Heap} {locs : List Loc} {cells slots : Nat} {M : hM} {v : Option Nat} {ls : Array Slot} {pc : Nat}, decode cy pc = .ok (.areturn, 1) → hp g M H → va_S (hA g) s.heap H locs → cells ≤ mc → slots ≤ ms → post v M → W p l e (hR k mc ms) s m av.toArray below meth c H locs cells slots Q (F0 m pc ls [va_rf v])) → hp g M H → va_S (hA g) s.heap H locs → lv_has ls ny (lv_args 0 av) →
      W p l e (hR k mc ms) s m av.toArray below meth c H locs 0 0 Q (F0 m 0 ls [])) : Met l y (hW y cy ny (some r)) (hR k mc ms) (hPre g M av) (va_Qq post (fun M' t => hp g M' t.heap) (hA g)) mc ms (hA g) := by
  refine Met.ofW (cc := cy) (maxL := ny) (ret := (some r)) hy rfl ?_
  intro p e s m args below meth c s₁ B hml hv
  obtain ⟨rfl, hG, hm⟩ := hv
  have hts := atoms_spec (ws := hW y cy ny (some r)) B.pre
  rw [lg_entry_eq]
  have E : hE p c cy ny s av.toArray m y.cls g := ⟨B.exec, B.bytes, hml, findClass_of_methodNamed B.named, fun w h => hts w (List.mem_cons_of_mem _ h), hG⟩
  exact body p e s m below meth c _ _ _ _ E (name_of_methodNamed B.named B.method).1 (fun d hm hS h1 h2 hp1 => hp_rq E B.returns hty B.notSynchronized hm hS hp1 d h1 h2) hm va_S.rf (lv_entry av hlen)
section HQ
variable {p : Program} {l : Launch} {e : Env} {R : Room} {s : State} {m : MethodId} {args : Array Value} {below : List Frame} {meth : Method} {c : Code} {H : Heap} {locs : List Loc} {cells slots : Nat} {Q : State → Prop}
variable {cc : ByteArray} {pc : Nat} {ls : Array Slot} {rest : List Value}
/-! references that may be null -/
theorem hq_aload_n (hexec : p.tables.exec = Jvm.exec) (hb : c.code = cc) {k : Fin 4} {i : Nat} {x : Option Nat} (hdg : decode cc pc = .ok (.aload_n k, 1)) (hi : (k : Nat) = i) (hl : ls[i]? = some (.val (va_rf x)))
    (kk : W p l e R s m args below meth c H locs cells slots Q (F0 m (pc + 1) ls (va_rf x :: rest))) : W p l e R s m args below meth c H locs cells slots Q (F0 m pc ls rest) := by
  cases x with
  | none => exact lv_aload_nN hexec hb hdg hi hl kk
  | some a => exact lv_aload_n hexec hb hdg hi hl kk
theorem hq_aload (hexec : p.tables.exec = Jvm.exec) (hb : c.code = cc) {i : Nat} {x : Option Nat} (hdg : decode cc pc = .ok (.aload i, 2)) (hl : ls[i]? = some (.val (va_rf x)))
    (kk : W p l e R s m args below meth c H locs cells slots Q (F0 m (pc + 2) ls (va_rf x :: rest))) : W p l e R s m args below meth c H locs cells slots Q (F0 m pc ls rest) := by
  cases x with
  | none => exact lv_aloadN hexec hb hdg hl kk
  | some a => exact lv_aload hexec hb hdg hl kk
theorem hq_astore_n (hexec : p.tables.exec = Jvm.exec) (hb : c.code = cc) {k : Fin 4} {i nL : Nat} {x : Option Nat} {lv lv' : List (Nat × Value)} (hdg : decode cc pc = .ok (.astore_n k, 1)) (hi : (k : Nat) = i) (h : lv_has ls nL lv) (hn : i < nL) (hl : (i, va_rf x) :: lv.filter (fun q => !(q.1 == i) && !(q.1 + 1 == i && q.2.category == 2)) = lv')
    (kk : ∀ ls' : Array Slot, lv_has ls' nL lv' → W p l e R s m args below meth c H locs cells slots Q (F0 m (pc + 1) ls' rest)) : W p l e R s m args below meth c H locs cells slots Q (F0 m pc ls (va_rf x :: rest)) := by
  cases x with
  | none => exact lv_astore_nN hexec hb hdg hi h hn hl kk
  | some a => exact lv_astore_n hexec hb hdg hi h hn hl kk
theorem hq_astore (hexec : p.tables.exec = Jvm.exec) (hb : c.code = cc) {i nL : Nat} {x : Option Nat} {lv lv' : List (Nat × Value)} (hdg : decode cc pc = .ok (.astore i, 2)) (h : lv_has ls nL lv) (hn : i < nL) (hl : (i, va_rf x) :: lv.filter (fun q => !(q.1 == i) && !(q.1 + 1 == i && q.2.category == 2)) = lv')
    (kk : ∀ ls' : Array Slot, lv_has ls' nL lv' → W p l e R s m args below meth c H locs cells slots Q (F0 m (pc + 2) ls' rest)) : W p l e R s m args below meth c H locs cells slots Q (F0 m pc ls (va_rf x :: rest)) := by
  cases x with
  | none => exact lv_astoreN hexec hb hdg h hn hl kk
  | some a => exact lv_astore hexec hb hdg h hn hl kk
theorem hq_ifnull (hexec : p.tables.exec = Jvm.exec) (hb : c.code = cc) {x : Option Nat} {off : Int} {tgt : Nat} (hdg : decode cc pc = .ok (.ifnull off, 3)) (ht : (pc : Int) + off = (tgt : Int))
    (kt : x = none → W p l e R s m args below meth c H locs cells slots Q (F0 m tgt ls rest)) (kf : ∀ a, x = some a → W p l e R s m args below meth c H locs cells slots Q (F0 m (pc + 3) ls rest)) : W p l e R s m args below meth c H locs cells slots Q (F0 m pc ls (va_rf x :: rest)) := by
  cases x with
  | none => exact lv_ifnullN hexec hb hdg ht (kt rfl)
  | some a => exact lv_ifnull hexec hb hdg (kf a rfl)
theorem hq_ifnonnull (hexec : p.tables.exec = Jvm.exec) (hb : c.code = cc) {x : Option Nat} {off : Int} {tgt : Nat} (hdg : decode cc pc = .ok (.ifnonnull off, 3)) (ht : (pc : Int) + off = (tgt : Int))
    (kt : ∀ a, x = some a → W p l e R s m args below meth c H locs cells slots Q (F0 m tgt ls rest)) (kf : x = none → W p l e R s m args below meth c H locs cells slots Q (F0 m (pc + 3) ls rest)) : W p l e R s m args below meth c H locs cells slots Q (F0 m pc ls (va_rf x :: rest)) := by
  cases x with
  | none => exact lv_ifnonnullN hexec hb hdg (kf rfl)
  | some a => exact lv_ifnonnull hexec hb hdg ht (kt a rfl)
end HQ
/-- the unsigned shift -/
def ush (x y : Int32) : Int32 := (x.toUInt32 >>> (y.toUInt32 &&& Int32.toUInt32 31)).toInt32
theorem na_i {v : Int32} : narrow .int (.int v) = .int v := rfl
theorem na_0 : narrow .boolean (.int 0) = .int 0 := by decide
theorem na_1 : narrow .boolean (.int 1) = .int 1 := by decide
def bI (b : Bool) : Int32 := if b then 1 else 0
theorem na_b {b : Bool} : narrow .boolean (.int (bI b)) = .int (bI b) := by cases b <;> decide
theorem fi_b {b : Bool} : fits .boolean (.int (bI b)) = true := by cases b <;> decide
/-! int arrays by natural places -/
section HN
variable {p : Program} {l : Launch} {e : Env} {R : Room} {s : State} {m : MethodId} {args : Array Value} {below : List Frame} {meth : Method} {c : Code} {H : Heap} {locs : List Loc} {cells slots : Nat} {Q : State → Prop}
variable {cc : ByteArray} {pc : Nat} {ls : Array Slot} {rest : List Value} {a : Nat} {g : hG} {M : hM} {own : String} {nL : Nat}
theorem hp_ialdN (E : hE p c cc nL s args m own g) (hm : hp g M H) {n : Nat} {f : Nat → Int32} (he : M a = some (aI g n f)) {x : Int32} (i : Nat) (hi : x = nI i) (hlt : i < n) (hn : n < 2 ^ 31) (hdg : decode cc pc = .ok (.iaload, 1))
    (kk : W p l e R s m args below meth c H locs cells slots Q (F0 m (pc + 1) ls (.int (f i) :: rest))) : W p l e R s m args below meth c H locs cells slots Q (F0 m pc ls (.int x :: .ref a :: rest)) := by
  subst hi
  refine hp_iald E hm he (vp_in_nI hlt hn) hdg ?_
  rw [nI_clamp (by omega)]
  exact kk
theorem hp_iastN (E : hE p c cc nL s args m own g) (hm : hp g M H) (hS : va_S (hA g) s.heap H locs) {n : Nat} {f : Nat → Int32} (he : M a = some (aI g n f)) {x v : Int32} (i : Nat) (hi : x = nI i) (hlt : i < n) (hn : n < 2 ^ 31) (hdg : decode cc pc = .ok (.iastore, 1))
    (kk : ∀ (H1 : Heap) (locs1 : List Loc), hp g (hm_up M a (aI g n (upd f i v))) H1 → va_S (hA g) s.heap H1 locs1 → W p l e R s m args below meth c H1 locs1 cells slots Q (F0 m (pc + 1) ls rest)) : W p l e R s m args below meth c H locs cells slots Q (F0 m pc ls (.int v :: .int x :: .ref a :: rest)) := by
  subst hi
  refine hp_iast E hm hS he (vp_in_nI hlt hn) hdg ?_
  rw [nI_clamp (by omega)]
  exact kk
theorem hp_ialdSN (E : hE p c cc nL s args m own g) (hS : va_S (hA g) s.heap H locs) {x : Int32} (i : Nat) (hi : x = nI i) (hlt : i < 8) (hdg : decode cc pc = .ok (.iaload, 1))
    (kk : W p l e R s m args below meth c H locs cells slots Q (F0 m (pc + 1) ls (.int (kStart i) :: rest))) : W p l e R s m args below meth c H locs cells slots Q (F0 m pc ls (.int x :: .ref (gS g) :: rest)) := by
  subst hi
  refine hp_ialdS E hS (vp_in_nI hlt (by decide)) hdg ?_
  rw [nI_clamp (by omega)]
  exact kk
theorem hp_ialdKN (E : hE p c cc nL s args m own g) (hS : va_S (hA g) s.heap H locs) {x : Int32} (i : Nat) (hi : x = nI i) (hlt : i < 64) (hdg : decode cc pc = .ok (.iaload, 1))
    (kk : W p l e R s m args below meth c H locs cells slots Q (F0 m (pc + 1) ls (.int (kRound i) :: rest))) : W p l e R s m args below meth c H locs cells slots Q (F0 m pc ls (.int x :: .ref (gK g) :: rest)) := by
  subst hi
  refine hp_ialdK E hS (vp_in_nI hlt (by decide)) hdg ?_
  rw [nI_clamp (by omega)]
  exact kk
end HN
