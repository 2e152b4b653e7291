/-! nodes whose digest isn't known yet: how many a call makes known -/
def und (M : hM) (q : Nat) : Bool := match M q with
  | some (.inr (1, [_, _, _, _, _, .null])) => true
  | _ => false
def lf (M : hM) (a k : Nat) : Option Nat := match M a with
  | some (.inr (_, fs)) => (match fs[k]? with
    | some (.ref b) => some b
    | _ => none)
  | _ => none
def udT : Nat → hM → Option Nat → Nat
  | _, _, none => 0
  | 0, M, some a => if und M a then 1 else 0
  | n + 1, M, some a => if und M a then 1 + udT n M (lf M a 3) + udT n M (lf M a 4) else 0
theorem udT_none (n : Nat) (M : hM) : udT n M none = 0 := by cases n <;> rfl
theorem und_arr {M : hM} {q : Nat} {x : ClassId × vp_A} (h : M q = some (.inl x)) : und M q = false := by unfold und; rw [h]
theorem und_none {M : hM} {q : Nat} (h : M q = none) : und M q = false := by unfold und; rw [h]
theorem und_same {M M9 : hM} {q : Nat} (h : M9 q = M q) : und M9 q = und M q := by unfold und; rw [h]
theorem lf_same {M M9 : hM} {q k : Nat} (h : M9 q = M q) : lf M9 q k = lf M q k := by unfold lf; rw [h]
theorem und_t {M : hM} {a : Nat} {c ky vl z o : Value} (h : M a = some (.inr (1, [c, ky, vl, z, o, .null]))) : und M a = true := by unfold und; rw [h]; rfl
theorem und_f {M : hM} {a b : Nat} {c ky vl z o : Value} (h : M a = some (.inr (1, [c, ky, vl, z, o, .ref b]))) : und M a = false := by unfold und; rw [h]; rfl
theorem lf_3 {M : hM} {a : Nat} {z : Option Nat} {c ky vl o d : Value} (h : M a = some (.inr (1, [c, ky, vl, va_rf z, o, d]))) : lf M a 3 = z := by
  unfold lf; rw [h]; cases z <;> rfl
theorem lf_4 {M : hM} {a : Nat} {o : Option Nat} {c ky vl z d : Value} (h : M a = some (.inr (1, [c, ky, vl, z, va_rf o, d]))) : lf M a 4 = o := by
  unfold lf; rw [h]; cases o <;> rfl
/-- the nodes of a tree: those with these entries, of no more bits -/
def under (N : gT) (n : Nat) (E : En) (q : Nat) : Prop := ∃ n' E', N q = some (n', E') ∧ (∀ x ∈ E', x ∈ E) ∧ (2 ≤ E'.length → n' ≤ n)
theorem under.up {N : gT} {n m : Nat} {E F : En} {q : Nat} (h : under N n E q) (hE : ∀ x ∈ E, x ∈ F) (hn : n ≤ m) : under N m F q := by
  obtain ⟨n', E', h1, h2, h3⟩ := h
  exact ⟨n', E', h1, fun x hx => hE x (h2 x hx), fun q => Nat.le_trans (h3 q) hn⟩
theorem udT_eq {g : hG} {M M9 : hM} {N Z : gT} (hW : WF g M N Z) : ∀ (n : Nat) (r : Option Nat) (E : En), rt N r n E → (∀ q, under N n E q → M9 q = M q) → udT n M9 r = udT n M r
  | n, none, _, _, _ => by rw [udT_none, udT_none]
  | 0, some a, E, ⟨n', h1, h2, h3⟩, hu => by
    have h := hu a ⟨n', E, h1, fun _ hx => hx, fun q => by rw [h3 q]; exact Nat.le_refl _⟩
    show (if und M9 a then 1 else 0) = (if und M a then 1 else 0)
    rw [und_same h]
  | n + 1, some a, E, ⟨n', h1, h2, h3⟩, hu => by
    have h := hu a ⟨n', E, h1, fun _ hx => hx, fun q => by rw [h3 q]; exact Nat.le_refl _⟩
    show (if und M9 a then 1 + udT n M9 (lf M9 a 3) + udT n M9 (lf M9 a 4) else 0) = (if und M a then 1 + udT n M (lf M a 3) + udT n M (lf M a 4) else 0)
    rw [und_same h, lf_same h, lf_same h]
    obtain ⟨ky, vl, z, o, dg, e1, -, -, hc⟩ := hW.1 a n' E h1
    rw [lf_3 e1, lf_4 e1]
    rcases hc with ⟨k, -, -, -, hz, ho⟩ | ⟨m, q1, q2, q3, q4, q5⟩
    · subst hz; subst ho
      rw [udT_none, udT_none]
    · have hm : m = n := by have := h3 q3; omega
      subst hm
      rw [udT_eq hW m z _ q4 (fun q hq => hu q (hq.up (fun x hx => (spl_mem.mp hx).1) (Nat.le_succ m))), udT_eq hW m o _ q5 (fun q hq => hu q (hq.up (fun x hx => (spl_mem.mp hx).1) (Nat.le_succ m)))]
/-- at most c nodes have no digest yet -/
def pt (M : hM) (c : Nat) : Prop := ∃ L : List Nat, (∀ q, und M q = true → q ∈ L) ∧ L.length ≤ c
theorem pt.same {M M9 : hM} {c : Nat} (h : pt M c) (hq : ∀ q, und M9 q = true → und M q = true) : pt M9 c := by
  obtain ⟨L, h1, h2⟩ := h
  exact ⟨L, fun q hx => h1 q (hq q hx), h2⟩
theorem flt_ne {a : Nat} : ∀ {L : List Nat}, a ∈ L → (L.filter (fun q => q != a)).length + 1 ≤ L.length
  | x :: t, h => by
    by_cases hx : x = a
    · rw [List.filter_cons, if_neg (by simp [hx])]
      have := List.length_filter_le (fun q => q != a) t
      simp only [List.length_cons]
      omega
    · have ht : a ∈ t := by
        rcases List.mem_cons.mp h with q | q
        · exact absurd q.symm hx
        · exact q
      have ih := flt_ne ht
      rw [List.filter_cons, if_pos (by simp [hx])]
      simp only [List.length_cons]
      omega
theorem pt.flip {M M9 : hM} {c a : Nat} (h : pt M c) (ha : und M a = true) (ha9 : und M9 a = false) (hq : ∀ q, q ≠ a → und M9 q = true → und M q = true) : ∃ c9, pt M9 c9 ∧ c9 + 1 = c := by
  obtain ⟨L, h1, h2⟩ := h
  have := flt_ne (h1 a ha)
  refine ⟨c - 1, ⟨L.filter (fun q => q != a), fun q hx => ?_, by omega⟩, by omega⟩
  have hne : q ≠ a := fun z => by rw [z, ha9] at hx; cases hx
  exact List.mem_filter.mpr ⟨h1 q (hq q hne hx), by simp [hne]⟩
theorem gr.pt {M M9 : hM} {N N9 : gT} {k c : Nat} (hg : gr M N M9 N9 k) (h : pt M c) : pt M9 (c + k) := by
  obtain ⟨L, h1, h2⟩ := h
  obtain ⟨-, -, a3, L1, a4, a5⟩ := hg
  refine ⟨L1 ++ L, fun q hx => ?_, by rw [List.length_append]; omega⟩
  cases hM : M q with
  | none =>
    refine List.mem_append_left _ (a5 q hM (fun z => ?_))
    rw [und_none z] at hx; cases hx
  | some e =>
    refine List.mem_append_right _ (h1 q ?_)
    rw [← und_same ((a3 q e hM).trans hM.symm)]
    exact hx
/-- a node's digest becomes known -/
theorem WF.dig {g : hG} {M M9 : hM} {N Z : gT} {a b n : Nat} {E : En} {f : Nat → Int32} (hW : WF g M N Z) (ha : N a = some (n, E)) (hZb : Z b = none) {cn ky vl : Value} {z o : Option Nat} (e0 : M a = some (.inr (1, [cn, ky, vl, va_rf z, va_rf o, .null]))) (e1 : M9 a = some (.inr (1, [cn, ky, vl, va_rf z, va_rf o, .ref b]))) (eb : M9 b = some (aI g 8 f)) (hf : ∀ j, j < 8 → f j = dgF n E j) (hN : ∀ q x, N q = some x → q ≠ a → M9 q = M q) (hZ : ∀ q x, Z q = some x → M9 q = M q) : WF g M9 N (nUp Z b (n, E)) := by
  have hZ9 : ∀ q x, Z q = some x → nUp Z b (n, E) q = some x := fun q x h => by rw [nUp_ne (fun y => by rw [y, hZb] at h; cases h)]; exact h
  refine ⟨fun q m F h => ?_, fun q m F h => ?_⟩
  · obtain ⟨ky1, vl1, z1, o1, dg1, q1, q2, q3, q4⟩ := hW.1 q m F h
    by_cases hq : q = a
    · subst hq
      rw [ha] at h
      cases h
      rw [e0] at q1
      have hl := (Prod.mk.inj (Sum.inr.inj (Option.some.inj q1))).2
      simp only [List.cons.injEq] at hl
      obtain ⟨r1, r2, r3, r4, r5, r6, -⟩ := hl
      refine ⟨ky1, vl1, z1, o1, some b, ?_, fun x hx => ?_, q3, q4⟩
      · rw [e1, r1, r2, r3, r4, r5]; rfl
      · cases hx; exact nUp_eq
    · exact ⟨ky1, vl1, z1, o1, dg1, (hN q _ h hq).trans q1, fun x hx => hZ9 _ _ (q2 x hx), q3, q4⟩
  · by_cases hq : q = b
    · subst hq
      rw [nUp_eq] at h
      cases h
      exact ⟨f, eb, hf⟩
    · rw [nUp_ne hq] at h
      obtain ⟨f1, q1, q2⟩ := hW.2 q m F h
      exact ⟨f1, (hZ q _ h).trans q1, q2⟩
/-- what digestOf does besides: digests come to be known, nothing else but the Hasher's rows changes -/
def dgR (M : hM) (N Z : gT) (M9 : hM) (Z9 : gT) (n : Nat) (E : En) (ms sc sa u : Nat) : Prop :=
  (∀ q x, Z q = some x → Z9 q = some x) ∧ (∀ q, Z9 q ≠ none → Z q = none → M q = none) ∧ (∀ q e, M q = some e → q ≠ ms → q ≠ sc → q ≠ sa → ¬ under N n E q → M9 q = some e) ∧ (∀ q, M q ≠ none → M9 q ≠ none) ∧ ∀ c, pt M c → ∃ c9, pt M9 c9 ∧ c9 + u = c
theorem dgR.rf {M : hM} {N Z : gT} {n : Nat} {E : En} {ms sc sa : Nat} : dgR M N Z M Z n E ms sc sa 0 := ⟨fun _ _ h => h, fun _ h1 h2 => absurd h2 h1, fun _ _ h _ _ _ _ => h, fun _ h => h, fun c h => ⟨c, h, rfl⟩⟩
theorem dgR.tr {M M1 M2 : hM} {N Z Z1 Z2 : gT} {n n1 n2 : Nat} {E E1 E2 : En} {ms sc sa u1 u2 : Nat} (h : dgR M N Z M1 Z1 n1 E1 ms sc sa u1) (h2 : dgR M1 N Z1 M2 Z2 n2 E2 ms sc sa u2) (hu1 : ∀ q, under N n1 E1 q → under N n E q) (hu2 : ∀ q, under N n2 E2 q → under N n E q) : dgR M N Z M2 Z2 n E ms sc sa (u1 + u2) := by
  obtain ⟨a1, a2, a3, a4, a5⟩ := h
  obtain ⟨b1, b2, b3, b4, b5⟩ := h2
  refine ⟨fun q x hx => b1 q x (a1 q x hx), fun q h1 h0 => ?_, fun q e he m1 m2 m3 hn => b3 q e (a3 q e he m1 m2 m3 (fun z => hn (hu1 q z))) m1 m2 m3 (fun z => hn (hu2 q z)), fun q hq => b4 q (a4 q hq), fun c hc => ?_⟩
  · cases h9 : Z1 q with
    | some x => exact a2 q (by rw [h9]; exact fun z => by cases z) h0
    | none =>
      have := b2 q h1 h9
      cases h7 : M q with
      | none => rfl
      | some e => exact absurd this (a4 q (by rw [h7]; exact fun z => by cases z))
  · obtain ⟨c1, p1, q1⟩ := a5 c hc
    obtain ⟨c2, p2, q2⟩ := b5 c1 p1
    exact ⟨c2, p2, by omega⟩
theorem nd_ne {g : hG} {M : hM} {N Z : gT} (hW : WF g M N Z) {x b : Nat} {y : Nat × En} {v : ClassId × vp_A} (h : N x = some y) (hb : M b = some (.inl v)) : x ≠ b := by
  obtain ⟨ky, vl, z, o, dg, q1, -⟩ := hW.1 x y.1 y.2 h
  exact ne_lk q1 hb (by simp)
theorem dig_fin {g : hG} {M M1 M3 M5 : hM} {N Z Z3 : gT} {q a n0 m u ms sc sa : Nat} {E : En} {f : Nat → Int32} {cn ky vl : Value} {z o : Option Nat} {v0 v1 v2 v3 w1 w2 w3 : ClassId × vp_A} (hW3 : WF g M3 N Z3) (hR : dgR M1 N Z M3 Z3 m E ms sc sa u) (hq : M q = none) (hM1 : ∀ x, x ≠ q → M1 x = M x) (hM1q : M1 q = some (.inl v0)) (hZq : Z q = none) (haN : N a = some (n0, E)) (hua : under N m E a) (e0 : M3 a = some (.inr (1, [cn, ky, vl, va_rf z, va_rf o, .null]))) (e1 : M5 a = some (.inr (1, [cn, ky, vl, va_rf z, va_rf o, .ref q]))) (eb : M5 q = some (aI g 8 f)) (hf : ∀ j, j < 8 → f j = dgF n0 E j) (h5 : ∀ x, x ≠ ms → x ≠ sc → x ≠ sa → x ≠ q → x ≠ a → M5 x = M3 x)
    (k1 : M3 ms = some (.inl v1)) (k2 : M3 sc = some (.inl v2)) (k3 : M3 sa = some (.inl v3)) (k4 : M5 ms = some (.inl w1)) (k5 : M5 sc = some (.inl w2)) (k6 : M5 sa = some (.inl w3)) (z1 : Z ms = none) (z2 : Z sc = none) (z3 : Z sa = none) (m1 : M1 ms ≠ none) (m2 : M1 sc ≠ none) (m3 : M1 sa ≠ none) (kq : M3 q = some (.inl v0)) : ∃ Z9, WF g M5 N Z9 ∧ Z9 q ≠ none ∧ dgR M N Z M5 Z9 m E ms sc sa (u + 1) := by
  obtain ⟨a1, a2, a3, a4, a5⟩ := hR
  have noZ : ∀ x, Z x = none → M1 x ≠ none → Z3 x = none := fun x h1 h2 => by
    cases h : Z3 x with
    | none => rfl
    | some y => exact absurd (a2 x (by rw [h]; exact fun z => by cases z) h1) h2
  have hZ3q : Z3 q = none := noZ q hZq (by rw [hM1q]; exact fun z => by cases z)
  have y1 := noZ ms z1 m1
  have y2 := noZ sc z2 m2
  have y3 := noZ sa z3 m3
  have hW5 : WF g M5 N (nUp Z3 q (n0, E)) := by
    refine WF.dig hW3 haN hZ3q e0 e1 eb hf (fun x y hx hxa => h5 x (nd_ne hW3 hx k1) (nd_ne hW3 hx k2) (nd_ne hW3 hx k3) (nd_ne hW3 hx kq) hxa) (fun x y hx => ?_)
    obtain ⟨f1, q1, -⟩ := hW3.2 x y.1 y.2 hx
    exact h5 x (fun t => by rw [t, y1] at hx; cases hx) (fun t => by rw [t, y2] at hx; cases hx) (fun t => by rw [t, y3] at hx; cases hx) (fun t => by rw [t, hZ3q] at hx; cases hx) (ne_lk q1 e0 (by simp))
  have hup : ∀ x e, M x = some e → M1 x = some e := fun x e h => by rw [hM1 x (fun t => by rw [t, hq] at h; cases h)]; exact h
  refine ⟨nUp Z3 q (n0, E), hW5, (by rw [nUp_eq]; exact (fun z => (by cases z))), fun x y hx => ?_, fun x h1 h2 => ?_, fun x e he n1 n2 n3 hn => ?_, fun x hx => ?_, fun c hc => ?_⟩
  · have := a1 x y hx
    rw [nUp_ne (fun t => by rw [t, hZ3q] at this; cases this)]
    exact this
  · by_cases hx : x = q
    · rw [hx]; exact hq
    · rw [nUp_ne hx] at h1
      have := a2 x h1 h2
      rw [hM1 x hx] at this
      exact this
  · have hxq : x ≠ q := fun t => by rw [t, hq] at he; cases he
    rw [h5 x n1 n2 n3 hxq (fun t => hn (by rw [t]; exact hua))]
    exact a3 x e (hup x e he) n1 n2 n3 hn
  · by_cases t1 : x = ms
    · rw [t1, k4]; exact fun z => by cases z
    · by_cases t2 : x = sc
      · rw [t2, k5]; exact fun z => by cases z
      · by_cases t3 : x = sa
        · rw [t3, k6]; exact fun z => by cases z
        · by_cases t4 : x = q
          · rw [t4, eb]; exact fun z => by cases z
          · by_cases t5 : x = a
            · rw [t5, e1]; exact fun z => by cases z
            · rw [h5 x t1 t2 t3 t4 t5]
              refine a4 x ?_
              rw [hM1 x t4]; exact hx
  · have hc1 : pt M1 c := hc.same (fun x hx => by
      by_cases t : x = q
      · rw [t, und_arr hM1q] at hx; cases hx
      · rw [← und_same (hM1 x t)]; exact hx)
    obtain ⟨c3, p3, e3⟩ := a5 c hc1
    obtain ⟨c5, p5, e5⟩ := p3.flip (M9 := M5) (und_t e0) (und_f e1) (fun x hxa hx => by
      by_cases t1 : x = ms
      · rw [t1, und_arr k4] at hx; cases hx
      · by_cases t2 : x = sc
        · rw [t2, und_arr k5] at hx; cases hx
        · by_cases t3 : x = sa
          · rw [t3, und_arr k6] at hx; cases hx
          · by_cases t4 : x = q
            · rw [t4, und_arr eb] at hx; cases hx
            · rw [← und_same (h5 x t1 t2 t3 t4 hxa)]; exact hx)
    exact ⟨c5, p5, by omega⟩
