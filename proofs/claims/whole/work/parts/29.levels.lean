/-! the reference's levels: the groups of entries with a common beginning, from 16 bits up to none -/
/-- the common beginning of a group: its keys without their last s bits -/
def pfx (s : Nat) (x : En) : Nat := match x with
  | [] => 0
  | z :: _ => z.1 / 2 ^ s
/-- the rows 11 (begins), 12 (counts), 13 (ones), 14 (nodes) hold the groups from place i on; the first entry stands at p -/
def LVL (S : Nat → Nat → Int32) (s : Nat) : Nat → Nat → List En → Prop
  | _, _, [] => True
  | i, p, x :: t => (S 11 i = nI (pfx s x) ∧ S 12 i = nI x.length ∧ S 13 i = nI p ∧ ∀ j, j < 8 → S 14 (8 * i + j) = dgF s x j) ∧ LVL S s (i + 1) (p + x.length) t
theorem LVL_app (S : Nat → Nat → Int32) (s : Nat) : ∀ (A B : List En) (i p : Nat), LVL S s i p (A ++ B) ↔ LVL S s i p A ∧ LVL S s (i + A.length) (p + A.flatten.length) B
  | [], B, i, p => by simp [LVL]
  | x :: t, B, i, p => by
    show (_ ∧ LVL S s (i + 1) (p + x.length) (t ++ B)) ↔ (_ ∧ LVL S s (i + 1) (p + x.length) t) ∧ _
    rw [LVL_app S s t B (i + 1) (p + x.length), List.length_cons, List.flatten_cons, List.length_append, show i + 1 + t.length = i + (t.length + 1) by omega, show p + x.length + t.flatten.length = p + (x.length + t.flatten.length) by omega]
    constructor
    · rintro ⟨a, b, c⟩; exact ⟨⟨a, b⟩, c⟩
    · rintro ⟨⟨a, b⟩, c⟩; exact ⟨a, b, c⟩
theorem LVL_fr {S S9 : Nat → Nat → Int32} {s : Nat} : ∀ (G : List En) (i p : Nat), (∀ q, i ≤ q → q < i + G.length → S9 11 q = S 11 q ∧ S9 12 q = S 12 q ∧ S9 13 q = S 13 q ∧ ∀ j, j < 8 → S9 14 (8 * q + j) = S 14 (8 * q + j)) → LVL S s i p G → LVL S9 s i p G
  | [], _, _, _, _ => trivial
  | x :: t, i, p, hf, h => by
    have h0 := hf i (Nat.le_refl _) (by rw [List.length_cons]; omega)
    refine ⟨⟨h0.1.trans h.1.1, h0.2.1.trans h.1.2.1, h0.2.2.1.trans h.1.2.2.1, fun j hj => (h0.2.2.2 j hj).trans (h.1.2.2.2 j hj)⟩, LVL_fr t (i + 1) _ (fun q h1 h2 => hf q (by omega) (by rw [List.length_cons]; omega)) h.2⟩
/-- the groups of E by their beginnings -/
def GRP (s : Nat) (E : En) (G : List En) : Prop := G.flatten = E ∧ (∀ x ∈ G, x ≠ [] ∧ ∀ z ∈ x, z.1 / 2 ^ s = pfx s x) ∧ G.Pairwise (fun a b => pfx s a < pfx s b)
theorem GRP_0 (E : En) (hs : srt E) : GRP 0 E (E.map (fun z => [z])) := by
  refine ⟨?_, fun x hx => ?_, ?_⟩
  · induction E with
    | nil => rfl
    | cons z t ih => rw [List.map_cons, List.flatten_cons, ih (List.pairwise_cons.mp hs).2]; rfl
  · obtain ⟨z, hz, rfl⟩ := List.mem_map.mp hx
    exact ⟨by simp, fun y hy => by rw [List.mem_singleton.mp hy]; rfl⟩
  · rw [List.pairwise_map]
    refine List.Pairwise.imp (fun {a b} h => ?_) hs
    show a.1 / 2 ^ 0 < b.1 / 2 ^ 0
    simpa using h
/-- two groups with one beginning become one -/
def mrg (s : Nat) : List En → List En
  | [] => []
  | [x] => [x]
  | x :: y :: t => if pfx s x / 2 = pfx s y / 2 then (x ++ y) :: mrg s t else x :: mrg s (y :: t)
theorem mrg_2 {s : Nat} {x y : En} {t : List En} (h : pfx s x / 2 = pfx s y / 2) : mrg s (x :: y :: t) = (x ++ y) :: mrg s t := by
  rw [mrg, if_pos h]
theorem mrg_1 {s : Nat} {x y : En} {t : List En} (h : ¬ pfx s x / 2 = pfx s y / 2) : mrg s (x :: y :: t) = x :: mrg s (y :: t) := by
  rw [mrg, if_neg h]
theorem pfx_up {s : Nat} {x : En} : pfx (s + 1) x = pfx s x / 2 := by
  cases x with
  | nil => show 0 = 0 / 2; rw [Nat.zero_div]
  | cons z t => show z.1 / 2 ^ (s + 1) = z.1 / 2 ^ s / 2; rw [Nat.div_div_eq_div_mul, Nat.pow_succ]
theorem pfx_app {s : Nat} {x y : En} (h : x ≠ []) : pfx s (x ++ y) = pfx s x := by
  cases x with
  | nil => exact absurd rfl h
  | cons z t => rfl
theorem bit_div (k s : Nat) : k.testBit s = decide (k / 2 ^ s % 2 = 1) := Nat.testBit_eq_decide_div_mod_eq
/-- a group lies in one half -/
theorem spl_grp {s : Nat} {x : En} (h : ∀ z ∈ x, z.1 / 2 ^ s = pfx s x) (b : Bool) : spl s b x = if decide (pfx s x % 2 = 1) = b then x else [] := by
  unfold spl
  by_cases hb : decide (pfx s x % 2 = 1) = b
  · rw [if_pos hb]
    exact List.filter_eq_self.mpr (fun z hz => by rw [bit_div, h z hz, hb]; exact beq_self_eq_true b)
  · rw [if_neg hb]
    exact List.filter_eq_nil_iff.mpr (fun z hz => by rw [bit_div, h z hz]; simpa using hb)
theorem spl_app (s : Nat) (b : Bool) (x y : En) : spl s b (x ++ y) = spl s b x ++ spl s b y := List.filter_append ..
theorem dgF_up1 {s : Nat} {x : En} (h1 : x.length = 1) : dgF (s + 1) x = dgF s x := by
  match x, h1 with
  | [(k, v)], _ => rw [dgF_one, dgF_one]
/-- the digest of a group that goes up alone, of two that go up together -/
theorem dgF_up {s : Nat} {x : En} (h : ∀ z ∈ x, z.1 / 2 ^ s = pfx s x) (h2 : 2 ≤ x.length) : dgF (s + 1) x = if pfx s x % 2 = 1 then hPair (fun _ => 0) (dgF s x) else hPair (dgF s x) (fun _ => 0) := by
  rw [dgF_two h2, spl_grp h, spl_grp h]
  by_cases hp : pfx s x % 2 = 1
  · rw [if_pos hp, decide_eq_true hp, if_neg (by decide), if_pos rfl, dgF_nil]
  · rw [if_neg hp, decide_eq_false hp, if_pos rfl, if_neg (by decide), dgF_nil]
theorem dgF_up2 {s : Nat} {x y : En} (hx : ∀ z ∈ x, z.1 / 2 ^ s = pfx s x) (hy : ∀ z ∈ y, z.1 / 2 ^ s = pfx s y) (nx : x ≠ []) (ny : y ≠ []) (hlt : pfx s x < pfx s y) (hp : pfx s x / 2 = pfx s y / 2) : dgF (s + 1) (x ++ y) = hPair (dgF s x) (dgF s y) := by
  have h1 : pfx s x % 2 = 0 := by omega
  have h2 : pfx s y % 2 = 1 := by omega
  have l1 := List.length_pos_iff.mpr nx
  have l2 := List.length_pos_iff.mpr ny
  rw [dgF_two (by rw [List.length_append]; omega), spl_app, spl_app, spl_grp hx, spl_grp hx, spl_grp hy, spl_grp hy, decide_eq_false (by omega), decide_eq_true h2]
  simp
theorem mrg_sub {s : Nat} : ∀ {G : List En} {w : En}, w ∈ mrg s G → ∃ x ∈ G, pfx (s + 1) w = pfx (s + 1) x ∨ (∃ y ∈ G, w = x ++ y ∧ pfx s x / 2 = pfx s y / 2)
  | [], _, h => by cases h
  | [x], w, h => by rw [mrg, List.mem_singleton] at h; subst h; exact ⟨w, List.mem_singleton.mpr rfl, Or.inl rfl⟩
  | x :: y :: t, w, h => by
    by_cases q : pfx s x / 2 = pfx s y / 2
    · rw [mrg_2 q] at h
      rcases List.mem_cons.mp h with r | r
      · exact ⟨x, List.mem_cons_self, Or.inr ⟨y, List.mem_cons_of_mem _ List.mem_cons_self, r, q⟩⟩
      · obtain ⟨a, ha, hb⟩ := mrg_sub r
        refine ⟨a, List.mem_cons_of_mem _ (List.mem_cons_of_mem _ ha), ?_⟩
        rcases hb with hb | ⟨b, hb, hc⟩
        · exact Or.inl hb
        · exact Or.inr ⟨b, List.mem_cons_of_mem _ (List.mem_cons_of_mem _ hb), hc⟩
    · rw [mrg_1 q] at h
      rcases List.mem_cons.mp h with r | r
      · subst r; exact ⟨w, List.mem_cons_self, Or.inl rfl⟩
      · obtain ⟨a, ha, hb⟩ := mrg_sub r
        refine ⟨a, List.mem_cons_of_mem _ ha, ?_⟩
        rcases hb with hb | ⟨b, hb, hc⟩
        · exact Or.inl hb
        · exact Or.inr ⟨b, List.mem_cons_of_mem _ hb, hc⟩
theorem mrg_flat {s : Nat} : ∀ (G : List En), (mrg s G).flatten = G.flatten
  | [] => rfl
  | [x] => rfl
  | x :: y :: t => by
    by_cases q : pfx s x / 2 = pfx s y / 2
    · rw [mrg_2 q, List.flatten_cons, mrg_flat t, List.flatten_cons, List.flatten_cons, List.append_assoc]
    · rw [mrg_1 q, List.flatten_cons, mrg_flat (y :: t)]; rfl
theorem mrg_grp {s : Nat} : ∀ (G : List En), (∀ x ∈ G, x ≠ [] ∧ ∀ z ∈ x, z.1 / 2 ^ s = pfx s x) → G.Pairwise (fun a b => pfx s a < pfx s b) → (∀ x ∈ mrg s G, x ≠ [] ∧ ∀ z ∈ x, z.1 / 2 ^ (s + 1) = pfx (s + 1) x) ∧ (mrg s G).Pairwise (fun a b => pfx (s + 1) a < pfx (s + 1) b) ∧ ∀ x ∈ mrg s G, ∃ y ∈ G, pfx (s + 1) x = pfx s y / 2
  | [], _, _ => ⟨fun x hx => (by cases hx), List.Pairwise.nil, fun x hx => (by cases hx)⟩
  | [x], h, _ => by
    have hx := h x List.mem_cons_self
    refine ⟨fun w hw => ?_, by rw [mrg]; exact List.pairwise_singleton _ _, fun w hw => ?_⟩
    · rw [mrg, List.mem_singleton] at hw
      subst hw
      exact ⟨hx.1, fun z hz => by rw [pfx_up, ← hx.2 z hz, Nat.div_div_eq_div_mul, Nat.pow_succ]⟩
    · rw [mrg, List.mem_singleton] at hw
      subst hw
      exact ⟨w, List.mem_cons_self, pfx_up⟩
  | x :: y :: t, h, hp => by
    have hx := h x List.mem_cons_self
    have hy := h y (List.mem_cons_of_mem _ List.mem_cons_self)
    obtain ⟨p1, p2⟩ := List.pairwise_cons.mp hp
    obtain ⟨p3, p4⟩ := List.pairwise_cons.mp p2
    have up : ∀ w : En, (∀ z ∈ w, z.1 / 2 ^ s = pfx s w) → ∀ z ∈ w, z.1 / 2 ^ (s + 1) = pfx s w / 2 := fun w hw z hz => by rw [← hw z hz, Nat.div_div_eq_div_mul, Nat.pow_succ]
    by_cases q : pfx s x / 2 = pfx s y / 2
    · obtain ⟨i1, i2, i3⟩ := mrg_grp t (fun w hw => h w (List.mem_cons_of_mem _ (List.mem_cons_of_mem _ hw))) p4
      rw [mrg_2 q]
      have hpa : pfx (s + 1) (x ++ y) = pfx s x / 2 := by rw [pfx_app hx.1, pfx_up]
      refine ⟨fun w hw => ?_, List.pairwise_cons.mpr ⟨fun w hw => ?_, i2⟩, fun w hw => ?_⟩
      · rcases List.mem_cons.mp hw with r | r
        · subst r
          refine ⟨by simp [hx.1], fun z hz => ?_⟩
          rw [hpa]
          rcases List.mem_append.mp hz with r | r
          · exact up x hx.2 z r
          · rw [q]; exact up y hy.2 z r
        · exact i1 w r
      · obtain ⟨v, hv, he⟩ := i3 w hw
        rw [hpa, he]
        have := p3 v hv
        have := p1 y List.mem_cons_self
        omega
      · rcases List.mem_cons.mp hw with r | r
        · subst r; exact ⟨x, List.mem_cons_self, hpa⟩
        · obtain ⟨v, hv, he⟩ := i3 w r
          exact ⟨v, List.mem_cons_of_mem _ (List.mem_cons_of_mem _ hv), he⟩
    · obtain ⟨i1, i2, i3⟩ := mrg_grp (y :: t) (fun w hw => h w (List.mem_cons_of_mem _ hw)) p2
      rw [mrg_1 q]
      refine ⟨fun w hw => ?_, List.pairwise_cons.mpr ⟨fun w hw => ?_, i2⟩, fun w hw => ?_⟩
      · rcases List.mem_cons.mp hw with r | r
        · subst r; exact ⟨hx.1, fun z hz => by rw [pfx_up]; exact up w hx.2 z hz⟩
        · exact i1 w r
      · obtain ⟨v, hv, he⟩ := i3 w hw
        rw [pfx_up, he]
        have hxy := p1 y List.mem_cons_self
        rcases List.mem_cons.mp hv with r | r
        · subst r; omega
        · have := p3 v r
          omega
      · rcases List.mem_cons.mp hw with r | r
        · subst r; exact ⟨w, List.mem_cons_self, pfx_up⟩
        · obtain ⟨v, hv, he⟩ := i3 w r
          exact ⟨v, List.mem_cons_of_mem _ hv, he⟩
theorem GRP_up {s : Nat} {E : En} {G : List En} (h : GRP s E G) : GRP (s + 1) E (mrg s G) := by
  obtain ⟨h1, h2, h3⟩ := h
  obtain ⟨a, b, -⟩ := mrg_grp G h2 h3
  exact ⟨by rw [mrg_flat, h1], a, b⟩
theorem mrg_len {s : Nat} : ∀ (G : List En), (mrg s G).length ≤ G.length
  | [] => Nat.le_refl _
  | [x] => Nat.le_refl _
  | x :: y :: t => by
    by_cases q : pfx s x / 2 = pfx s y / 2
    · rw [mrg_2 q, List.length_cons, List.length_cons, List.length_cons]
      have := mrg_len (s := s) t
      omega
    · rw [mrg_1 q, List.length_cons, List.length_cons (a := x)]
      have h1 := mrg_len (s := s) (y :: t)
      omega
