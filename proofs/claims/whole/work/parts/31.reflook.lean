theorem nx_xor (a b : Nat) : nI a ^^^ nI b = nI (a ^^^ b) := by
  apply Int32.toBitVec_inj.1
  show BitVec.ofNat 32 a ^^^ BitVec.ofNat 32 b = BitVec.ofNat 32 (a ^^^ b)
  apply BitVec.eq_of_getLsbD_eq
  intro i hi
  simp [hi]
/-- the entries with a beginning; the group with it -/
def selE (s p : Nat) (E : En) : En := E.filter (fun z => z.1 / 2 ^ s == p)
def grpP (s p : Nat) (P : List En) : En := match P with
  | [] => []
  | x :: t => if pfx s x = p then x else grpP s p t
theorem grpP_app {s p : Nat} {x : En} : ∀ {P : List En}, (∀ w ∈ P, pfx s w < pfx s x) → grpP s p (P ++ [x]) = if pfx s x = p then x else grpP s p P
  | [], _ => rfl
  | w :: t, h => by
    show (if pfx s w = p then w else grpP s p (t ++ [x])) = if pfx s x = p then x else (if pfx s w = p then w else grpP s p t)
    have hw := h w List.mem_cons_self
    rw [grpP_app (fun v hv => h v (List.mem_cons_of_mem _ hv))]
    by_cases q : pfx s w = p
    · rw [if_pos q, if_pos q, if_neg (by omega)]
    · rw [if_neg q, if_neg q]
theorem selE_app (s p : Nat) (A B : En) : selE s p (A ++ B) = selE s p A ++ selE s p B := List.filter_append ..
theorem selE_grp {s p : Nat} {x : En} (h : ∀ z ∈ x, z.1 / 2 ^ s = pfx s x) : selE s p x = if pfx s x = p then x else [] := by
  unfold selE
  by_cases q : pfx s x = p
  · rw [if_pos q]; exact List.filter_eq_self.mpr (fun z hz => by rw [h z hz, q]; exact beq_self_eq_true p)
  · rw [if_neg q]; exact List.filter_eq_nil_iff.mpr (fun z hz => by rw [h z hz]; simpa using q)
theorem grpP_sel {s p : Nat} : ∀ {G : List En}, (∀ x ∈ G, x ≠ [] ∧ ∀ z ∈ x, z.1 / 2 ^ s = pfx s x) → G.Pairwise (fun a b => pfx s a < pfx s b) → grpP s p G = selE s p G.flatten
  | [], _, _ => rfl
  | x :: t, h, hp => by
    obtain ⟨p1, p2⟩ := List.pairwise_cons.mp hp
    show (if pfx s x = p then x else grpP s p t) = _
    have ih := grpP_sel (p := p) (fun w hw => h w (List.mem_cons_of_mem _ hw)) p2
    rw [List.flatten_cons, selE_app, selE_grp (h x List.mem_cons_self).2, ← ih]
    by_cases q : pfx s x = p
    · rw [if_pos q, if_pos q]
      have hn : ∀ (L : List En), (∀ w ∈ L, pfx s x < pfx s w) → grpP s p L = [] := by
        intro L
        induction L with
        | nil => intro _; rfl
        | cons w r ih2 =>
          intro hL
          have := hL w List.mem_cons_self
          show (if pfx s w = p then w else grpP s p r) = []
          rw [if_neg (by omega), ih2 (fun v hv => hL v (List.mem_cons_of_mem _ hv))]
      rw [hn t p1, List.append_nil]
    · rw [if_neg q, if_neg q, List.nil_append]
theorem LVL_at {S : Nat → Nat → Int32} {s : Nat} : ∀ {G : List En} {i p n : Nat} {x : En}, LVL S s i p G → G[n]? = some x → S 11 (i + n) = nI (pfx s x) ∧ S 12 (i + n) = nI x.length ∧ S 13 (i + n) = nI (p + (G.take n).flatten.length) ∧ ∀ j, j < 8 → S 14 (8 * (i + n) + j) = dgF s x j
  | y :: t, i, p, 0, x, h, hx => by cases hx; exact h.1
  | y :: t, i, p, n + 1, x, h, hx => by
    have := LVL_at (n := n) (x := x) h.2 hx
    rw [List.take_succ_cons, List.flatten_cons, List.length_append, show i + (n + 1) = i + 1 + n by omega, show p + (y.length + (t.take n).flatten.length) = p + y.length + (t.take n).flatten.length by omega]
    exact this
theorem takeG {G : List En} {n : Nat} {x : En} (h : G[n]? = some x) : G.take (n + 1) = G.take n ++ [x] := by
  rw [List.take_add_one, h]; rfl
theorem head_at {G : List En} {n : Nat} {x : En} {z : Nat × Int32} {t : En} (h : G[n]? = some x) (hx : x = z :: t) : G.flatten[(G.take n).flatten.length]? = some z := by
  have e : G = G.take n ++ x :: G.drop (n + 1) := by
    obtain ⟨hn, hg⟩ := List.getElem?_eq_some_iff.mp h
    rw [← hg, List.getElem_cons_drop, List.take_append_drop]
  have e2 : G.flatten = (G.take n).flatten ++ (x ++ (G.drop (n + 1)).flatten) := by
    conv => lhs; rw [e]
    rw [List.flatten_append, List.flatten_cons]
  rw [e2, List.getElem?_append_right (Nat.le_refl _), Nat.sub_self, hx]
  rfl
theorem take_lt {G : List En} {s n : Nat} {x : En} (hp : G.Pairwise (fun a b => pfx s a < pfx s b)) (h : G[n]? = some x) : ∀ w ∈ G.take n, pfx s w < pfx s x := by
  intro w hw
  obtain ⟨j, hj, he⟩ := List.mem_iff_getElem.mp hw
  rw [List.length_take] at hj
  obtain ⟨hn, hg⟩ := List.getElem?_eq_some_iff.mp h
  rw [List.getElem_take] at he
  have := List.pairwise_iff_getElem.mp hp j n (by omega) hn (by omega)
  rw [he, hg] at this
  exact this
/-- what look finds of the groups P, at b -/
def LK (S : Nat → Nat → Int32) (s base b hr : Nat) (E : En) (P : List En) : Prop := S 16 b = nI (grpP s hr P).length ∧ (∀ z t, grpP s hr P = z :: t → ∃ ix, S 17 b = nI (base + ix) ∧ E[ix]? = some z ∧ ix < E.length) ∧ (0 < b → ∀ i, i < 8 → S 18 (8 * b + i) = dgF s (grpP s (hr ^^^ 1) P) i)
set_option maxHeartbeats 4000000 in
set_option maxRecDepth 100000 in
theorem c_X4_look (l : Launch) (g : hG) (M : hM) (y : Nat) (ad : Nat → Nat) (S : Nat → Nat → Int32) (V : Nat → Int32) (hRs : RS g M y ad S V) (b : Nat) (hb0 : b ≤ 16) (kn : Nat) (hkn : kn < 65536) (E : En) (hg : gE E) (G : List En) (base : Nat) (hgr : GRP (16 - b) E G) (hlv : LVL S (16 - b) 0 base G) (hgl : G.length ≤ 300) (hv15 : V 15 = nI G.length) : Cv l g yX4_look cX4_look 6 1 0 0 [.ref y, .int (nI b), .int (nI kn)] M (fun M9 => ∃ S9, RS g M9 y ad S9 V ∧ (∀ q, ¬ rO y ad q → M9 q = M q) ∧ (∀ k9, (k9 < 16 ∨ 18 < k9) → S9 k9 = S k9) ∧ (∀ q, q ≠ b → S9 16 q = S 16 q ∧ S9 17 q = S 17 q) ∧ (∀ q, (q < 8 * b ∨ 8 * b + 8 ≤ q) → S9 18 q = S 18 q) ∧ LK S9 (16 - b) base b (kn / 2 ^ (16 - b)) E G) := by
  obtain ⟨s0, hs0⟩ : ∃ s0, s0 = 16 - b := ⟨_, rfl⟩
  rw [← hs0] at hlv hgr ⊢
  obtain ⟨hr, hhr⟩ : ∃ hr, hr = kn / 2 ^ s0 := ⟨_, rfl⟩
  rw [← hhr]
  have hrk : hr ≤ kn := by rw [hhr]; exact Nat.div_le_self _ _
  have hrx : hr ^^^ 1 < 2 ^ 17 := Nat.xor_lt_two_pow (by omega) (by decide)
  obtain ⟨hg1, hg2, hg3⟩ := id hgr
  have hpb : ∀ n x, G[n]? = some x → pfx s0 x < 65536 := fun n x hx => by
    cases x with
    | nil => show 0 < 65536; decide
    | cons z t =>
      have hz : z ∈ E := by rw [← hg1]; exact List.mem_flatten.mpr ⟨z :: t, List.mem_of_getElem? hx, List.mem_cons_self⟩
      have := hg.2.2 z hz
      exact Nat.lt_of_le_of_lt (Nat.div_le_self _ _) this
  have hel : G.flatten.length ≤ 300 := by rw [hg1]; exact hg.2.1
  refine hp_startV (by decide) (by exact Nat.le_of_ble_eq_true rfl) ?_
  intro p e s m below meth c Q H locs ls EE hnm ret hm hS hl
  have hx := EE.1
  have hb := EE.2.1
  have hown := EE.2.2.2.1
  have hts := EE.2.2.2.2.1
  have hl : lv_has ls 6 [(0, .ref y), (1, .int (nI b)), (2, .int (nI kn))] := hl
  have hF : ∀ q, ¬ rO y ad q → M q = M q := fun _ _ => rfl
  refine lv_iload_n hx hb dX4_look_0 rfl (lv_at hl 2 rfl) ?_
  refine lv_bipush (v := 16) hx hb dX4_look_1 (by decide) ?_
  refine lv_iload_n hx hb dX4_look_3 rfl (lv_at hl 1 rfl) ?_
  refine lv_isub hx hb dX4_look_4 ?_
  refine lv_ishr hx hb dX4_look_5 ?_
  rw [show (16 : Int32) - nI b = nI s0 from by rw [hs0]; exact sub_n (a := 16) rfl rfl hb0, sshr_n (by omega) (by omega), ← hhr]
  refine lv_istore_n (lv' := [(3, .int (nI hr)), (0, .ref y), (1, .int (nI b)), (2, .int (nI kn))]) hx hb dX4_look_6 rfl hl (by decide) rfl (fun ls hl => ?_)
  refine lv_aload_n hx hb dX4_look_7 rfl (lv_at hl 1 rfl) ?_
  refine hr_get EE hm hRs 16 (by decide) wf_X4_121 (v := .ref (ad 16)) rfl dX4_look_8 ?_
  refine lv_iload_n hx hb dX4_look_11 rfl (lv_at hl 2 rfl) ?_
  refine lv_iconst (v := 0) hx hb dX4_look_12 (by decide) ?_
  refine hr_ast EE hm hS hRs hF 16 b (by decide) rfl (by show b < 17; omega) (by decide) dX4_look_13 (fun H locs Mx1 hm hS hRs hF => ?_)
  obtain ⟨Sx2, hSx2⟩ : ∃ zz9, zz9 = sU S 16 b 0 := ⟨_, rfl⟩
  rw [← hSx2] at hRs
  refine lv_iconst (v := 0) hx hb dX4_look_14 (by decide) ?_
  refine lv_istore (lv' := [(4, .int 0), (3, .int (nI hr)), (0, .ref y), (1, .int (nI b)), (2, .int (nI kn))]) hx hb dX4_look_15 hl (by decide) rfl (fun ls hl => ?_)
  have lp : ∀ (n u : Nat) (M1 : hM) (S1 : Nat → Nat → Int32)   (H : Heap) (locs : List Loc) (ls : Array Slot), 9 ≤ u + n → u ≤ 8 → (∀ k9, k9 ≠ 18 → S1 k9 = Sx2 k9) → (∀ q, (q < 8 * b ∨ 8 * b + 8 ≤ q) → S1 18 q = Sx2 18 q) → (∀ j, j < u → S1 18 (8 * b + j) = 0) → RS g M1 y ad S1 V → (∀ q, ¬ rO y ad q → M1 q = M q) → hp g M1 H → va_S (hA g) s.heap H locs → lv_has ls 6 [(4, .int (nI u)), (3, .int (nI hr)), (0, .ref y), (1, .int (nI b)), (2, .int (nI kn))] → W p l e (hR 1 0 0) s m [.ref y, .int (nI b), .int (nI kn)].toArray below meth c H locs 0 0 Q (F0 m 17 ls []) := by
    intro n
    induction n with
    | zero => intro u M1 S1 H locs ls hn hu hoth hlow hz0; exact absurd hn (by omega)
    | succ n ih =>
      intro u M1 S1 H locs ls hn hu hoth hlow hz0 hRs hF hm hS hl
      refine lv_iload hx hb dX4_look_17 (lv_at hl 0 rfl) ?_
      refine lv_bipush (v := 8) hx hb dX4_look_19 (by decide) ?_
      refine lv_icmp_ge (tgt := 43) hx hb dX4_look_21 (by decide) (fun c_21 => ?_) (fun c_21 => ?_)
      · have c_21 : 8 ≤ u := (leN (a := 8) (b := u) rfl rfl (by decide) (by omega)).mp c_21
        refine lv_iconst (v := 0) hx hb dX4_look_43 (by decide) ?_
        refine lv_istore (lv' := [(4, .int 0), (3, .int (nI hr)), (0, .ref y), (1, .int (nI b)), (2, .int (nI kn))]) hx hb dX4_look_44 hl (by decide) rfl (fun ls hl => ?_)
        have lp3 : ∀ (n n3 : Nat) (M3 : hM) (S3 : Nat → Nat → Int32)   (H : Heap) (locs : List Loc) (ls : Array Slot), G.length + 1 ≤ n3 + n → n3 ≤ G.length → (∀ k9, (k9 < 16 ∨ 18 < k9) → S3 k9 = S k9) → (∀ q, q ≠ b → S3 16 q = S 16 q ∧ S3 17 q = S 17 q) → (∀ q, (q < 8 * b ∨ 8 * b + 8 ≤ q) → S3 18 q = S 18 q) → LK S3 s0 base b hr E (G.take n3) → RS g M3 y ad S3 V → (∀ q, ¬ rO y ad q → M3 q = M q) → hp g M3 H → va_S (hA g) s.heap H locs → lv_has ls 6 [(4, .int (nI n3)), (3, .int (nI hr)), (0, .ref y), (1, .int (nI b)), (2, .int (nI kn))] → W p l e (hR 1 0 0) s m [.ref y, .int (nI b), .int (nI kn)].toArray below meth c H locs 0 0 Q (F0 m 46 ls []) := by
          intro n
          induction n with
          | zero => intro n3 M3 S3 H locs ls hn3 hl3 ho3 hx3 hy3 hlk; exact absurd hn3 (by omega)
          | succ n ih3 =>
            intro n3 M3 S3 H locs ls hn3 hl3 ho3 hx3 hy3 hlk hRs hF hm hS hl
            refine lv_iload hx hb dX4_look_46 (lv_at hl 0 rfl) ?_
            refine lv_aload_n hx hb dX4_look_48 rfl (lv_at hl 2 rfl) ?_
            refine hr_get EE hm hRs 15 (by decide) wf_X4_149 (v := .int (V 15)) rfl dX4_look_49 ?_
            refine lv_icmp_ge (tgt := 156) hx hb dX4_look_52 (by decide) (fun c_52 => ?_) (fun c_52 => ?_)
            · have c_52 : G.length ≤ n3 := (leN (a := G.length) (b := n3) hv15 rfl (by omega) (by omega)).mp c_52
              exact ret dX4_look_156 hm hS (Nat.le_of_ble_eq_true rfl) (Nat.le_of_ble_eq_true rfl) (⟨S3, hRs, hF, ho3, hx3, hy3, by rw [show n3 = G.length by omega, List.take_length] at hlk; exact hlk⟩)
            · have c_52 : ¬ G.length ≤ n3 := fun h9 => c_52 ((leN (a := G.length) (b := n3) hv15 rfl (by omega) (by omega)).mpr h9)
              obtain ⟨x, hx0⟩ : ∃ x, G[n3]? = some x := ⟨_, List.getElem?_eq_getElem (by omega)⟩
              have hat := LVL_at hlv hx0
              rw [Nat.zero_add] at hat
              have hpx := hpb n3 x hx0
              have htl := take_lt hg3 hx0
              refine lv_aload_n hx hb dX4_look_55 rfl (lv_at hl 2 rfl) ?_
              refine hr_get EE hm hRs 11 (by decide) wf_X4_109 (v := .ref (ad 11)) rfl dX4_look_56 ?_
              refine lv_iload hx hb dX4_look_59 (lv_at hl 0 rfl) ?_
              refine hr_ald EE hm hRs 11 n3 (by decide) rfl (by show n3 < 300; omega) (by decide) dX4_look_61 ?_
              refine lv_iload_n hx hb dX4_look_62 rfl (lv_at hl 1 rfl) ?_
              refine lv_icmp_ne (tgt := 92) hx hb dX4_look_63 (by decide) (fun c_63 => ?_) (fun c_63 => ?_)
              · have c_63 : ¬ (pfx s0 x) = hr := fun h9 => c_63 ((eqN (a := pfx s0 x) (b := hr) (by rw [ho3 11 (by decide)]; exact hat.1) rfl (by omega) (by omega)).mpr h9)
                have hEq : pfx s0 x ≠ hr := c_63
                have hgp : grpP s0 hr (G.take (n3 + 1)) = grpP s0 hr (G.take n3) := by rw [takeG hx0, grpP_app htl, if_neg hEq]
                have q16 : S3 16 b = nI (grpP s0 hr (G.take (n3 + 1))).length := by rw [hgp]; exact hlk.1
                have q17 : ∀ z t, grpP s0 hr (G.take (n3 + 1)) = z :: t → ∃ ix, S3 17 b = nI (base + ix) ∧ E[ix]? = some z ∧ ix < E.length := by rw [hgp]; exact hlk.2.1
                have qo := ho3
                have qx := hx3
                obtain ⟨S4, hS4⟩ : ∃ zz9, zz9 = S3 := ⟨_, rfl⟩
                rw [← hS4] at hRs q16 q17 qo qx
                have q18 : S4 18 = S3 18 := by rw [hS4]
                obtain ⟨M4, hM4⟩ : ∃ zz9, zz9 = M3 := ⟨_, rfl⟩
                rw [← hM4] at hRs hF hm
                refine lv_iconst (v := 0) hx hb dX4_look_92 (by decide) ?_
                refine lv_istore (lv' := [(5, .int 0), (4, .int (nI n3)), (3, .int (nI hr)), (0, .ref y), (1, .int (nI b)), (2, .int (nI kn))]) hx hb dX4_look_93 hl (by decide) rfl (fun ls hl => ?_)
                have lp5 : ∀ (n u5 : Nat) (M5 : hM) (S5 : Nat → Nat → Int32)   (H : Heap) (locs : List Loc) (ls : Array Slot), 9 ≤ u5 + n → u5 ≤ 8 → (∀ k9, k9 ≠ 18 → S5 k9 = S4 k9) → (∀ q, (q < 8 * b ∨ 8 * b + u5 ≤ q) → S5 18 q = S4 18 q) → (0 < u5 → 0 < b ∧ pfx s0 x = hr ^^^ 1) → (∀ j, j < u5 → S5 18 (8 * b + j) = dgF s0 x j) → RS g M5 y ad S5 V → (∀ q, ¬ rO y ad q → M5 q = M q) → hp g M5 H → va_S (hA g) s.heap H locs → lv_has ls 6 [(5, .int (nI u5)), (4, .int (nI n3)), (3, .int (nI hr)), (0, .ref y), (1, .int (nI b)), (2, .int (nI kn))] → W p l e (hR 1 0 0) s m [.ref y, .int (nI b), .int (nI kn)].toArray below meth c H locs 0 0 Q (F0 m 95 ls []) := by
                  intro n
                  induction n with
                  | zero => intro u5 M5 S5 H locs ls hn5 hu5 ho5 hy5 hc5 hd5; exact absurd hn5 (by omega)
                  | succ n ih5 =>
                    intro u5 M5 S5 H locs ls hn5 hu5 ho5 hy5 hc5 hd5 hRs hF hm hS hl
                    refine lv_iload hx hb dX4_look_95 (lv_at hl 0 rfl) ?_
                    refine lv_bipush (v := 8) hx hb dX4_look_97 (by decide) ?_
                    refine lv_icmp_ge (tgt := 150) hx hb dX4_look_99 (by decide) (fun c_99 => ?_) (fun c_99 => ?_)
                    · have c_99 : 8 ≤ u5 := (leN (a := 8) (b := u5) rfl rfl (by decide) (by omega)).mp c_99
                      have hex : 0 < b ∧ pfx s0 x = hr ^^^ 1 := hc5 (by omega)
                      have h18 : ∀ i, i < 8 → S5 18 (8 * b + i) = dgF s0 (grpP s0 (hr ^^^ 1) (G.take (n3 + 1))) i := fun i hi => by rw [takeG hx0, grpP_app htl, if_pos hex.2]; exact hd5 i (by omega)
                      refine lv_iinc (v := nI (n3 + 1)) (lv' := [(4, .int (nI (n3 + 1))), (5, .int (nI u5)), (3, .int (nI hr)), (0, .ref y), (1, .int (nI b)), (2, .int (nI kn))]) hx hb dX4_look_150 hl (k := 1) rfl (inc_n rfl) (by decide) rfl (fun ls hl => ?_)
                      refine lv_goto (tgt := 46) hx hb dX4_look_153 (by decide) ?_
                      exact ih3 (n3 + 1) M5 S5 H locs ls (by omega) (by omega) (fun k9 h9 => by rw [ho5 k9 (by omega)]; exact qo k9 h9) (fun q hq => by rw [ho5 16 (by decide), ho5 17 (by decide)]; exact qx q hq) (fun q hq => by rw [hy5 q (by omega), q18]; exact hy3 q hq) ⟨by rw [ho5 16 (by decide)]; exact q16, (by rw [ho5 17 (by decide)]; exact q17), by first | exact h18 | exact fun _ => h18⟩ hRs hF hm hS (lv_sub hl [0, 2, 3, 4, 5] rfl)
                    · have c_99 : ¬ 8 ≤ u5 := fun h9 => c_99 ((leN (a := 8) (b := u5) rfl rfl (by decide) (by omega)).mpr h9)
                      refine lv_iload_n hx hb dX4_look_102 rfl (lv_at hl 4 rfl) ?_
                      refine lv_if_le (tgt := 150) hx hb dX4_look_103 (by decide) (fun c_103 => ?_) (fun c_103 => ?_)
                      · have c_103 : b ≤ 0 := (leN (a := b) (b := 0) rfl rfl (by omega) (by decide)).mp c_103
                        have h18 : 0 < b → ∀ i, i < 8 → S5 18 (8 * b + i) = dgF s0 (grpP s0 (hr ^^^ 1) (G.take (n3 + 1))) i := fun hb9 => absurd hb9 (by omega)
                        refine lv_iinc (v := nI (n3 + 1)) (lv' := [(4, .int (nI (n3 + 1))), (5, .int (nI u5)), (3, .int (nI hr)), (0, .ref y), (1, .int (nI b)), (2, .int (nI kn))]) hx hb dX4_look_150 hl (k := 1) rfl (inc_n rfl) (by decide) rfl (fun ls hl => ?_)
                        refine lv_goto (tgt := 46) hx hb dX4_look_153 (by decide) ?_
                        exact ih3 (n3 + 1) M5 S5 H locs ls (by omega) (by omega) (fun k9 h9 => by rw [ho5 k9 (by omega)]; exact qo k9 h9) (fun q hq => by rw [ho5 16 (by decide), ho5 17 (by decide)]; exact qx q hq) (fun q hq => by rw [hy5 q (by omega), q18]; exact hy3 q hq) ⟨by rw [ho5 16 (by decide)]; exact q16, (by rw [ho5 17 (by decide)]; exact q17), by first | exact h18 | exact fun _ => h18⟩ hRs hF hm hS (lv_sub hl [0, 2, 3, 4, 5] rfl)
                      · have c_103 : ¬ b ≤ 0 := fun h9 => c_103 ((leN (a := b) (b := 0) rfl rfl (by omega) (by decide)).mpr h9)
                        refine lv_aload_n hx hb dX4_look_106 rfl (lv_at hl 3 rfl) ?_
                        refine hr_get EE hm hRs 11 (by decide) wf_X4_109 (v := .ref (ad 11)) rfl dX4_look_107 ?_
                        refine lv_iload hx hb dX4_look_110 (lv_at hl 1 rfl) ?_
                        refine hr_ald EE hm hRs 11 n3 (by decide) rfl (by show n3 < 300; omega) (by decide) dX4_look_112 ?_
                        refine lv_iload_n hx hb dX4_look_113 rfl (lv_at hl 2 rfl) ?_
                        refine lv_iconst (v := 1) hx hb dX4_look_114 (by decide) ?_
                        refine lv_ixor hx hb dX4_look_115 ?_
                        refine lv_icmp_ne (tgt := 150) hx hb dX4_look_116 (by decide) (fun c_116 => ?_) (fun c_116 => ?_)
                        · have c_116 : ¬ (pfx s0 x) = (hr ^^^ 1) := fun h9 => c_116 ((eqN (a := pfx s0 x) (b := hr ^^^ 1) (by rw [ho5 11 (by decide), qo 11 (by decide)]; exact hat.1) (nx_xor hr 1) (by omega) (by omega)).mpr h9)
                          have h18 : 0 < b → ∀ i, i < 8 → S5 18 (8 * b + i) = dgF s0 (grpP s0 (hr ^^^ 1) (G.take (n3 + 1))) i := fun hb9 i hi => by
                            have hu0 : u5 = 0 := by
                              rcases Nat.eq_zero_or_pos u5 with q | q
                              · exact q
                              · exact absurd (hc5 q) (by exact fun h => c_116 h.2)
                            rw [takeG hx0, grpP_app htl, if_neg c_116, hy5 _ (by omega), q18]
                            exact hlk.2.2 hb9 i hi
                          refine lv_iinc (v := nI (n3 + 1)) (lv' := [(4, .int (nI (n3 + 1))), (5, .int (nI u5)), (3, .int (nI hr)), (0, .ref y), (1, .int (nI b)), (2, .int (nI kn))]) hx hb dX4_look_150 hl (k := 1) rfl (inc_n rfl) (by decide) rfl (fun ls hl => ?_)
                          refine lv_goto (tgt := 46) hx hb dX4_look_153 (by decide) ?_
                          exact ih3 (n3 + 1) M5 S5 H locs ls (by omega) (by omega) (fun k9 h9 => by rw [ho5 k9 (by omega)]; exact qo k9 h9) (fun q hq => by rw [ho5 16 (by decide), ho5 17 (by decide)]; exact qx q hq) (fun q hq => by rw [hy5 q (by omega), q18]; exact hy3 q hq) ⟨by rw [ho5 16 (by decide)]; exact q16, (by rw [ho5 17 (by decide)]; exact q17), by first | exact h18 | exact fun _ => h18⟩ hRs hF hm hS (lv_sub hl [0, 2, 3, 4, 5] rfl)
                        · have c_116 : (pfx s0 x) = (hr ^^^ 1) := (eqN (a := pfx s0 x) (b := hr ^^^ 1) (by rw [ho5 11 (by decide), qo 11 (by decide)]; exact hat.1) (nx_xor hr 1) (by omega) (by omega)).mp c_116
                          refine lv_aload_n hx hb dX4_look_119 rfl (lv_at hl 3 rfl) ?_
                          refine hr_get EE hm hRs 18 (by decide) wf_X4_127 (v := .ref (ad 18)) rfl dX4_look_120 ?_
                          refine lv_bipush (v := 8) hx hb dX4_look_123 (by decide) ?_
                          refine lv_iload_n hx hb dX4_look_125 rfl (lv_at hl 4 rfl) ?_
                          refine lv_imul hx hb dX4_look_126 ?_
                          refine lv_iload hx hb dX4_look_127 (lv_at hl 0 rfl) ?_
                          refine lv_iadd hx hb dX4_look_129 ?_
                          refine lv_aload_n hx hb dX4_look_130 rfl (lv_at hl 3 rfl) ?_
                          refine hr_get EE hm hRs 14 (by decide) wf_X4_118 (v := .ref (ad 14)) rfl dX4_look_131 ?_
                          refine lv_bipush (v := 8) hx hb dX4_look_134 (by decide) ?_
                          refine lv_iload hx hb dX4_look_136 (lv_at hl 1 rfl) ?_
                          refine lv_imul hx hb dX4_look_138 ?_
                          refine lv_iload hx hb dX4_look_139 (lv_at hl 0 rfl) ?_
                          refine lv_iadd hx hb dX4_look_141 ?_
                          refine hr_ald EE hm hRs 14 ((8 * n3) + u5) (by decide) (add_n (mul_n rfl rfl) rfl) (by show (8 * n3) + u5 < 2400; omega) (by decide) dX4_look_142 ?_
                          refine hr_ast EE hm hS hRs hF 18 ((8 * b) + u5) (by decide) (add_n (mul_n rfl rfl) rfl) (by show (8 * b) + u5 < 136; omega) (by decide) dX4_look_143 (fun H locs Mx3 hm hS hRs hF => ?_)
                          obtain ⟨Sx4, hSx4⟩ : ∃ zz9, zz9 = sU S5 18 ((8 * b) + u5) (S5 14 ((8 * n3) + u5)) := ⟨_, rfl⟩
                          rw [← hSx4] at hRs
                          refine lv_iinc (v := nI (u5 + 1)) (lv' := [(5, .int (nI (u5 + 1))), (4, .int (nI n3)), (3, .int (nI hr)), (0, .ref y), (1, .int (nI b)), (2, .int (nI kn))]) hx hb dX4_look_144 hl (k := 0) rfl (inc_n rfl) (by decide) rfl (fun ls hl => ?_)
                          refine lv_goto (tgt := 95) hx hb dX4_look_147 (by decide) ?_
                          refine ih5 (u5 + 1) Mx3 Sx4 H locs ls (by omega) (by omega) (fun k9 hk9 => by rw [hSx4, sU_o hk9]; exact ho5 k9 hk9) (fun q hq => by rw [hSx4, sU_n (by omega)]; exact hy5 q (by omega)) (fun _ => ⟨by omega, c_116⟩) (fun j hj => ?_) hRs hF hm hS (lv_sub hl [0, 1, 2, 3, 4, 5] rfl)
                          by_cases t : j = u5
                          · subst t; rw [hSx4, sU_i, ho5 14 (by decide), qo 14 (by decide)]; exact hat.2.2.2 j (by omega)
                          · rw [hSx4, sU_n (by omega)]; exact hd5 j (by omega)
                exact lp5 9 0 M4 S4 H locs ls (by omega) (by omega) (fun _ _ => rfl) (fun _ _ => rfl) (fun h => absurd h (Nat.lt_irrefl 0)) (fun j h => absurd h (Nat.not_lt_zero j)) hRs hF hm hS (lv_sub hl [0, 1, 2, 3, 4, 5] rfl)
              · have c_63 : (pfx s0 x) = hr := (eqN (a := pfx s0 x) (b := hr) (by rw [ho3 11 (by decide)]; exact hat.1) rfl (by omega) (by omega)).mp c_63
                have hEq : pfx s0 x = hr := c_63
                refine lv_aload_n hx hb dX4_look_66 rfl (lv_at hl 2 rfl) ?_
                refine hr_get EE hm hRs 16 (by decide) wf_X4_121 (v := .ref (ad 16)) rfl dX4_look_67 ?_
                refine lv_iload_n hx hb dX4_look_70 rfl (lv_at hl 3 rfl) ?_
                refine lv_aload_n hx hb dX4_look_71 rfl (lv_at hl 2 rfl) ?_
                refine hr_get EE hm hRs 12 (by decide) wf_X4_112 (v := .ref (ad 12)) rfl dX4_look_72 ?_
                refine lv_iload hx hb dX4_look_75 (lv_at hl 0 rfl) ?_
                refine hr_ald EE hm hRs 12 n3 (by decide) rfl (by show n3 < 300; omega) (by decide) dX4_look_77 ?_
                refine hr_ast EE hm hS hRs hF 16 b (by decide) rfl (by show b < 17; omega) (by decide) dX4_look_78 (fun H locs Mx5 hm hS hRs hF => ?_)
                obtain ⟨Sx6, hSx6⟩ : ∃ zz9, zz9 = sU S3 16 b (S3 12 n3) := ⟨_, rfl⟩
                rw [← hSx6] at hRs
                refine lv_aload_n hx hb dX4_look_79 rfl (lv_at hl 2 rfl) ?_
                refine hr_get EE hm hRs 17 (by decide) wf_X4_124 (v := .ref (ad 17)) rfl dX4_look_80 ?_
                refine lv_iload_n hx hb dX4_look_83 rfl (lv_at hl 3 rfl) ?_
                refine lv_aload_n hx hb dX4_look_84 rfl (lv_at hl 2 rfl) ?_
                refine hr_get EE hm hRs 13 (by decide) wf_X4_115 (v := .ref (ad 13)) rfl dX4_look_85 ?_
                refine lv_iload hx hb dX4_look_88 (lv_at hl 0 rfl) ?_
                refine hr_ald EE hm hRs 13 n3 (by decide) rfl (by show n3 < 300; omega) (by decide) dX4_look_90 ?_
                refine hr_ast EE hm hS hRs hF 17 b (by decide) rfl (by show b < 17; omega) (by decide) dX4_look_91 (fun H locs Mx7 hm hS hRs hF => ?_)
                obtain ⟨Sx8, hSx8⟩ : ∃ zz9, zz9 = sU Sx6 17 b (Sx6 13 n3) := ⟨_, rfl⟩
                rw [← hSx8] at hRs
                have hgp : grpP s0 hr (G.take (n3 + 1)) = x := by rw [takeG hx0, grpP_app htl, if_pos hEq]
                have q16 : Sx8 16 b = nI (grpP s0 hr (G.take (n3 + 1))).length := by rw [hgp, hSx8, sU_o (by decide), hSx6, sU_i, ho3 12 (by decide)]; exact hat.2.1
                have q17 : ∀ z t, grpP s0 hr (G.take (n3 + 1)) = z :: t → ∃ ix, Sx8 17 b = nI (base + ix) ∧ E[ix]? = some z ∧ ix < E.length := fun z t hzt => by
                  rw [hgp] at hzt
                  have hh := head_at hx0 hzt
                  rw [hg1] at hh
                  exact ⟨_, by rw [hSx8, sU_i, hSx6, sU_o (by decide), ho3 13 (by decide)]; exact hat.2.2.1, hh, (List.getElem?_eq_some_iff.mp hh).1⟩
                have qo : ∀ k9, (k9 < 16 ∨ 18 < k9) → Sx8 k9 = S k9 := fun k9 h9 => by rw [hSx8, sU_o (by omega), hSx6, sU_o (by omega)]; exact ho3 k9 h9
                have qx : ∀ q, q ≠ b → Sx8 16 q = S 16 q ∧ Sx8 17 q = S 17 q := fun q hq => by rw [hSx8, sU_o (by decide), sU_n hq, hSx6, sU_n hq, sU_o (by decide)]; exact hx3 q hq
                have q18 : Sx8 18 = S3 18 := by rw [hSx8, sU_o (by decide), hSx6, sU_o (by decide)]
                obtain ⟨S4, hS4⟩ : ∃ zz9, zz9 = Sx8 := ⟨_, rfl⟩
                rw [← hS4] at hRs q16 q17 qo qx q18
                obtain ⟨M4, hM4⟩ : ∃ zz9, zz9 = Mx7 := ⟨_, rfl⟩
                rw [← hM4] at hRs hF hm
                refine lv_iconst (v := 0) hx hb dX4_look_92 (by decide) ?_
                refine lv_istore (lv' := [(5, .int 0), (4, .int (nI n3)), (3, .int (nI hr)), (0, .ref y), (1, .int (nI b)), (2, .int (nI kn))]) hx hb dX4_look_93 hl (by decide) rfl (fun ls hl => ?_)
                have lp5 : ∀ (n u5 : Nat) (M5 : hM) (S5 : Nat → Nat → Int32)   (H : Heap) (locs : List Loc) (ls : Array Slot), 9 ≤ u5 + n → u5 ≤ 8 → (∀ k9, k9 ≠ 18 → S5 k9 = S4 k9) → (∀ q, (q < 8 * b ∨ 8 * b + u5 ≤ q) → S5 18 q = S4 18 q) → (0 < u5 → 0 < b ∧ pfx s0 x = hr ^^^ 1) → (∀ j, j < u5 → S5 18 (8 * b + j) = dgF s0 x j) → RS g M5 y ad S5 V → (∀ q, ¬ rO y ad q → M5 q = M q) → hp g M5 H → va_S (hA g) s.heap H locs → lv_has ls 6 [(5, .int (nI u5)), (4, .int (nI n3)), (3, .int (nI hr)), (0, .ref y), (1, .int (nI b)), (2, .int (nI kn))] → W p l e (hR 1 0 0) s m [.ref y, .int (nI b), .int (nI kn)].toArray below meth c H locs 0 0 Q (F0 m 95 ls []) := by
                  intro n
                  induction n with
                  | zero => intro u5 M5 S5 H locs ls hn5 hu5 ho5 hy5 hc5 hd5; exact absurd hn5 (by omega)
                  | succ n ih5 =>
                    intro u5 M5 S5 H locs ls hn5 hu5 ho5 hy5 hc5 hd5 hRs hF hm hS hl
                    refine lv_iload hx hb dX4_look_95 (lv_at hl 0 rfl) ?_
                    refine lv_bipush (v := 8) hx hb dX4_look_97 (by decide) ?_
                    refine lv_icmp_ge (tgt := 150) hx hb dX4_look_99 (by decide) (fun c_99 => ?_) (fun c_99 => ?_)
                    · have c_99 : 8 ≤ u5 := (leN (a := 8) (b := u5) rfl rfl (by decide) (by omega)).mp c_99
                      have hex : 0 < b ∧ pfx s0 x = hr ^^^ 1 := hc5 (by omega)
                      have h18 : ∀ i, i < 8 → S5 18 (8 * b + i) = dgF s0 (grpP s0 (hr ^^^ 1) (G.take (n3 + 1))) i := fun i hi => by rw [takeG hx0, grpP_app htl, if_pos hex.2]; exact hd5 i (by omega)
                      refine lv_iinc (v := nI (n3 + 1)) (lv' := [(4, .int (nI (n3 + 1))), (5, .int (nI u5)), (3, .int (nI hr)), (0, .ref y), (1, .int (nI b)), (2, .int (nI kn))]) hx hb dX4_look_150 hl (k := 1) rfl (inc_n rfl) (by decide) rfl (fun ls hl => ?_)
                      refine lv_goto (tgt := 46) hx hb dX4_look_153 (by decide) ?_
                      exact ih3 (n3 + 1) M5 S5 H locs ls (by omega) (by omega) (fun k9 h9 => by rw [ho5 k9 (by omega)]; exact qo k9 h9) (fun q hq => by rw [ho5 16 (by decide), ho5 17 (by decide)]; exact qx q hq) (fun q hq => by rw [hy5 q (by omega), q18]; exact hy3 q hq) ⟨by rw [ho5 16 (by decide)]; exact q16, (by rw [ho5 17 (by decide)]; exact q17), by first | exact h18 | exact fun _ => h18⟩ hRs hF hm hS (lv_sub hl [0, 2, 3, 4, 5] rfl)
                    · have c_99 : ¬ 8 ≤ u5 := fun h9 => c_99 ((leN (a := 8) (b := u5) rfl rfl (by decide) (by omega)).mpr h9)
                      refine lv_iload_n hx hb dX4_look_102 rfl (lv_at hl 4 rfl) ?_
                      refine lv_if_le (tgt := 150) hx hb dX4_look_103 (by decide) (fun c_103 => ?_) (fun c_103 => ?_)
                      · have c_103 : b ≤ 0 := (leN (a := b) (b := 0) rfl rfl (by omega) (by decide)).mp c_103
                        have h18 : 0 < b → ∀ i, i < 8 → S5 18 (8 * b + i) = dgF s0 (grpP s0 (hr ^^^ 1) (G.take (n3 + 1))) i := fun hb9 => absurd hb9 (by omega)
                        refine lv_iinc (v := nI (n3 + 1)) (lv' := [(4, .int (nI (n3 + 1))), (5, .int (nI u5)), (3, .int (nI hr)), (0, .ref y), (1, .int (nI b)), (2, .int (nI kn))]) hx hb dX4_look_150 hl (k := 1) rfl (inc_n rfl) (by decide) rfl (fun ls hl => ?_)
                        refine lv_goto (tgt := 46) hx hb dX4_look_153 (by decide) ?_
                        exact ih3 (n3 + 1) M5 S5 H locs ls (by omega) (by omega) (fun k9 h9 => by rw [ho5 k9 (by omega)]; exact qo k9 h9) (fun q hq => by rw [ho5 16 (by decide), ho5 17 (by decide)]; exact qx q hq) (fun q hq => by rw [hy5 q (by omega), q18]; exact hy3 q hq) ⟨by rw [ho5 16 (by decide)]; exact q16, (by rw [ho5 17 (by decide)]; exact q17), by first | exact h18 | exact fun _ => h18⟩ hRs hF hm hS (lv_sub hl [0, 2, 3, 4, 5] rfl)
                      · have c_103 : ¬ b ≤ 0 := fun h9 => c_103 ((leN (a := b) (b := 0) rfl rfl (by omega) (by decide)).mpr h9)
                        refine lv_aload_n hx hb dX4_look_106 rfl (lv_at hl 3 rfl) ?_
                        refine hr_get EE hm hRs 11 (by decide) wf_X4_109 (v := .ref (ad 11)) rfl dX4_look_107 ?_
                        refine lv_iload hx hb dX4_look_110 (lv_at hl 1 rfl) ?_
                        refine hr_ald EE hm hRs 11 n3 (by decide) rfl (by show n3 < 300; omega) (by decide) dX4_look_112 ?_
                        refine lv_iload_n hx hb dX4_look_113 rfl (lv_at hl 2 rfl) ?_
                        refine lv_iconst (v := 1) hx hb dX4_look_114 (by decide) ?_
                        refine lv_ixor hx hb dX4_look_115 ?_
                        refine lv_icmp_ne (tgt := 150) hx hb dX4_look_116 (by decide) (fun c_116 => ?_) (fun c_116 => ?_)
                        · have c_116 : ¬ (pfx s0 x) = (hr ^^^ 1) := fun h9 => c_116 ((eqN (a := pfx s0 x) (b := hr ^^^ 1) (by rw [ho5 11 (by decide), qo 11 (by decide)]; exact hat.1) (nx_xor hr 1) (by omega) (by omega)).mpr h9)
                          have h18 : 0 < b → ∀ i, i < 8 → S5 18 (8 * b + i) = dgF s0 (grpP s0 (hr ^^^ 1) (G.take (n3 + 1))) i := fun hb9 i hi => by
                            have hu0 : u5 = 0 := by
                              rcases Nat.eq_zero_or_pos u5 with q | q
                              · exact q
                              · exact absurd (hc5 q) (by exact fun h => c_116 h.2)
                            rw [takeG hx0, grpP_app htl, if_neg c_116, hy5 _ (by omega), q18]
                            exact hlk.2.2 hb9 i hi
                          refine lv_iinc (v := nI (n3 + 1)) (lv' := [(4, .int (nI (n3 + 1))), (5, .int (nI u5)), (3, .int (nI hr)), (0, .ref y), (1, .int (nI b)), (2, .int (nI kn))]) hx hb dX4_look_150 hl (k := 1) rfl (inc_n rfl) (by decide) rfl (fun ls hl => ?_)
                          refine lv_goto (tgt := 46) hx hb dX4_look_153 (by decide) ?_
                          exact ih3 (n3 + 1) M5 S5 H locs ls (by omega) (by omega) (fun k9 h9 => by rw [ho5 k9 (by omega)]; exact qo k9 h9) (fun q hq => by rw [ho5 16 (by decide), ho5 17 (by decide)]; exact qx q hq) (fun q hq => by rw [hy5 q (by omega), q18]; exact hy3 q hq) ⟨by rw [ho5 16 (by decide)]; exact q16, (by rw [ho5 17 (by decide)]; exact q17), by first | exact h18 | exact fun _ => h18⟩ hRs hF hm hS (lv_sub hl [0, 2, 3, 4, 5] rfl)
                        · have c_116 : (pfx s0 x) = (hr ^^^ 1) := (eqN (a := pfx s0 x) (b := hr ^^^ 1) (by rw [ho5 11 (by decide), qo 11 (by decide)]; exact hat.1) (nx_xor hr 1) (by omega) (by omega)).mp c_116
                          refine lv_aload_n hx hb dX4_look_119 rfl (lv_at hl 3 rfl) ?_
                          refine hr_get EE hm hRs 18 (by decide) wf_X4_127 (v := .ref (ad 18)) rfl dX4_look_120 ?_
                          refine lv_bipush (v := 8) hx hb dX4_look_123 (by decide) ?_
                          refine lv_iload_n hx hb dX4_look_125 rfl (lv_at hl 4 rfl) ?_
                          refine lv_imul hx hb dX4_look_126 ?_
                          refine lv_iload hx hb dX4_look_127 (lv_at hl 0 rfl) ?_
                          refine lv_iadd hx hb dX4_look_129 ?_
                          refine lv_aload_n hx hb dX4_look_130 rfl (lv_at hl 3 rfl) ?_
                          refine hr_get EE hm hRs 14 (by decide) wf_X4_118 (v := .ref (ad 14)) rfl dX4_look_131 ?_
                          refine lv_bipush (v := 8) hx hb dX4_look_134 (by decide) ?_
                          refine lv_iload hx hb dX4_look_136 (lv_at hl 1 rfl) ?_
                          refine lv_imul hx hb dX4_look_138 ?_
                          refine lv_iload hx hb dX4_look_139 (lv_at hl 0 rfl) ?_
                          refine lv_iadd hx hb dX4_look_141 ?_
                          refine hr_ald EE hm hRs 14 ((8 * n3) + u5) (by decide) (add_n (mul_n rfl rfl) rfl) (by show (8 * n3) + u5 < 2400; omega) (by decide) dX4_look_142 ?_
                          refine hr_ast EE hm hS hRs hF 18 ((8 * b) + u5) (by decide) (add_n (mul_n rfl rfl) rfl) (by show (8 * b) + u5 < 136; omega) (by decide) dX4_look_143 (fun H locs Mx9 hm hS hRs hF => ?_)
                          obtain ⟨Sx10, hSx10⟩ : ∃ zz9, zz9 = sU S5 18 ((8 * b) + u5) (S5 14 ((8 * n3) + u5)) := ⟨_, rfl⟩
                          rw [← hSx10] at hRs
                          refine lv_iinc (v := nI (u5 + 1)) (lv' := [(5, .int (nI (u5 + 1))), (4, .int (nI n3)), (3, .int (nI hr)), (0, .ref y), (1, .int (nI b)), (2, .int (nI kn))]) hx hb dX4_look_144 hl (k := 0) rfl (inc_n rfl) (by decide) rfl (fun ls hl => ?_)
                          refine lv_goto (tgt := 95) hx hb dX4_look_147 (by decide) ?_
                          refine ih5 (u5 + 1) Mx9 Sx10 H locs ls (by omega) (by omega) (fun k9 hk9 => by rw [hSx10, sU_o hk9]; exact ho5 k9 hk9) (fun q hq => by rw [hSx10, sU_n (by omega)]; exact hy5 q (by omega)) (fun _ => ⟨by omega, c_116⟩) (fun j hj => ?_) hRs hF hm hS (lv_sub hl [0, 1, 2, 3, 4, 5] rfl)
                          by_cases t : j = u5
                          · subst t; rw [hSx10, sU_i, ho5 14 (by decide), qo 14 (by decide)]; exact hat.2.2.2 j (by omega)
                          · rw [hSx10, sU_n (by omega)]; exact hd5 j (by omega)
                exact lp5 9 0 M4 S4 H locs ls (by omega) (by omega) (fun _ _ => rfl) (fun _ _ => rfl) (fun h => absurd h (Nat.lt_irrefl 0)) (fun j h => absurd h (Nat.not_lt_zero j)) hRs hF hm hS (lv_sub hl [0, 1, 2, 3, 4, 5] rfl)
        exact lp3 (G.length + 1) 0 M1 S1 H locs ls (by omega) (by omega) (fun k9 h9 => by rw [hoth k9 (by omega), hSx2, sU_o (by omega)]) (fun q hq => by rw [hoth 16 (by decide), hoth 17 (by decide), hSx2, sU_n hq, sU_o (by decide)]; exact ⟨rfl, rfl⟩) (fun q hq => by rw [hlow q hq, hSx2, sU_o (by decide)]) ⟨by rw [hoth 16 (by decide), hSx2, sU_i]; rfl, fun z t h => (by cases h), fun _ i hi => by rw [hz0 i (by omega)]; show _ = dgF s0 [] i; rw [dgF_nil]⟩ hRs hF hm hS (lv_sub hl [0, 1, 2, 3, 4] rfl)
      · have c_21 : ¬ 8 ≤ u := fun h9 => c_21 ((leN (a := 8) (b := u) rfl rfl (by decide) (by omega)).mpr h9)
        refine lv_aload_n hx hb dX4_look_24 rfl (lv_at hl 2 rfl) ?_
        refine hr_get EE hm hRs 18 (by decide) wf_X4_127 (v := .ref (ad 18)) rfl dX4_look_25 ?_
        refine lv_bipush (v := 8) hx hb dX4_look_28 (by decide) ?_
        refine lv_iload_n hx hb dX4_look_30 rfl (lv_at hl 3 rfl) ?_
        refine lv_imul hx hb dX4_look_31 ?_
        refine lv_iload hx hb dX4_look_32 (lv_at hl 0 rfl) ?_
        refine lv_iadd hx hb dX4_look_34 ?_
        refine lv_iconst (v := 0) hx hb dX4_look_35 (by decide) ?_
        refine hr_ast EE hm hS hRs hF 18 ((8 * b) + u) (by decide) (add_n (mul_n rfl rfl) rfl) (by show (8 * b) + u < 136; omega) (by decide) dX4_look_36 (fun H locs Mx11 hm hS hRs hF => ?_)
        obtain ⟨Sx12, hSx12⟩ : ∃ zz9, zz9 = sU S1 18 ((8 * b) + u) 0 := ⟨_, rfl⟩
        rw [← hSx12] at hRs
        refine lv_iinc (v := nI (u + 1)) (lv' := [(4, .int (nI (u + 1))), (3, .int (nI hr)), (0, .ref y), (1, .int (nI b)), (2, .int (nI kn))]) hx hb dX4_look_37 hl (k := 0) rfl (inc_n rfl) (by decide) rfl (fun ls hl => ?_)
        refine lv_goto (tgt := 17) hx hb dX4_look_40 (by decide) ?_
        refine ih (u + 1) Mx11 Sx12 H locs ls (by omega) (by omega) (fun k9 hk9 => by rw [hSx12, sU_o hk9]; exact hoth k9 hk9) (fun q hq => by rw [hSx12, sU_n (by omega)]; exact hlow q hq) (fun j hj => ?_) hRs hF hm hS (lv_sub hl [0, 1, 2, 3, 4] rfl)
        by_cases t : j = u
        · subst t; rw [hSx12, sU_i]
        · rw [hSx12, sU_n (by omega)]; exact hz0 j (by omega)
  exact lp 9 0 Mx1 Sx2 H locs ls (by omega) (by omega) (fun _ _ => rfl) (fun _ _ => rfl) (fun j h => absurd h (Nat.not_lt_zero j)) hRs hF hm hS (lv_sub hl [0, 1, 2, 3, 4] rfl)
