/-- what the levels tell of a key's way at b bits -/
def LKE (S : Nat → Nat → Int32) (base b kn : Nat) (E : En) : Prop := S 16 b = nI (selE (16 - b) (kn / 2 ^ (16 - b)) E).length ∧ (∀ z t, selE (16 - b) (kn / 2 ^ (16 - b)) E = z :: t → ∃ ix, S 17 b = nI (base + ix) ∧ E[ix]? = some z ∧ ix < E.length) ∧ (0 < b → ∀ i, i < 8 → S 18 (8 * b + i) = dgF (16 - b) (selE (16 - b) ((kn / 2 ^ (16 - b)) ^^^ 1) E) i)
theorem LK_E {S : Nat → Nat → Int32} {base b kn : Nat} {E : En} {G : List En} (hg : GRP (16 - b) E G) (h : LK S (16 - b) base b (kn / 2 ^ (16 - b)) E G) : LKE S base b kn E := by
  obtain ⟨g1, g2, g3⟩ := hg
  unfold LK at h
  rw [grpP_sel g2 g3, grpP_sel g2 g3, g1] at h
  exact h
theorem LKE_fr {S S9 : Nat → Nat → Int32} {base b kn : Nat} {E : En} (h : LKE S base b kn E) (h16 : S9 16 b = S 16 b) (h17 : S9 17 b = S 17 b) (h18 : ∀ i, i < 8 → S9 18 (8 * b + i) = S 18 (8 * b + i)) : LKE S9 base b kn E :=
  ⟨h16.trans h.1, fun z t hz => by rw [h17]; exact h.2.1 z t hz, fun hb i hi => (h18 i hi).trans (h.2.2 hb i hi)⟩
theorem GRP_x {s : Nat} {E : En} {G : List En} (h : GRP s E G) (hg : gE E) : (∀ x ∈ G, pfx s x < 65536) ∧ (∀ x ∈ G, x.length ≤ 300) ∧ G.length ≤ 300 := by
  obtain ⟨h1, h2, h3⟩ := h
  have hl : G.flatten.length ≤ 300 := by rw [h1]; exact hg.2.1
  have hsum : ∀ L : List En, (∀ x ∈ L, x ≠ []) → L.length ≤ L.flatten.length ∧ ∀ x ∈ L, x.length ≤ L.flatten.length := by
    intro L
    induction L with
    | nil => intro _; exact ⟨Nat.le_refl _, fun x hx => by cases hx⟩
    | cons w r ih =>
      intro hL
      obtain ⟨i1, i2⟩ := ih (fun v hv => hL v (List.mem_cons_of_mem _ hv))
      have hw := List.length_pos_iff.mpr (hL w List.mem_cons_self)
      rw [List.flatten_cons, List.length_append, List.length_cons]
      refine ⟨by omega, fun v hv => ?_⟩
      rcases List.mem_cons.mp hv with q | q
      · rw [q]; omega
      · have := i2 v q; omega
  obtain ⟨a, b⟩ := hsum G (fun x hx => (h2 x hx).1)
  refine ⟨fun x hx => ?_, fun x hx => Nat.le_trans (b x hx) hl, Nat.le_trans a hl⟩
  cases x with
  | nil => show 0 < 65536; decide
  | cons z t =>
    have hz : z ∈ E := by rw [← h1]; exact List.mem_flatten.mpr ⟨z :: t, hx, List.mem_cons_self⟩
    have := hg.2.2 z hz
    exact Nat.lt_of_le_of_lt (Nat.div_le_self _ _) this
theorem GRP_16 {E : En} {G : List En} (h : GRP 16 E G) (hg : gE E) : (E = [] ∧ G = []) ∨ (E ≠ [] ∧ G = [E]) := by
  obtain ⟨h1, h2, h3⟩ := h
  have p0 : ∀ x ∈ G, pfx 16 x = 0 := fun x hx => by
    cases x with
    | nil => rfl
    | cons z t =>
      have hz : z ∈ E := by rw [← h1]; exact List.mem_flatten.mpr ⟨z :: t, hx, List.mem_cons_self⟩
      have := hg.2.2 z hz
      show z.1 / 2 ^ 16 = 0
      omega
  match G, h1, h2, h3, p0 with
  | [], h1, _, _, _ => exact Or.inl ⟨h1.symm, rfl⟩
  | [x], h1, h2, _, _ =>
    have hx : x = E := by rw [← h1]; simp
    exact Or.inr ⟨by rw [← hx]; exact (h2 x List.mem_cons_self).1, by rw [hx]⟩
  | x :: y :: t, _, _, h3, p0 =>
    have := (List.pairwise_cons.mp h3).1 y List.mem_cons_self
    rw [p0 x List.mem_cons_self, p0 y (List.mem_cons_of_mem _ List.mem_cons_self)] at this
    exact absurd this (Nat.lt_irrefl 0)
set_option maxHeartbeats 4000000 in
set_option maxRecDepth 100000 in
theorem c_X4_work (l : Launch) (g : hG) (M : hM) (y : Nat) (ad : Nat → Nat) (S : Nat → Nat → Int32) (V : Nat → Int32) (hRs : RS g M y ad S V) (hk0 : ∀ j, j < 64 → S 0 j = kRound j) (hk1 : ∀ j, j < 8 → S 1 j = kStart j) (r0 : Nat) (hr0 : r0 < 61) (kn : Nat) (hkn : kn < 65536) (E : En) (hg : gE E) (hrow : rowE S r0 E) (kw : Bool) (hv7 : V 7 = bI kw) : Cv l g yX4_work cX4_work 4 6 0 0 [.ref y, .int (nI r0), .int (nI kn)] M (fun M9 => ∃ S9 V9, RS g M9 y ad S9 V9 ∧ (∀ q, ¬ rO y ad q → M9 q = M q) ∧ (∀ k9, k9 ≠ 5 → (k9 < 8 ∨ 18 < k9) → S9 k9 = S k9) ∧ (∀ q, (q < 8 * r0 ∨ 8 * r0 + 8 ≤ q) → S9 5 q = S 5 q) ∧ (∀ i, i < 8 → S9 5 (8 * r0 + i) = dgF 16 E i) ∧ (∀ k9, k9 ≠ 15 → k9 ≠ 7 → V9 k9 = V k9) ∧ V9 7 = bI (kw || r0 == 60) ∧ ∀ b, b ≤ 16 → LKE S9 (300 * r0) b kn E) := by
  have hgl := hg.2.1
  have hr4 := hrow.1
  refine hp_startV (by decide) (by exact Nat.le_of_ble_eq_true rfl) ?_
  intro p e s m below meth c Q H locs ls EE hnm ret hm hS hl
  have hx := EE.1
  have hb := EE.2.1
  have hown := EE.2.2.2.1
  have hts := EE.2.2.2.2.1
  have hl : lv_has ls 4 [(0, .ref y), (1, .int (nI r0)), (2, .int (nI kn))] := hl
  have hF : ∀ q, ¬ rO y ad q → M q = M q := fun _ _ => rfl
  refine lv_aload_n hx hb dX4_work_0 rfl (lv_at hl 0 rfl) ?_
  refine lv_iload_n hx hb dX4_work_1 rfl (lv_at hl 1 rfl) ?_
  refine hp_cv (hp_runV (C := RX4) (T := TX4) (N := 24) (np := 1) (k := 5) (mc := 0) (ms := 0) (As := [.int (nI r0)]) (rest := []) EE hm hS (c_X4_begin l g M y ad S V hRs hk0 hk1 r0 hr0 E hg hrow) ms_X4_begin wi_X4_begin ws_X4_begin wl_X4_166 hRs.1 rfl rfl hl.1 rfl (Nat.le_of_ble_eq_true rfl) dX4_work_2 ⟨Nat.le_of_ble_eq_true rfl, Nat.le_of_ble_eq_true rfl⟩ ⟨(Nat.le_of_ble_eq_true rfl), (Nat.le_of_ble_eq_true rfl)⟩) hS (fun Mx1 H locs hq2 hm hS => ?_)
  obtain ⟨Sa, Va, hRs, hFa, hoa, hVa, hla⟩ := hq2
  have hF : ∀ q, ¬ rO y ad q → Mx1 q = M q := hFa
  have hva15 : Va 15 = nI (E.map (fun z => [z])).length := by rw [hVa, vU_s, List.length_map]; exact hr4
  have hg0 := GRP_0 E hg.1
  refine lv_aload_n hx hb dX4_work_5 rfl (lv_at hl 0 rfl) ?_
  refine lv_bipush (v := 16) hx hb dX4_work_6 (by decide) ?_
  refine lv_iload_n hx hb dX4_work_8 rfl (lv_at hl 2 rfl) ?_
  refine hp_cv (hp_runV (C := RX4) (T := TX4) (N := 24) (np := 2) (k := 1) (mc := 0) (ms := 0) (As := [.int 16, .int (nI kn)]) (rest := []) EE hm hS (c_X4_look l g Mx1 y ad Sa Va hRs 16 (by decide) kn hkn E hg _ (300 * r0) hg0 hla (GRP_x hg0 hg).2.2 hva15) ms_X4_look wi_X4_look ws_X4_look wl_X4_169 hRs.1 rfl rfl hl.1 rfl (Nat.le_of_ble_eq_true rfl) dX4_work_9 ⟨Nat.le_of_ble_eq_true rfl, Nat.le_of_ble_eq_true rfl⟩ ⟨(Nat.le_of_ble_eq_true rfl), (Nat.le_of_ble_eq_true rfl)⟩) hS (fun Mx3 H locs hq4 hm hS => ?_)
  obtain ⟨Sb, hRs, hFb, hob, hxb, hyb, hlk⟩ := hq4
  have hF : ∀ q, ¬ rO y ad q → Mx3 q = M q := fun q hq => (hFb q hq).trans (hF q hq)
  have hlE := LK_E (b := 16) hg0 hlk
  have hlb : LVL Sb 0 0 (300 * r0) (E.map (fun z => [z])) := LVL_fr _ _ _ (fun q _ _ => by rw [hob 11 (by decide), hob 12 (by decide), hob 13 (by decide), hob 14 (by decide)]; exact ⟨rfl, rfl, rfl, fun _ _ => rfl⟩) hla
  refine lv_bipush (v := 15) hx hb dX4_work_12 (by decide) ?_
  refine lv_istore_n (lv' := [(3, .int 15), (0, .ref y), (1, .int (nI r0)), (2, .int (nI kn))]) hx hb dX4_work_14 rfl hl (by decide) rfl (fun ls hl => ?_)
  have lp : ∀ (n t : Nat) (M1 : hM) (S1 : Nat → Nat → Int32) (V1 : Nat → Int32) (G : List En) (H : Heap) (locs : List Loc) (ls : Array Slot), t + 1 ≤ n → t ≤ 16 → GRP (16 - t) E G → LVL S1 (16 - t) 0 (300 * r0) G → V1 15 = nI G.length → (∀ k9, (k9 < 8 ∨ 18 < k9) → S1 k9 = S k9) → (∀ k9, k9 ≠ 15 → V1 k9 = V k9) → (∀ b, t ≤ b → b ≤ 16 → LKE S1 (300 * r0) b kn E) → RS g M1 y ad S1 V1 → (∀ q, ¬ rO y ad q → M1 q = M q) → hp g M1 H → va_S (hA g) s.heap H locs → lv_has ls 4 [(3, .int (nI t - 1)), (0, .ref y), (1, .int (nI r0)), (2, .int (nI kn))] → W p l e (hR 6 0 0) s m [.ref y, .int (nI r0), .int (nI kn)].toArray below meth c H locs 0 0 Q (F0 m 15 ls []) := by
    intro n
    induction n with
    | zero => intro t M1 S1 V1 G H locs ls hn ht hgr hlv hv15 hoth hvo hLE; exact absurd hn (by omega)
    | succ n ih =>
      intro t M1 S1 V1 G H locs ls hn ht hgr hlv hv15 hoth hvo hLE hRs hF hm hS hl
      refine lv_iload_n hx hb dX4_work_15 rfl (lv_at hl 0 rfl) ?_
      refine lv_if_lt (tgt := 35) hx hb dX4_work_16 (by decide) (fun c_16 => ?_) (fun c_16 => ?_)
      · have hgl3 := (GRP_x hgr hg).2.2
        have ht0 : t = 0 := by
          rcases Nat.eq_zero_or_pos t with q | q
          · exact q
          · obtain ⟨t1, rfl⟩ : ∃ t1, t = t1 + 1 := ⟨t - 1, by omega⟩
            rw [nI_pred] at c_16
            exact absurd c_16 (nI_pos (by omega))
        have h16 := GRP_16 (by rw [ht0] at hgr; exact hgr) hg
        have hlv : LVL S1 16 0 (300 * r0) G := by rw [ht0] at hlv; exact hlv
        refine lv_iconst (v := 0) hx hb dX4_work_35 (by decide) ?_
        refine lv_istore_n (lv' := [(3, .int 0), (0, .ref y), (1, .int (nI r0)), (2, .int (nI kn))]) hx hb dX4_work_36 rfl hl (by decide) rfl (fun ls hl => ?_)
        have lp2 : ∀ (n u : Nat) (M2 : hM) (S2 : Nat → Nat → Int32)   (H : Heap) (locs : List Loc) (ls : Array Slot), 9 ≤ u + n → u ≤ 8 → (∀ k9, k9 ≠ 5 → S2 k9 = S1 k9) → (∀ q, (q < 8 * r0 ∨ 8 * r0 + 8 ≤ q) → S2 5 q = S1 5 q) → (∀ j, j < u → S2 5 (8 * r0 + j) = dgF 16 E j) → RS g M2 y ad S2 V1 → (∀ q, ¬ rO y ad q → M2 q = M q) → hp g M2 H → va_S (hA g) s.heap H locs → lv_has ls 4 [(3, .int (nI u)), (0, .ref y), (1, .int (nI r0)), (2, .int (nI kn))] → W p l e (hR 6 0 0) s m [.ref y, .int (nI r0), .int (nI kn)].toArray below meth c H locs 0 0 Q (F0 m 37 ls []) := by
          intro n
          induction n with
          | zero => intro u M2 S2 H locs ls hn2 hu ho2 hlow2 hd2; exact absurd hn2 (by omega)
          | succ n ih2 =>
            intro u M2 S2 H locs ls hn2 hu ho2 hlow2 hd2 hRs hF hm hS hl
            refine lv_iload_n hx hb dX4_work_37 rfl (lv_at hl 0 rfl) ?_
            refine lv_bipush (v := 8) hx hb dX4_work_38 (by decide) ?_
            refine lv_icmp_ge (tgt := 77) hx hb dX4_work_40 (by decide) (fun c_40 => ?_) (fun c_40 => ?_)
            · have c_40 : 8 ≤ u := (leN (a := 8) (b := u) rfl rfl (by decide) (by omega)).mp c_40
              refine lv_aload_n hx hb dX4_work_77 rfl (lv_at hl 1 rfl) ?_
              refine lv_aload_n hx hb dX4_work_78 rfl (lv_at hl 1 rfl) ?_
              refine hr_get EE hm hRs 7 (by decide) wf_X4_175 (v := .int (V1 7)) rfl dX4_work_79 ?_
              rw [hvo 7 (by decide), hv7]
              refine lv_if_ne (tgt := 91) hx hb dX4_work_82 (by decide) (fun c_82 => ?_) (fun c_82 => ?_)
              · have c_82 := bI_t c_82
                refine lv_iconst (v := 1) hx hb dX4_work_91 (by decide) ?_
                refine lv_goto (tgt := 96) hx hb dX4_work_92 (by decide) ?_
                refine hr_put EE hm hS hRs hF (ty := .boolean) (vU V1 7 1) 7 (by decide) wf_X4_175 rfl (by decide +kernel) (by decide) (by decide) rfl dX4_work_96 (fun H locs Mx5 hm hS hRs hF => ?_)
                obtain ⟨Vx6, hVx6⟩ : ∃ zz9, zz9 = vU V1 7 1 := ⟨_, rfl⟩
                rw [← hVx6] at hRs
                exact ret dX4_work_99 hm hS (Nat.le_of_ble_eq_true rfl) (Nat.le_of_ble_eq_true rfl) (⟨S2, Vx6, hRs, hF, (fun k9 h5 h9 => by rw [ho2 k9 h5]; exact hoth k9 h9), (fun q hq => by rw [hlow2 q hq, hoth 5 (by decide)]), (fun i hi => hd2 i (by omega)), (fun k9 h15 h7 => by rw [hVx6, vU_o h7]; exact hvo k9 h15), (by rw [hVx6, vU_s]; first | (rw [c_82]; rfl) | (rw [c_82, c_88]; rfl) | (rw [c_82, show (r0 == 60) = false from by simpa using c_88]; rfl)), fun b hb9 => LKE_fr (hLE b (by omega) hb9) (by rw [ho2 16 (by decide)]) (by rw [ho2 17 (by decide)]) (fun i hi => by rw [ho2 18 (by decide)])⟩)
              · have c_82 := bI_f c_82
                refine lv_iload_n hx hb dX4_work_85 rfl (lv_at hl 2 rfl) ?_
                refine lv_bipush (v := 60) hx hb dX4_work_86 (by decide) ?_
                refine lv_icmp_ne (tgt := 95) hx hb dX4_work_88 (by decide) (fun c_88 => ?_) (fun c_88 => ?_)
                · have c_88 : ¬ r0 = 60 := fun h9 => c_88 ((eqN (a := r0) (b := 60) rfl rfl (by omega) (by decide)).mpr h9)
                  refine lv_iconst (v := 0) hx hb dX4_work_95 (by decide) ?_
                  refine hr_put EE hm hS hRs hF (ty := .boolean) (vU V1 7 0) 7 (by decide) wf_X4_175 rfl (by decide +kernel) (by decide) (by decide) rfl dX4_work_96 (fun H locs Mx7 hm hS hRs hF => ?_)
                  obtain ⟨Vx8, hVx8⟩ : ∃ zz9, zz9 = vU V1 7 0 := ⟨_, rfl⟩
                  rw [← hVx8] at hRs
                  exact ret dX4_work_99 hm hS (Nat.le_of_ble_eq_true rfl) (Nat.le_of_ble_eq_true rfl) (⟨S2, Vx8, hRs, hF, (fun k9 h5 h9 => by rw [ho2 k9 h5]; exact hoth k9 h9), (fun q hq => by rw [hlow2 q hq, hoth 5 (by decide)]), (fun i hi => hd2 i (by omega)), (fun k9 h15 h7 => by rw [hVx8, vU_o h7]; exact hvo k9 h15), (by rw [hVx8, vU_s]; first | (rw [c_82]; rfl) | (rw [c_82, c_88]; rfl) | (rw [c_82, show (r0 == 60) = false from by simpa using c_88]; rfl)), fun b hb9 => LKE_fr (hLE b (by omega) hb9) (by rw [ho2 16 (by decide)]) (by rw [ho2 17 (by decide)]) (fun i hi => by rw [ho2 18 (by decide)])⟩)
                · have c_88 : r0 = 60 := (eqN (a := r0) (b := 60) rfl rfl (by omega) (by decide)).mp c_88
                  refine lv_iconst (v := 1) hx hb dX4_work_91 (by decide) ?_
                  refine lv_goto (tgt := 96) hx hb dX4_work_92 (by decide) ?_
                  refine hr_put EE hm hS hRs hF (ty := .boolean) (vU V1 7 1) 7 (by decide) wf_X4_175 rfl (by decide +kernel) (by decide) (by decide) rfl dX4_work_96 (fun H locs Mx9 hm hS hRs hF => ?_)
                  obtain ⟨Vx10, hVx10⟩ : ∃ zz9, zz9 = vU V1 7 1 := ⟨_, rfl⟩
                  rw [← hVx10] at hRs
                  exact ret dX4_work_99 hm hS (Nat.le_of_ble_eq_true rfl) (Nat.le_of_ble_eq_true rfl) (⟨S2, Vx10, hRs, hF, (fun k9 h5 h9 => by rw [ho2 k9 h5]; exact hoth k9 h9), (fun q hq => by rw [hlow2 q hq, hoth 5 (by decide)]), (fun i hi => hd2 i (by omega)), (fun k9 h15 h7 => by rw [hVx10, vU_o h7]; exact hvo k9 h15), (by rw [hVx10, vU_s]; first | (rw [c_82]; rfl) | (rw [c_82, c_88]; rfl) | (rw [c_82, show (r0 == 60) = false from by simpa using c_88]; rfl)), fun b hb9 => LKE_fr (hLE b (by omega) hb9) (by rw [ho2 16 (by decide)]) (by rw [ho2 17 (by decide)]) (fun i hi => by rw [ho2 18 (by decide)])⟩)
            · have c_40 : ¬ 8 ≤ u := fun h9 => c_40 ((leN (a := 8) (b := u) rfl rfl (by decide) (by omega)).mpr h9)
              refine lv_aload_n hx hb dX4_work_43 rfl (lv_at hl 1 rfl) ?_
              refine hr_get EE hm hRs 5 (by decide) wf_X4_97 (v := .ref (ad 5)) rfl dX4_work_44 ?_
              refine lv_bipush (v := 8) hx hb dX4_work_47 (by decide) ?_
              refine lv_iload_n hx hb dX4_work_49 rfl (lv_at hl 2 rfl) ?_
              refine lv_imul hx hb dX4_work_50 ?_
              refine lv_iload_n hx hb dX4_work_51 rfl (lv_at hl 0 rfl) ?_
              refine lv_iadd hx hb dX4_work_52 ?_
              refine lv_aload_n hx hb dX4_work_53 rfl (lv_at hl 1 rfl) ?_
              refine hr_get EE hm hRs 15 (by decide) wf_X4_149 (v := .int (V1 15)) rfl dX4_work_54 ?_
              refine lv_if_ne (tgt := 64) hx hb dX4_work_57 (by decide) (fun c_57 => ?_) (fun c_57 => ?_)
              · have c_57 : ¬ G.length = 0 := fun h9 => c_57 ((eqN (a := G.length) (b := 0) hv15 rfl (by omega) (by decide)).mpr h9)
                have hnd : ∀ j, j < 8 → S1 14 j = dgF 16 E j := by
                  rcases h16 with h8 | h8
                  · rw [h8.2] at c_57; exact absurd rfl c_57
                  · rw [h8.2] at hlv; intro j hj; have := hlv.1.2.2.2 j hj; rw [Nat.mul_zero, Nat.zero_add] at this; exact this
                refine lv_aload_n hx hb dX4_work_64 rfl (lv_at hl 1 rfl) ?_
                refine hr_get EE hm hRs 14 (by decide) wf_X4_118 (v := .ref (ad 14)) rfl dX4_work_65 ?_
                refine lv_iload_n hx hb dX4_work_68 rfl (lv_at hl 0 rfl) ?_
                refine hr_ald EE hm hRs 14 u (by decide) rfl (by show u < 2400; omega) (by decide) dX4_work_69 ?_
                refine hr_ast EE hm hS hRs hF 5 ((8 * r0) + u) (by decide) (add_n (mul_n rfl rfl) rfl) (by show (8 * r0) + u < 488; omega) (by decide) dX4_work_70 (fun H locs Mx11 hm hS hRs hF => ?_)
                obtain ⟨Sx12, hSx12⟩ : ∃ zz9, zz9 = sU S2 5 ((8 * r0) + u) (S2 14 u) := ⟨_, rfl⟩
                rw [← hSx12] at hRs
                refine lv_iinc (v := nI (u + 1)) (lv' := [(3, .int (nI (u + 1))), (0, .ref y), (1, .int (nI r0)), (2, .int (nI kn))]) hx hb dX4_work_71 hl (k := 0) rfl (inc_n rfl) (by decide) rfl (fun ls hl => ?_)
                refine lv_goto (tgt := 37) hx hb dX4_work_74 (by decide) ?_
                refine ih2 (u + 1) Mx11 Sx12 H locs ls (by omega) (by omega) (fun k9 hk9 => by rw [hSx12, sU_o hk9]; exact ho2 k9 hk9) (fun q hq => by rw [hSx12, sU_n (by omega)]; exact hlow2 q hq) (fun j hj => ?_) hRs hF hm hS (lv_sub hl [0, 1, 2, 3] rfl)
                by_cases tt : j = u
                · subst tt; rw [hSx12, sU_i, ho2 14 (by decide)]; exact hnd j (by omega)
                · rw [hSx12, sU_n (by omega)]; exact hd2 j (by omega)
              · have c_57 : G.length = 0 := (eqN (a := G.length) (b := 0) hv15 rfl (by omega) (by decide)).mp c_57
                have hE0 : E = [] := by
                  rcases h16 with h8 | h8
                  · exact h8.1
                  · rw [h8.2] at c_57; exact absurd c_57 (by show ¬ 1 = 0; decide)
                refine lv_iconst (v := 0) hx hb dX4_work_60 (by decide) ?_
                refine lv_goto (tgt := 70) hx hb dX4_work_61 (by decide) ?_
                refine hr_ast EE hm hS hRs hF 5 ((8 * r0) + u) (by decide) (add_n (mul_n rfl rfl) rfl) (by show (8 * r0) + u < 488; omega) (by decide) dX4_work_70 (fun H locs Mx13 hm hS hRs hF => ?_)
                obtain ⟨Sx14, hSx14⟩ : ∃ zz9, zz9 = sU S2 5 ((8 * r0) + u) 0 := ⟨_, rfl⟩
                rw [← hSx14] at hRs
                refine lv_iinc (v := nI (u + 1)) (lv' := [(3, .int (nI (u + 1))), (0, .ref y), (1, .int (nI r0)), (2, .int (nI kn))]) hx hb dX4_work_71 hl (k := 0) rfl (inc_n rfl) (by decide) rfl (fun ls hl => ?_)
                refine lv_goto (tgt := 37) hx hb dX4_work_74 (by decide) ?_
                refine ih2 (u + 1) Mx13 Sx14 H locs ls (by omega) (by omega) (fun k9 hk9 => by rw [hSx14, sU_o hk9]; exact ho2 k9 hk9) (fun q hq => by rw [hSx14, sU_n (by omega)]; exact hlow2 q hq) (fun j hj => ?_) hRs hF hm hS (lv_sub hl [0, 1, 2, 3] rfl)
                by_cases tt : j = u
                · subst tt; rw [hSx14, sU_i, hE0, dgF_nil]
                · rw [hSx14, sU_n (by omega)]; exact hd2 j (by omega)
        exact lp2 9 0 M1 S1 H locs ls (by omega) (by omega) (fun _ _ => rfl) (fun _ _ => rfl) (fun j h => absurd h (Nat.not_lt_zero j)) hRs hF hm hS (lv_sub hl [0, 1, 2, 3] rfl)
      · obtain ⟨t1, ht1⟩ : ∃ t1, t = t1 + 1 := by
          rcases Nat.eq_zero_or_pos t with q | q
          · rw [q] at c_16; exact absurd (by decide) c_16
          · exact ⟨t - 1, by omega⟩
        subst ht1
        rw [nI_pred] at hl
        have hl : lv_has ls 4 [(3, .int (nI t1)), (0, .ref y), (1, .int (nI r0)), (2, .int (nI kn))] := hl
        obtain ⟨gx1, gx2, gx3⟩ := GRP_x hgr hg
        refine lv_aload_n hx hb dX4_work_19 rfl (lv_at hl 1 rfl) ?_
        refine hp_cv (hp_runV (C := RX4) (T := TX4) (N := 24) (np := 0) (k := 5) (mc := 0) (ms := 0) (As := ([] : List Value)) (rest := []) EE hm hS (c_X4_up l g M1 y ad S1 V1 hRs (fun j hj => by rw [hoth 0 (by decide)]; exact hk0 j hj) (fun j hj => by rw [hoth 1 (by decide)]; exact hk1 j hj) (16 - (t1 + 1)) (300 * r0) G hgr.2.1 hgr.2.2 gx1 gx2 hlv gx3 hv15) ms_X4_up wi_X4_up ws_X4_up wl_X4_172 hRs.1 rfl rfl hl.1 rfl (Nat.le_of_ble_eq_true rfl) dX4_work_20 ⟨Nat.le_of_ble_eq_true rfl, Nat.le_of_ble_eq_true rfl⟩ ⟨(Nat.le_of_ble_eq_true rfl), (Nat.le_of_ble_eq_true rfl)⟩) hS (fun Mx15 H locs hq16 hm hS => ?_)
        obtain ⟨Sc, Vc, hRs, hFc, hoc, hVc, hlc⟩ := hq16
        have hF : ∀ q, ¬ rO y ad q → Mx15 q = M q := fun q hq => (hFc q hq).trans (hF q hq)
        have hgc : GRP (16 - t1) E (mrg (16 - (t1 + 1)) G) := by have := GRP_up hgr; rw [show 16 - (t1 + 1) + 1 = 16 - t1 by omega] at this; exact this
        have hlc : LVL Sc (16 - t1) 0 (300 * r0) (mrg (16 - (t1 + 1)) G) := by rw [show 16 - (t1 + 1) + 1 = 16 - t1 by omega] at hlc; exact hlc
        have hvc15 : Vc 15 = nI (mrg (16 - (t1 + 1)) G).length := by rw [hVc, vU_s]
        refine lv_aload_n hx hb dX4_work_23 rfl (lv_at hl 1 rfl) ?_
        refine lv_iload_n hx hb dX4_work_24 rfl (lv_at hl 0 rfl) ?_
        refine lv_iload_n hx hb dX4_work_25 rfl (lv_at hl 3 rfl) ?_
        refine hp_cv (hp_runV (C := RX4) (T := TX4) (N := 24) (np := 2) (k := 1) (mc := 0) (ms := 0) (As := [.int (nI t1), .int (nI kn)]) (rest := []) EE hm hS (c_X4_look l g Mx15 y ad Sc Vc hRs t1 (by omega) kn hkn E hg _ (300 * r0) hgc hlc (GRP_x hgc hg).2.2 hvc15) ms_X4_look wi_X4_look ws_X4_look wl_X4_169 hRs.1 rfl rfl hl.1 rfl (Nat.le_of_ble_eq_true rfl) dX4_work_26 ⟨Nat.le_of_ble_eq_true rfl, Nat.le_of_ble_eq_true rfl⟩ ⟨(Nat.le_of_ble_eq_true rfl), (Nat.le_of_ble_eq_true rfl)⟩) hS (fun Mx17 H locs hq18 hm hS => ?_)
        obtain ⟨Sd, hRs, hFd, hod, hxd, hyd, hlk⟩ := hq18
        have hF : ∀ q, ¬ rO y ad q → Mx17 q = M q := fun q hq => (hFd q hq).trans (hF q hq)
        have hlE := LK_E hgc hlk
        have hld : LVL Sd (16 - t1) 0 (300 * r0) (mrg (16 - (t1 + 1)) G) := LVL_fr _ _ _ (fun q _ _ => by rw [hod 11 (by decide), hod 12 (by decide), hod 13 (by decide), hod 14 (by decide)]; exact ⟨rfl, rfl, rfl, fun _ _ => rfl⟩) hlc
        refine lv_iinc (v := (nI t1) + (-1)) (lv' := [(3, .int ((nI t1) + (-1))), (0, .ref y), (1, .int (nI r0)), (2, .int (nI kn))]) hx hb dX4_work_29 hl (k := 0) rfl rfl (by decide) rfl (fun ls hl => ?_)
        refine lv_goto (tgt := 15) hx hb dX4_work_32 (by decide) ?_
        refine ih t1 Mx17 Sd Vc _ H locs ls (by omega) (by omega) hgc hld hvc15 (fun k9 h9 => by rw [hod k9 (by omega), hoc k9 (by omega)]; exact hoth k9 h9) (fun k9 h9 => by rw [hVc, vU_o h9]; exact hvo k9 h9) (fun b h1 h2 => ?_) hRs hF hm hS (lv_sub hl [0, 1, 2, 3] (by rw [m1_sub]; rfl))
        by_cases hb9 : b = t1
        · rw [hb9]; exact hlE
        · exact LKE_fr (hLE b (by omega) h2) (by rw [(hxd b hb9).1, hoc 16 (by decide)]) (by rw [(hxd b hb9).2, hoc 17 (by decide)]) (fun i hi => by rw [hyd _ (by omega), hoc 18 (by decide)])
  exact lp 17 16 Mx3 Sb Va (E.map (fun z => [z])) H locs ls (by omega) (by omega) hg0 hlb hva15 (fun k9 h9 => by rw [hob k9 (by omega)]; exact hoa k9 (by omega)) (fun k9 h9 => by rw [hVa, vU_o h9]) (fun b h1 h2 => by rw [show b = 16 by omega]; exact hlE) hRs hF hm hS (lv_sub hl [0, 1, 2, 3] rfl)
/-- behind work: the state is the same, the digest is known -/
theorem RW.wk {g : hG} {M M9 : hM} {y : Nat} {ad : Nat → Nat} {S S9 : Nat → Nat → Int32} {V V9 : Nat → Int32} {σ : cSt} {r0 : Nat} {E : En} {kw : Bool} (hw : RW g M y ad S V σ) (hv7 : V 7 = bI kw) (hc : (r0 = 60 ∧ E = sNow σ) ∨ (r0 < sKc σ ∧ E = sVs σ r0)) (hR : RS g M9 y ad S9 V9) (ho : ∀ k9, k9 ≠ 5 → (k9 < 8 ∨ 18 < k9) → S9 k9 = S k9) (h5 : ∀ q, (q < 8 * r0 ∨ 8 * r0 + 8 ≤ q) → S9 5 q = S 5 q) (hd : ∀ i, i < 8 → S9 5 (8 * r0 + i) = dgF 16 E i) (hv : ∀ k9, k9 ≠ 15 → k9 ≠ 7 → V9 k9 = V k9) (h7 : V9 7 = bI (kw || r0 == 60)) : RW g M9 y ad S9 V9 σ := by
  obtain ⟨-, ⟨k1, k2, k3, k4, k5⟩, q0, q1, q6, qr, qn, qd, ⟨kw1, q7, qk⟩, r19, r21, r22, r23, rsb⟩ := hw
  have hkk : kw1 = kw := bI_inj (q7.symm.trans hv7)
  subst hkk
  have re : ∀ r E, rowE S r E → rowE S9 r E := fun r E h => ⟨by rw [ho 4 (by decide) (by decide)]; exact h.1, fun j hj => by rw [ho 2 (by decide) (by decide), ho 3 (by decide) (by decide)]; exact h.2 j hj⟩
  refine ⟨hR, ⟨k1, k2, k3, k4, k5⟩, fun j hj => by rw [ho 0 (by decide) (by decide)]; exact q0 j hj, fun j hj => by rw [ho 1 (by decide) (by decide)]; exact q1 j hj, (hv 6 (by decide) (by decide)).trans q6, fun j hj => re _ _ (qr j hj), re _ _ qn, fun j hj i hi => ?_, ⟨kw1 || r0 == 60, h7, fun h i hi => ?_⟩, (hv 19 (by decide) (by decide)).trans r19, (hv 21 (by decide) (by decide)).trans r21, (hv 22 (by decide) (by decide)).trans r22, (hv 23 (by decide) (by decide)).trans r23, fun i hi j hj => by rw [ho 20 (by decide) (by decide)]; exact rsb i hi j hj⟩
  · have hj2 : j < sKc σ := hj
    by_cases hjr : j = r0
    · subst hjr
      rw [hd i hi]
      rcases hc with ⟨h1, -⟩ | ⟨-, h2⟩
      · omega
      · rw [h2]
    · rw [h5 _ (by omega)]; exact qd j hj2 i hi
  · by_cases hr : r0 = 60
    · subst hr
      rw [hd i hi]
      rcases hc with ⟨-, h2⟩ | ⟨h1, -⟩
      · rw [h2]
      · omega
    · rw [h5 _ (by rcases hc with ⟨h1, -⟩ | ⟨h1, -⟩ <;> omega)]
      refine qk ?_ i hi
      rw [show (r0 == 60) = false from by simpa using hr, Bool.or_false] at h
      exact h
set_option maxHeartbeats 4000000 in
set_option maxRecDepth 100000 in
theorem c_X4_know (l : Launch) (g : hG) (M : hM) (y : Nat) (ad : Nat → Nat) (S : Nat → Nat → Int32) (V : Nat → Int32) (σ : cSt) (hw : RW g M y ad S V σ) : Cv l g yX4_know cX4_know 1 7 0 0 [.ref y] M (fun M9 => ∃ S9 V9, RW g M9 y ad S9 V9 σ ∧ (∀ q, ¬ rO y ad q → M9 q = M q) ∧ V9 7 = 1) := by
  obtain ⟨hRs, ⟨hkc, hvg, hgn, hpl, hpk⟩, hk0, hk1, hv6, hrows, hnow, hdv, ⟨kw, hv7, hdn⟩, hv19, hv21, hv22, hv23, hsb⟩ := id hw
  refine hp_startV (by decide) (by exact Nat.le_of_ble_eq_true rfl) ?_
  intro p e s m below meth c Q H locs ls EE hnm ret hm hS hl
  have hx := EE.1
  have hb := EE.2.1
  have hown := EE.2.2.2.1
  have hts := EE.2.2.2.2.1
  have hl : lv_has ls 1 [(0, .ref y)] := hl
  have hF : ∀ q, ¬ rO y ad q → M q = M q := fun _ _ => rfl
  refine lv_aload_n hx hb dX4_know_0 rfl (lv_at hl 0 rfl) ?_
  refine hr_get EE hm hRs 7 (by decide) wf_X4_175 (v := .int (V 7)) rfl dX4_know_1 ?_
  rw [hv7]
  refine lv_if_ne (tgt := 14) hx hb dX4_know_4 (by decide) (fun c_4 => ?_) (fun c_4 => ?_)
  · have c_4 := bI_t c_4
    exact ret dX4_know_14 hm hS (Nat.le_of_ble_eq_true rfl) (Nat.le_of_ble_eq_true rfl) (⟨S, V, hw, fun _ _ => rfl, by rw [hv7, c_4]; rfl⟩)
  · have c_4 := bI_f c_4
    refine lv_aload_n hx hb dX4_know_7 rfl (lv_at hl 0 rfl) ?_
    refine lv_bipush (v := 60) hx hb dX4_know_8 (by decide) ?_
    refine lv_iconst (v := 0) hx hb dX4_know_10 (by decide) ?_
    refine hp_cv (hp_runV (C := RX4) (T := TX4) (N := 24) (np := 2) (k := 6) (mc := 0) (ms := 0) (As := [.int 60, .int 0]) (rest := []) EE hm hS (c_X4_work l g M y ad S V hRs hk0 hk1 60 (by decide) 0 (by decide) (sNow σ) hgn hnow kw hv7) ms_X4_work wi_X4_work ws_X4_work wl_X4_179 hRs.1 rfl rfl hl.1 rfl (Nat.le_of_ble_eq_true rfl) dX4_know_11 ⟨Nat.le_of_ble_eq_true rfl, Nat.le_of_ble_eq_true rfl⟩ ⟨(Nat.le_of_ble_eq_true rfl), (Nat.le_of_ble_eq_true rfl)⟩) hS (fun Mx1 H locs hq2 hm hS => ?_)
    obtain ⟨S9, V9, hR9, hF9, ho9, h59, hd9, hv9, h79, -⟩ := hq2
    have hw9 := hw.wk hv7 (Or.inl ⟨rfl, rfl⟩) hR9 ho9 h59 hd9 hv9 h79
    have h71 : V9 7 = 1 := by rw [h79]; rw [c_4]; rfl
    exact ret dX4_know_14 hm hS (Nat.le_of_ble_eq_true rfl) (Nat.le_of_ble_eq_true rfl) (⟨S9, V9, hw9, hF9, h71⟩)
