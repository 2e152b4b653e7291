/-- a new object with its rows, newest first; what was there before is as it was -/
def NR (g : hG) (M0 M : hM) (y : Nat) (fs : List Value) (L : List (Nat × Nat × (Nat → Int32))) : Prop :=
  M y = some (.inr (4, fs)) ∧ (∀ e ∈ L, M e.1 = some (aI g e.2.1 e.2.2) ∧ M0 e.1 = none) ∧ (L.map (fun e => e.1)).Nodup ∧ (∀ q, q ≠ y → (∀ e ∈ L, q ≠ e.1) → M q = M0 q)
theorem NR.new {g : hG} {M0 M : hM} {y : Nat} {fs : List Value} {L : List (Nat × Nat × (Nat → Int32))} (h : NR g M0 M y fs L) {q n : Nat} {f : Nat → Int32} (hq : M q = none) : NR g M0 (hm_up M q (aI g n f)) y fs ((q, n, f) :: L) := by
  obtain ⟨h1, h2, h3, h4⟩ := h
  have hqy : q ≠ y := Ne.symm (ne_new hq h1)
  have hqL : ∀ e ∈ L, e.1 ≠ q := fun e he => ne_new hq (h2 e he).1
  refine ⟨up_at (Ne.symm hqy) h1, fun e he => ?_, List.nodup_cons.mpr ⟨fun hm => ?_, h3⟩, fun x hx hL => ?_⟩
  · rcases List.mem_cons.mp he with t | t
    · subst t
      exact ⟨up_eq, by rw [← h4 q hqy (fun e he t => hqL e he t.symm)]; exact hq⟩
    · exact ⟨up_at (hqL e t) (h2 e t).1, (h2 e t).2⟩
  · obtain ⟨e, he, t⟩ := List.mem_map.mp hm
    exact hqL e he t
  · rw [up_ne (hL (q, n, f) List.mem_cons_self)]
    exact h4 x hx (fun e he => hL e (List.mem_cons_of_mem _ he))
theorem NR.put {g : hG} {M0 M : hM} {y : Nat} {fs fs1 : List Value} {L : List (Nat × Nat × (Nat → Int32))} (h : NR g M0 M y fs L) : NR g M0 (hm_up M y (.inr (4, fs1))) y fs1 L := by
  obtain ⟨h1, h2, h3, h4⟩ := h
  exact ⟨up_eq, fun e he => ⟨up_at (ne_lk (h2 e he).1 h1 (by simp)) (h2 e he).1, (h2 e he).2⟩, h3, fun x hx hL => by rw [up_ne hx]; exact h4 x hx hL⟩
theorem NR.st {g : hG} {M0 M : hM} {y : Nat} {fs : List Value} {L : List (Nat × Nat × (Nat → Int32))} {a n : Nat} {f f1 : Nat → Int32} (h : NR g M0 M y fs ((a, n, f) :: L)) : NR g M0 (hm_up M a (aI g n f1)) y fs ((a, n, f1) :: L) := by
  obtain ⟨h1, h2, h3, h4⟩ := h
  have ha := h2 (a, n, f) List.mem_cons_self
  refine ⟨up_at (ne_lk h1 ha.1 (by simp)) h1, fun e he => ?_, h3, fun x hx hL => ?_⟩
  · rcases List.mem_cons.mp he with t | t
    · subst t
      exact ⟨up_eq, ha.2⟩
    · have hne : e.1 ≠ a := fun z => (List.nodup_cons.mp h3).1 (List.mem_map.mpr ⟨e, t, z⟩)
      exact ⟨up_at hne (h2 e (List.mem_cons_of_mem _ t)).1, (h2 e (List.mem_cons_of_mem _ t)).2⟩
  · rw [up_ne (hL (a, n, f1) List.mem_cons_self)]
    refine h4 x hx (fun e he => ?_)
    rcases List.mem_cons.mp he with t | t
    · subst t; exact hL (a, n, f1) List.mem_cons_self
    · exact hL e (List.mem_cons_of_mem _ t)
section HL
variable {p : Program} {l : Launch} {e : Env} {R : Room} {s : State} {m : MethodId} {args : Array Value} {below : List Frame} {meth : Method} {c : Code} {H : Heap} {locs : List Loc} {cells slots : Nat} {Q : State → Prop}
variable {cc : ByteArray} {pc : Nat} {ls : Array Slot} {rest : List Value} {y : Nat} {g : hG} {M0 M : hM} {nL : Nat} {fs : List Value} {L : List (Nat × Nat × (Nat → Int32))}
theorem hl_na (E : hE p c cc nL s args m RX4 g) (hm : hp g M H) (hS : va_S (hA g) s.heap H locs) (hN : NR g M0 M y fs L) {n : Int32} (N' : Nat) (hn : ¬ n < 0) (hnN : n.toNatClampNeg = N') (hbytes : N' * 4 ≤ 536870912) (hcells : cells + 1 ≤ R.cells) (hslots : slots + N' ≤ R.slots) (hdg : decode cc pc = .ok (.newarray .int, 2))
    (kk : ∀ (q : Nat) (H1 : Heap) (M1 : hM), hp g M1 H1 → va_S (hA g) s.heap H1 locs → NR g M0 M1 y fs ((q, N', fun _ => 0) :: L) → W p l e R s m args below meth c H1 locs (cells + 1) (slots + N') Q (F0 m (pc + 2) ls (.ref q :: rest))) : W p l e R s m args below meth c H locs cells slots Q (F0 m pc ls (.int n :: rest)) :=
  hp_newa E hm hS warr hn hnN hbytes hcells hslots hdg (fun q H1 hq hm1 hS1 => kk q H1 _ hm1 hS1 (hN.new hq))
theorem hl_pf (E : hE p c cc nL s args m RX4 g) (hm : hp g M H) (hS : va_S (hA g) s.heap H locs) (hN : NR g M0 M y fs L) {index : Nat} (k : Nat) (hk : k < 24) (hlink : Cond.fieldLink RX4 index (TX4 k).1 (TX4 k).2.1 (TX4 k).2.2.1 ∈ hT) (hfin : (TX4 k).2.2.2 = true) (hnm : meth.name = "<init>") (hdecl : (TX4 k).1 = RX4) {q : Nat} (hd : parseFieldDescriptor (TX4 k).2.2.1 = some (.array .int)) (hl : k < fs.length) (hdg : decode cc pc = .ok (.putfield index, 3)) {fs1 : List Value} (hfs : fs.set k (.ref q) = fs1)
    (kk : ∀ (H1 : Heap) (locs1 : List Loc) (M1 : hM), hp g M1 H1 → va_S (hA g) s.heap H1 locs1 → NR g M0 M1 y fs1 L → W p l e R s m args below meth c H1 locs1 cells slots Q (F0 m (pc + 3) ls rest)) : W p l e R s m args below meth c H locs cells slots Q (F0 m pc ls (.ref q :: .ref y :: rest)) := by
  subst hfs
  exact hp_putF (C := RX4) (T := TX4) (N := 24) (ty := .array .int) E hm hS hN.1 inh4 tyX4 tyX4_ok nmX4 rfl k hk hlink hfin hnm hdecl hd rfl rfl hl hdg (fun H1 locs1 hm1 hS1 => kk H1 locs1 _ hm1 hS1 hN.put)
theorem hl_st (E : hE p c cc nL s args m RX4 g) (hm : hp g M H) (hS : va_S (hA g) s.heap H locs) {a n : Nat} {f : Nat → Int32} (hN : NR g M0 M y fs ((a, n, f) :: L)) (k : Nat → Int32) (i : Nat) {x v : Int32} (hx : x = nI i) (hlt : i < n) (hn : n < 2 ^ 31) (hv : v = k i) (hk : ∀ j, j < i → f j = k j) (hdg : decode cc pc = .ok (.iastore, 1))
    (kk : ∀ (H1 : Heap) (locs1 : List Loc) (M1 : hM) (f1 : Nat → Int32), hp g M1 H1 → va_S (hA g) s.heap H1 locs1 → NR g M0 M1 y fs ((a, n, f1) :: L) → (∀ j, j < i + 1 → f1 j = k j) → W p l e R s m args below meth c H1 locs1 cells slots Q (F0 m (pc + 1) ls rest)) : W p l e R s m args below meth c H locs cells slots Q (F0 m pc ls (.int v :: .int x :: .ref a :: rest)) := by
  refine hp_iastN E hm hS (hN.2.1 (a, n, f) List.mem_cons_self).1 i hx hlt hn hdg (fun H1 locs1 hm1 hS1 => kk H1 locs1 _ _ hm1 hS1 hN.st (fun j hj => ?_))
  by_cases t : j = i
  · subst t; rw [pk_us]; exact hv
  · rw [pk_un t]; exact hk j (by omega)
end HL
def ai (k : Nat) : Nat := if k ≤ 5 then 16 - k else if k ≤ 14 then 18 - k else if k ≤ 18 then 19 - k else 0
theorem ai_inj : ∀ i ∈ AR, ∀ j ∈ AR, ai i = ai j → i = j := by decide
theorem ai_lt : ∀ i ∈ AR, ai i < 17 := by decide
theorem NR.RS {g : hG} {M0 M : hM} {y : Nat} {fs : List Value} {L : List (Nat × Nat × (Nat → Int32))} (h : NR g M0 M y fs L) (hlen : L.length = 17) (hn : ∀ k ∈ AR, (L.getD (ai k) (0, 0, fun _ => 0)).2.1 = rl k) (hf : fs = rF (fun k => (L.getD (ai k) (0, 0, fun _ => 0)).1) (fun _ => 0)) : RS g M y (fun k => (L.getD (ai k) (0, 0, fun _ => 0)).1) (fun k => (L.getD (ai k) (0, 0, fun _ => 0)).2.2) (fun _ => 0) := by
  obtain ⟨h1, h2, h3, -⟩ := h
  have hg : ∀ k ∈ AR, ∃ (hl : ai k < L.length), L.getD (ai k) (0, 0, fun _ => 0) = L[ai k] := fun k hk => by
    have hl : ai k < L.length := by rw [hlen]; exact ai_lt k hk
    exact ⟨hl, by rw [List.getD_eq_getElem?_getD, List.getElem?_eq_getElem hl]; rfl⟩
  refine ⟨by rw [← hf]; exact h1, fun k hk => ?_, fun i j hi hj hij => ?_⟩
  · obtain ⟨hl, he⟩ := hg k hk
    have := (h2 _ (List.getElem_mem hl)).1
    rw [← he, hn k hk] at this
    exact this
  · obtain ⟨hl, he⟩ := hg i hi
    obtain ⟨hl2, he2⟩ := hg j hj
    have hij2 : (L[ai i]).1 = (L[ai j]).1 := by rw [← he, ← he2]; exact hij
    refine ai_inj i hi j hj ?_
    have h5 := (List.getElem_map (fun e : Nat × Nat × (Nat → Int32) => e.1) (l := L) (i := ai i) (h := by rw [List.length_map]; exact hl))
    have h6 := (List.getElem_map (fun e : Nat × Nat × (Nat → Int32) => e.1) (l := L) (i := ai j) (h := by rw [List.length_map]; exact hl2))
    have h7 := h5.trans (hij2.trans h6.symm)
    rcases Nat.lt_trichotomy (ai i) (ai j) with t | t | t
    · exact absurd h7 (List.pairwise_iff_getElem.mp h3 _ _ _ _ t)
    · exact t
    · exact absurd h7.symm (List.pairwise_iff_getElem.mp h3 _ _ _ _ t)
theorem NR.fr {g : hG} {M0 M : hM} {y : Nat} {fs : List Value} {L : List (Nat × Nat × (Nat → Int32))} (h : NR g M0 M y fs L) (hlen : L.length = 17) : (∀ k ∈ AR, M0 (L.getD (ai k) (0, 0, fun _ => 0)).1 = none) ∧ ∀ q, q ≠ y → (∀ k ∈ AR, q ≠ (L.getD (ai k) (0, 0, fun _ => 0)).1) → M q = M0 q := by
  obtain ⟨h1, h2, h3, h4⟩ := h
  refine ⟨fun k hk => ?_, fun q hq hL => h4 q hq (fun e he t => ?_)⟩
  · have hl : ai k < L.length := by rw [hlen]; exact ai_lt k hk
    rw [List.getD_eq_getElem?_getD, List.getElem?_eq_getElem hl]
    exact (h2 _ (List.getElem_mem hl)).2
  · obtain ⟨i, hi, hie⟩ := List.getElem_of_mem he
    have hi17 : i < 17 := by rw [← hlen]; exact hi
    have key : ∀ i, i < 17 → ∃ k ∈ AR, ai k = i := by decide
    obtain ⟨k, hk, hki⟩ := key i hi17
    refine hL k hk ?_
    rw [t, ← hie, hki, List.getD_eq_getElem?_getD, List.getElem?_eq_getElem hi]
    rfl
set_option maxHeartbeats 8000000 in
set_option maxRecDepth 100000 in
theorem c_X4_init (l : Launch) (g : hG) (M : hM) (y : Nat) (e_y : M y = some (.inr (4, [.null, .null, .null, .null, .null, .null, .int 0, .int 0, .null, .null, .null, .null, .null, .null, .null, .int 0, .null, .null, .null, .int 0, .null, .int 0, .int 0, .int 0]))) : Cv l g yX4_init cX4_init 1 1 17 41019 [.ref y] M (fun M9 => ∃ ad S V, RW g M9 y ad S V σ0 ∧ (∀ k ∈ AR, M (ad k) = none) ∧ ∀ q, q ≠ y → (∀ k ∈ AR, q ≠ ad k) → M9 q = M q) := by
  refine hp_startV (by decide) (by exact Nat.le_of_ble_eq_true rfl) ?_
  intro p e s m below meth c Q H locs ls EE hnm ret hm hS hl
  have hx := EE.1
  have hb := EE.2.1
  have hown := EE.2.2.2.1
  have hts := EE.2.2.2.2.1
  have hl : lv_has ls 1 [(0, .ref y)] := hl
  have hN : NR g M M y [.null, .null, .null, .null, .null, .null, .int 0, .int 0, .null, .null, .null, .null, .null, .null, .null, .int 0, .null, .null, .null, .int 0, .null, .int 0, .int 0, .int 0] [] := ⟨e_y, fun e he => (by cases he), List.nodup_nil, fun _ _ _ => rfl⟩
  refine lv_aload_n hx hb dX4_init_0 rfl (lv_at hl 0 rfl) ?_
  refine hp_obj EE wl_X4_1 wi_objectInit wcode_objectInit hl.1 dX4_init_1 (Nat.le_of_ble_eq_true rfl) (Nat.le_of_ble_eq_true rfl) ?_
  refine lv_aload_n hx hb dX4_init_4 rfl (lv_at hl 0 rfl) ?_
  refine lv_bipush (v := 64) hx hb dX4_init_5 (by decide) ?_
  refine hl_na EE hm hS hN 64 (by decide) (by decide) (by decide) (Nat.le_of_ble_eq_true rfl) (Nat.le_of_ble_eq_true rfl) dX4_init_7 (fun q1 H M1 hm hS hN => ?_)
  have hk : ∀ j, j < 0 → (fun _ => (0 : Int32)) j = kRound j := fun j h => absurd h (Nat.not_lt_zero j)
  refine lv_dup hx hb dX4_init_9 rfl ?_
  refine lv_iconst (v := 0) hx hb dX4_init_10 (by decide) ?_
  refine lv_ldc (v := 1116352408) hx hb hown (hts _ wk_X4_7) dX4_init_11 ?_
  refine hl_st EE hm hS hN kRound 0 rfl (by decide) (by decide) (by decide) hk dX4_init_13 (fun H locs M1 f1_0 hm hS hN hk => ?_)
  refine lv_dup hx hb dX4_init_14 rfl ?_
  refine lv_iconst (v := 1) hx hb dX4_init_15 (by decide) ?_
  refine lv_ldc (v := 1899447441) hx hb hown (hts _ wk_X4_8) dX4_init_16 ?_
  refine hl_st EE hm hS hN kRound 1 rfl (by decide) (by decide) (by decide) hk dX4_init_18 (fun H locs M1 f1_1 hm hS hN hk => ?_)
  refine lv_dup hx hb dX4_init_19 rfl ?_
  refine lv_iconst (v := 2) hx hb dX4_init_20 (by decide) ?_
  refine lv_ldc (v := (-1245643825)) hx hb hown (hts _ wk_X4_9) dX4_init_21 ?_
  refine hl_st EE hm hS hN kRound 2 rfl (by decide) (by decide) (by decide) hk dX4_init_23 (fun H locs M1 f1_2 hm hS hN hk => ?_)
  refine lv_dup hx hb dX4_init_24 rfl ?_
  refine lv_iconst (v := 3) hx hb dX4_init_25 (by decide) ?_
  refine lv_ldc (v := (-373957723)) hx hb hown (hts _ wk_X4_10) dX4_init_26 ?_
  refine hl_st EE hm hS hN kRound 3 rfl (by decide) (by decide) (by decide) hk dX4_init_28 (fun H locs M1 f1_3 hm hS hN hk => ?_)
  refine lv_dup hx hb dX4_init_29 rfl ?_
  refine lv_iconst (v := 4) hx hb dX4_init_30 (by decide) ?_
  refine lv_ldc (v := 961987163) hx hb hown (hts _ wk_X4_11) dX4_init_31 ?_
  refine hl_st EE hm hS hN kRound 4 rfl (by decide) (by decide) (by decide) hk dX4_init_33 (fun H locs M1 f1_4 hm hS hN hk => ?_)
  refine lv_dup hx hb dX4_init_34 rfl ?_
  refine lv_iconst (v := 5) hx hb dX4_init_35 (by decide) ?_
  refine lv_ldc (v := 1508970993) hx hb hown (hts _ wk_X4_12) dX4_init_36 ?_
  refine hl_st EE hm hS hN kRound 5 rfl (by decide) (by decide) (by decide) hk dX4_init_38 (fun H locs M1 f1_5 hm hS hN hk => ?_)
  refine lv_dup hx hb dX4_init_39 rfl ?_
  refine lv_bipush (v := 6) hx hb dX4_init_40 (by decide) ?_
  refine lv_ldc (v := (-1841331548)) hx hb hown (hts _ wk_X4_13) dX4_init_42 ?_
  refine hl_st EE hm hS hN kRound 6 rfl (by decide) (by decide) (by decide) hk dX4_init_44 (fun H locs M1 f1_6 hm hS hN hk => ?_)
  refine lv_dup hx hb dX4_init_45 rfl ?_
  refine lv_bipush (v := 7) hx hb dX4_init_46 (by decide) ?_
  refine lv_ldc (v := (-1424204075)) hx hb hown (hts _ wk_X4_14) dX4_init_48 ?_
  refine hl_st EE hm hS hN kRound 7 rfl (by decide) (by decide) (by decide) hk dX4_init_50 (fun H locs M1 f1_7 hm hS hN hk => ?_)
  refine lv_dup hx hb dX4_init_51 rfl ?_
  refine lv_bipush (v := 8) hx hb dX4_init_52 (by decide) ?_
  refine lv_ldc (v := (-670586216)) hx hb hown (hts _ wk_X4_15) dX4_init_54 ?_
  refine hl_st EE hm hS hN kRound 8 rfl (by decide) (by decide) (by decide) hk dX4_init_56 (fun H locs M1 f1_8 hm hS hN hk => ?_)
  refine lv_dup hx hb dX4_init_57 rfl ?_
  refine lv_bipush (v := 9) hx hb dX4_init_58 (by decide) ?_
  refine lv_ldc (v := 310598401) hx hb hown (hts _ wk_X4_16) dX4_init_60 ?_
  refine hl_st EE hm hS hN kRound 9 rfl (by decide) (by decide) (by decide) hk dX4_init_62 (fun H locs M1 f1_9 hm hS hN hk => ?_)
  refine lv_dup hx hb dX4_init_63 rfl ?_
  refine lv_bipush (v := 10) hx hb dX4_init_64 (by decide) ?_
  refine lv_ldc (v := 607225278) hx hb hown (hts _ wk_X4_17) dX4_init_66 ?_
  refine hl_st EE hm hS hN kRound 10 rfl (by decide) (by decide) (by decide) hk dX4_init_68 (fun H locs M1 f1_10 hm hS hN hk => ?_)
  refine lv_dup hx hb dX4_init_69 rfl ?_
  refine lv_bipush (v := 11) hx hb dX4_init_70 (by decide) ?_
  refine lv_ldc (v := 1426881987) hx hb hown (hts _ wk_X4_18) dX4_init_72 ?_
  refine hl_st EE hm hS hN kRound 11 rfl (by decide) (by decide) (by decide) hk dX4_init_74 (fun H locs M1 f1_11 hm hS hN hk => ?_)
  refine lv_dup hx hb dX4_init_75 rfl ?_
  refine lv_bipush (v := 12) hx hb dX4_init_76 (by decide) ?_
  refine lv_ldc (v := 1925078388) hx hb hown (hts _ wk_X4_19) dX4_init_78 ?_
  refine hl_st EE hm hS hN kRound 12 rfl (by decide) (by decide) (by decide) hk dX4_init_80 (fun H locs M1 f1_12 hm hS hN hk => ?_)
  refine lv_dup hx hb dX4_init_81 rfl ?_
  refine lv_bipush (v := 13) hx hb dX4_init_82 (by decide) ?_
  refine lv_ldc (v := (-2132889090)) hx hb hown (hts _ wk_X4_20) dX4_init_84 ?_
  refine hl_st EE hm hS hN kRound 13 rfl (by decide) (by decide) (by decide) hk dX4_init_86 (fun H locs M1 f1_13 hm hS hN hk => ?_)
  refine lv_dup hx hb dX4_init_87 rfl ?_
  refine lv_bipush (v := 14) hx hb dX4_init_88 (by decide) ?_
  refine lv_ldc (v := (-1680079193)) hx hb hown (hts _ wk_X4_21) dX4_init_90 ?_
  refine hl_st EE hm hS hN kRound 14 rfl (by decide) (by decide) (by decide) hk dX4_init_92 (fun H locs M1 f1_14 hm hS hN hk => ?_)
  refine lv_dup hx hb dX4_init_93 rfl ?_
  refine lv_bipush (v := 15) hx hb dX4_init_94 (by decide) ?_
  refine lv_ldc (v := (-1046744716)) hx hb hown (hts _ wk_X4_22) dX4_init_96 ?_
  refine hl_st EE hm hS hN kRound 15 rfl (by decide) (by decide) (by decide) hk dX4_init_98 (fun H locs M1 f1_15 hm hS hN hk => ?_)
  refine lv_dup hx hb dX4_init_99 rfl ?_
  refine lv_bipush (v := 16) hx hb dX4_init_100 (by decide) ?_
  refine lv_ldc (v := (-459576895)) hx hb hown (hts _ wk_X4_23) dX4_init_102 ?_
  refine hl_st EE hm hS hN kRound 16 rfl (by decide) (by decide) (by decide) hk dX4_init_104 (fun H locs M1 f1_16 hm hS hN hk => ?_)
  refine lv_dup hx hb dX4_init_105 rfl ?_
  refine lv_bipush (v := 17) hx hb dX4_init_106 (by decide) ?_
  refine lv_ldc (v := (-272742522)) hx hb hown (hts _ wk_X4_24) dX4_init_108 ?_
  refine hl_st EE hm hS hN kRound 17 rfl (by decide) (by decide) (by decide) hk dX4_init_110 (fun H locs M1 f1_17 hm hS hN hk => ?_)
  refine lv_dup hx hb dX4_init_111 rfl ?_
  refine lv_bipush (v := 18) hx hb dX4_init_112 (by decide) ?_
  refine lv_ldc (v := 264347078) hx hb hown (hts _ wk_X4_25) dX4_init_114 ?_
  refine hl_st EE hm hS hN kRound 18 rfl (by decide) (by decide) (by decide) hk dX4_init_116 (fun H locs M1 f1_18 hm hS hN hk => ?_)
  refine lv_dup hx hb dX4_init_117 rfl ?_
  refine lv_bipush (v := 19) hx hb dX4_init_118 (by decide) ?_
  refine lv_ldc (v := 604807628) hx hb hown (hts _ wk_X4_26) dX4_init_120 ?_
  refine hl_st EE hm hS hN kRound 19 rfl (by decide) (by decide) (by decide) hk dX4_init_122 (fun H locs M1 f1_19 hm hS hN hk => ?_)
  refine lv_dup hx hb dX4_init_123 rfl ?_
  refine lv_bipush (v := 20) hx hb dX4_init_124 (by decide) ?_
  refine lv_ldc (v := 770255983) hx hb hown (hts _ wk_X4_27) dX4_init_126 ?_
  refine hl_st EE hm hS hN kRound 20 rfl (by decide) (by decide) (by decide) hk dX4_init_128 (fun H locs M1 f1_20 hm hS hN hk => ?_)
  refine lv_dup hx hb dX4_init_129 rfl ?_
  refine lv_bipush (v := 21) hx hb dX4_init_130 (by decide) ?_
  refine lv_ldc (v := 1249150122) hx hb hown (hts _ wk_X4_28) dX4_init_132 ?_
  refine hl_st EE hm hS hN kRound 21 rfl (by decide) (by decide) (by decide) hk dX4_init_134 (fun H locs M1 f1_21 hm hS hN hk => ?_)
  refine lv_dup hx hb dX4_init_135 rfl ?_
  refine lv_bipush (v := 22) hx hb dX4_init_136 (by decide) ?_
  refine lv_ldc (v := 1555081692) hx hb hown (hts _ wk_X4_29) dX4_init_138 ?_
  refine hl_st EE hm hS hN kRound 22 rfl (by decide) (by decide) (by decide) hk dX4_init_140 (fun H locs M1 f1_22 hm hS hN hk => ?_)
  refine lv_dup hx hb dX4_init_141 rfl ?_
  refine lv_bipush (v := 23) hx hb dX4_init_142 (by decide) ?_
  refine lv_ldc (v := 1996064986) hx hb hown (hts _ wk_X4_30) dX4_init_144 ?_
  refine hl_st EE hm hS hN kRound 23 rfl (by decide) (by decide) (by decide) hk dX4_init_146 (fun H locs M1 f1_23 hm hS hN hk => ?_)
  refine lv_dup hx hb dX4_init_147 rfl ?_
  refine lv_bipush (v := 24) hx hb dX4_init_148 (by decide) ?_
  refine lv_ldc (v := (-1740746414)) hx hb hown (hts _ wk_X4_31) dX4_init_150 ?_
  refine hl_st EE hm hS hN kRound 24 rfl (by decide) (by decide) (by decide) hk dX4_init_152 (fun H locs M1 f1_24 hm hS hN hk => ?_)
  refine lv_dup hx hb dX4_init_153 rfl ?_
  refine lv_bipush (v := 25) hx hb dX4_init_154 (by decide) ?_
  refine lv_ldc (v := (-1473132947)) hx hb hown (hts _ wk_X4_32) dX4_init_156 ?_
  refine hl_st EE hm hS hN kRound 25 rfl (by decide) (by decide) (by decide) hk dX4_init_158 (fun H locs M1 f1_25 hm hS hN hk => ?_)
  refine lv_dup hx hb dX4_init_159 rfl ?_
  refine lv_bipush (v := 26) hx hb dX4_init_160 (by decide) ?_
  refine lv_ldc (v := (-1341970488)) hx hb hown (hts _ wk_X4_33) dX4_init_162 ?_
  refine hl_st EE hm hS hN kRound 26 rfl (by decide) (by decide) (by decide) hk dX4_init_164 (fun H locs M1 f1_26 hm hS hN hk => ?_)
  refine lv_dup hx hb dX4_init_165 rfl ?_
  refine lv_bipush (v := 27) hx hb dX4_init_166 (by decide) ?_
  refine lv_ldc (v := (-1084653625)) hx hb hown (hts _ wk_X4_34) dX4_init_168 ?_
  refine hl_st EE hm hS hN kRound 27 rfl (by decide) (by decide) (by decide) hk dX4_init_170 (fun H locs M1 f1_27 hm hS hN hk => ?_)
  refine lv_dup hx hb dX4_init_171 rfl ?_
  refine lv_bipush (v := 28) hx hb dX4_init_172 (by decide) ?_
  refine lv_ldc (v := (-958395405)) hx hb hown (hts _ wk_X4_35) dX4_init_174 ?_
  refine hl_st EE hm hS hN kRound 28 rfl (by decide) (by decide) (by decide) hk dX4_init_176 (fun H locs M1 f1_28 hm hS hN hk => ?_)
  refine lv_dup hx hb dX4_init_177 rfl ?_
  refine lv_bipush (v := 29) hx hb dX4_init_178 (by decide) ?_
  refine lv_ldc (v := (-710438585)) hx hb hown (hts _ wk_X4_36) dX4_init_180 ?_
  refine hl_st EE hm hS hN kRound 29 rfl (by decide) (by decide) (by decide) hk dX4_init_182 (fun H locs M1 f1_29 hm hS hN hk => ?_)
  refine lv_dup hx hb dX4_init_183 rfl ?_
  refine lv_bipush (v := 30) hx hb dX4_init_184 (by decide) ?_
  refine lv_ldc (v := 113926993) hx hb hown (hts _ wk_X4_37) dX4_init_186 ?_
  refine hl_st EE hm hS hN kRound 30 rfl (by decide) (by decide) (by decide) hk dX4_init_188 (fun H locs M1 f1_30 hm hS hN hk => ?_)
  refine lv_dup hx hb dX4_init_189 rfl ?_
  refine lv_bipush (v := 31) hx hb dX4_init_190 (by decide) ?_
  refine lv_ldc (v := 338241895) hx hb hown (hts _ wk_X4_38) dX4_init_192 ?_
  refine hl_st EE hm hS hN kRound 31 rfl (by decide) (by decide) (by decide) hk dX4_init_194 (fun H locs M1 f1_31 hm hS hN hk => ?_)
  refine lv_dup hx hb dX4_init_195 rfl ?_
  refine lv_bipush (v := 32) hx hb dX4_init_196 (by decide) ?_
  refine lv_ldc (v := 666307205) hx hb hown (hts _ wk_X4_39) dX4_init_198 ?_
  refine hl_st EE hm hS hN kRound 32 rfl (by decide) (by decide) (by decide) hk dX4_init_200 (fun H locs M1 f1_32 hm hS hN hk => ?_)
  refine lv_dup hx hb dX4_init_201 rfl ?_
  refine lv_bipush (v := 33) hx hb dX4_init_202 (by decide) ?_
  refine lv_ldc (v := 773529912) hx hb hown (hts _ wk_X4_40) dX4_init_204 ?_
  refine hl_st EE hm hS hN kRound 33 rfl (by decide) (by decide) (by decide) hk dX4_init_206 (fun H locs M1 f1_33 hm hS hN hk => ?_)
  refine lv_dup hx hb dX4_init_207 rfl ?_
  refine lv_bipush (v := 34) hx hb dX4_init_208 (by decide) ?_
  refine lv_ldc (v := 1294757372) hx hb hown (hts _ wk_X4_41) dX4_init_210 ?_
  refine hl_st EE hm hS hN kRound 34 rfl (by decide) (by decide) (by decide) hk dX4_init_212 (fun H locs M1 f1_34 hm hS hN hk => ?_)
  refine lv_dup hx hb dX4_init_213 rfl ?_
  refine lv_bipush (v := 35) hx hb dX4_init_214 (by decide) ?_
  refine lv_ldc (v := 1396182291) hx hb hown (hts _ wk_X4_42) dX4_init_216 ?_
  refine hl_st EE hm hS hN kRound 35 rfl (by decide) (by decide) (by decide) hk dX4_init_218 (fun H locs M1 f1_35 hm hS hN hk => ?_)
  refine lv_dup hx hb dX4_init_219 rfl ?_
  refine lv_bipush (v := 36) hx hb dX4_init_220 (by decide) ?_
  refine lv_ldc (v := 1695183700) hx hb hown (hts _ wk_X4_43) dX4_init_222 ?_
  refine hl_st EE hm hS hN kRound 36 rfl (by decide) (by decide) (by decide) hk dX4_init_224 (fun H locs M1 f1_36 hm hS hN hk => ?_)
  refine lv_dup hx hb dX4_init_225 rfl ?_
  refine lv_bipush (v := 37) hx hb dX4_init_226 (by decide) ?_
  refine lv_ldc (v := 1986661051) hx hb hown (hts _ wk_X4_44) dX4_init_228 ?_
  refine hl_st EE hm hS hN kRound 37 rfl (by decide) (by decide) (by decide) hk dX4_init_230 (fun H locs M1 f1_37 hm hS hN hk => ?_)
  refine lv_dup hx hb dX4_init_231 rfl ?_
  refine lv_bipush (v := 38) hx hb dX4_init_232 (by decide) ?_
  refine lv_ldc (v := (-2117940946)) hx hb hown (hts _ wk_X4_45) dX4_init_234 ?_
  refine hl_st EE hm hS hN kRound 38 rfl (by decide) (by decide) (by decide) hk dX4_init_236 (fun H locs M1 f1_38 hm hS hN hk => ?_)
  refine lv_dup hx hb dX4_init_237 rfl ?_
  refine lv_bipush (v := 39) hx hb dX4_init_238 (by decide) ?_
  refine lv_ldc (v := (-1838011259)) hx hb hown (hts _ wk_X4_46) dX4_init_240 ?_
  refine hl_st EE hm hS hN kRound 39 rfl (by decide) (by decide) (by decide) hk dX4_init_242 (fun H locs M1 f1_39 hm hS hN hk => ?_)
  refine lv_dup hx hb dX4_init_243 rfl ?_
  refine lv_bipush (v := 40) hx hb dX4_init_244 (by decide) ?_
  refine lv_ldc (v := (-1564481375)) hx hb hown (hts _ wk_X4_47) dX4_init_246 ?_
  refine hl_st EE hm hS hN kRound 40 rfl (by decide) (by decide) (by decide) hk dX4_init_248 (fun H locs M1 f1_40 hm hS hN hk => ?_)
  refine lv_dup hx hb dX4_init_249 rfl ?_
  refine lv_bipush (v := 41) hx hb dX4_init_250 (by decide) ?_
  refine lv_ldc (v := (-1474664885)) hx hb hown (hts _ wk_X4_48) dX4_init_252 ?_
  refine hl_st EE hm hS hN kRound 41 rfl (by decide) (by decide) (by decide) hk dX4_init_254 (fun H locs M1 f1_41 hm hS hN hk => ?_)
  refine lv_dup hx hb dX4_init_255 rfl ?_
  refine lv_bipush (v := 42) hx hb dX4_init_256 (by decide) ?_
  refine lv_ldc (v := (-1035236496)) hx hb hown (hts _ wk_X4_49) dX4_init_258 ?_
  refine hl_st EE hm hS hN kRound 42 rfl (by decide) (by decide) (by decide) hk dX4_init_260 (fun H locs M1 f1_42 hm hS hN hk => ?_)
  refine lv_dup hx hb dX4_init_261 rfl ?_
  refine lv_bipush (v := 43) hx hb dX4_init_262 (by decide) ?_
  refine lv_ldc (v := (-949202525)) hx hb hown (hts _ wk_X4_50) dX4_init_264 ?_
  refine hl_st EE hm hS hN kRound 43 rfl (by decide) (by decide) (by decide) hk dX4_init_266 (fun H locs M1 f1_43 hm hS hN hk => ?_)
  refine lv_dup hx hb dX4_init_267 rfl ?_
  refine lv_bipush (v := 44) hx hb dX4_init_268 (by decide) ?_
  refine lv_ldc (v := (-778901479)) hx hb hown (hts _ wk_X4_51) dX4_init_270 ?_
  refine hl_st EE hm hS hN kRound 44 rfl (by decide) (by decide) (by decide) hk dX4_init_272 (fun H locs M1 f1_44 hm hS hN hk => ?_)
  refine lv_dup hx hb dX4_init_273 rfl ?_
  refine lv_bipush (v := 45) hx hb dX4_init_274 (by decide) ?_
  refine lv_ldc (v := (-694614492)) hx hb hown (hts _ wk_X4_52) dX4_init_276 ?_
  refine hl_st EE hm hS hN kRound 45 rfl (by decide) (by decide) (by decide) hk dX4_init_278 (fun H locs M1 f1_45 hm hS hN hk => ?_)
  refine lv_dup hx hb dX4_init_279 rfl ?_
  refine lv_bipush (v := 46) hx hb dX4_init_280 (by decide) ?_
  refine lv_ldc (v := (-200395387)) hx hb hown (hts _ wk_X4_53) dX4_init_282 ?_
  refine hl_st EE hm hS hN kRound 46 rfl (by decide) (by decide) (by decide) hk dX4_init_284 (fun H locs M1 f1_46 hm hS hN hk => ?_)
  refine lv_dup hx hb dX4_init_285 rfl ?_
  refine lv_bipush (v := 47) hx hb dX4_init_286 (by decide) ?_
  refine lv_ldc (v := 275423344) hx hb hown (hts _ wk_X4_54) dX4_init_288 ?_
  refine hl_st EE hm hS hN kRound 47 rfl (by decide) (by decide) (by decide) hk dX4_init_290 (fun H locs M1 f1_47 hm hS hN hk => ?_)
  refine lv_dup hx hb dX4_init_291 rfl ?_
  refine lv_bipush (v := 48) hx hb dX4_init_292 (by decide) ?_
  refine lv_ldc (v := 430227734) hx hb hown (hts _ wk_X4_55) dX4_init_294 ?_
  refine hl_st EE hm hS hN kRound 48 rfl (by decide) (by decide) (by decide) hk dX4_init_296 (fun H locs M1 f1_48 hm hS hN hk => ?_)
  refine lv_dup hx hb dX4_init_297 rfl ?_
  refine lv_bipush (v := 49) hx hb dX4_init_298 (by decide) ?_
  refine lv_ldc (v := 506948616) hx hb hown (hts _ wk_X4_56) dX4_init_300 ?_
  refine hl_st EE hm hS hN kRound 49 rfl (by decide) (by decide) (by decide) hk dX4_init_302 (fun H locs M1 f1_49 hm hS hN hk => ?_)
  refine lv_dup hx hb dX4_init_303 rfl ?_
  refine lv_bipush (v := 50) hx hb dX4_init_304 (by decide) ?_
  refine lv_ldc (v := 659060556) hx hb hown (hts _ wk_X4_57) dX4_init_306 ?_
  refine hl_st EE hm hS hN kRound 50 rfl (by decide) (by decide) (by decide) hk dX4_init_308 (fun H locs M1 f1_50 hm hS hN hk => ?_)
  refine lv_dup hx hb dX4_init_309 rfl ?_
  refine lv_bipush (v := 51) hx hb dX4_init_310 (by decide) ?_
  refine lv_ldc (v := 883997877) hx hb hown (hts _ wk_X4_58) dX4_init_312 ?_
  refine hl_st EE hm hS hN kRound 51 rfl (by decide) (by decide) (by decide) hk dX4_init_314 (fun H locs M1 f1_51 hm hS hN hk => ?_)
  refine lv_dup hx hb dX4_init_315 rfl ?_
  refine lv_bipush (v := 52) hx hb dX4_init_316 (by decide) ?_
  refine lv_ldc (v := 958139571) hx hb hown (hts _ wk_X4_59) dX4_init_318 ?_
  refine hl_st EE hm hS hN kRound 52 rfl (by decide) (by decide) (by decide) hk dX4_init_320 (fun H locs M1 f1_52 hm hS hN hk => ?_)
  refine lv_dup hx hb dX4_init_321 rfl ?_
  refine lv_bipush (v := 53) hx hb dX4_init_322 (by decide) ?_
  refine lv_ldc (v := 1322822218) hx hb hown (hts _ wk_X4_60) dX4_init_324 ?_
  refine hl_st EE hm hS hN kRound 53 rfl (by decide) (by decide) (by decide) hk dX4_init_326 (fun H locs M1 f1_53 hm hS hN hk => ?_)
  refine lv_dup hx hb dX4_init_327 rfl ?_
  refine lv_bipush (v := 54) hx hb dX4_init_328 (by decide) ?_
  refine lv_ldc (v := 1537002063) hx hb hown (hts _ wk_X4_61) dX4_init_330 ?_
  refine hl_st EE hm hS hN kRound 54 rfl (by decide) (by decide) (by decide) hk dX4_init_332 (fun H locs M1 f1_54 hm hS hN hk => ?_)
  refine lv_dup hx hb dX4_init_333 rfl ?_
  refine lv_bipush (v := 55) hx hb dX4_init_334 (by decide) ?_
  refine lv_ldc (v := 1747873779) hx hb hown (hts _ wk_X4_62) dX4_init_336 ?_
  refine hl_st EE hm hS hN kRound 55 rfl (by decide) (by decide) (by decide) hk dX4_init_338 (fun H locs M1 f1_55 hm hS hN hk => ?_)
  refine lv_dup hx hb dX4_init_339 rfl ?_
  refine lv_bipush (v := 56) hx hb dX4_init_340 (by decide) ?_
  refine lv_ldc (v := 1955562222) hx hb hown (hts _ wk_X4_63) dX4_init_342 ?_
  refine hl_st EE hm hS hN kRound 56 rfl (by decide) (by decide) (by decide) hk dX4_init_344 (fun H locs M1 f1_56 hm hS hN hk => ?_)
  refine lv_dup hx hb dX4_init_345 rfl ?_
  refine lv_bipush (v := 57) hx hb dX4_init_346 (by decide) ?_
  refine lv_ldc (v := 2024104815) hx hb hown (hts _ wk_X4_64) dX4_init_348 ?_
  refine hl_st EE hm hS hN kRound 57 rfl (by decide) (by decide) (by decide) hk dX4_init_350 (fun H locs M1 f1_57 hm hS hN hk => ?_)
  refine lv_dup hx hb dX4_init_351 rfl ?_
  refine lv_bipush (v := 58) hx hb dX4_init_352 (by decide) ?_
  refine lv_ldc (v := (-2067236844)) hx hb hown (hts _ wk_X4_65) dX4_init_354 ?_
  refine hl_st EE hm hS hN kRound 58 rfl (by decide) (by decide) (by decide) hk dX4_init_356 (fun H locs M1 f1_58 hm hS hN hk => ?_)
  refine lv_dup hx hb dX4_init_357 rfl ?_
  refine lv_bipush (v := 59) hx hb dX4_init_358 (by decide) ?_
  refine lv_ldc (v := (-1933114872)) hx hb hown (hts _ wk_X4_66) dX4_init_360 ?_
  refine hl_st EE hm hS hN kRound 59 rfl (by decide) (by decide) (by decide) hk dX4_init_362 (fun H locs M1 f1_59 hm hS hN hk => ?_)
  refine lv_dup hx hb dX4_init_363 rfl ?_
  refine lv_bipush (v := 60) hx hb dX4_init_364 (by decide) ?_
  refine lv_ldc (v := (-1866530822)) hx hb hown (hts _ wk_X4_67) dX4_init_366 ?_
  refine hl_st EE hm hS hN kRound 60 rfl (by decide) (by decide) (by decide) hk dX4_init_368 (fun H locs M1 f1_60 hm hS hN hk => ?_)
  refine lv_dup hx hb dX4_init_369 rfl ?_
  refine lv_bipush (v := 61) hx hb dX4_init_370 (by decide) ?_
  refine lv_ldc (v := (-1538233109)) hx hb hown (hts _ wk_X4_68) dX4_init_372 ?_
  refine hl_st EE hm hS hN kRound 61 rfl (by decide) (by decide) (by decide) hk dX4_init_374 (fun H locs M1 f1_61 hm hS hN hk => ?_)
  refine lv_dup hx hb dX4_init_375 rfl ?_
  refine lv_bipush (v := 62) hx hb dX4_init_376 (by decide) ?_
  refine lv_ldc (v := (-1090935817)) hx hb hown (hts _ wk_X4_69) dX4_init_378 ?_
  refine hl_st EE hm hS hN kRound 62 rfl (by decide) (by decide) (by decide) hk dX4_init_380 (fun H locs M1 f1_62 hm hS hN hk => ?_)
  refine lv_dup hx hb dX4_init_381 rfl ?_
  refine lv_bipush (v := 63) hx hb dX4_init_382 (by decide) ?_
  refine lv_ldc (v := (-965641998)) hx hb hown (hts _ wk_X4_70) dX4_init_384 ?_
  refine hl_st EE hm hS hN kRound 63 rfl (by decide) (by decide) (by decide) hk dX4_init_386 (fun H locs M1 f1_63 hm hS hN hk => ?_)
  refine hl_pf EE hm hS hN (fs1 := [.ref q1, .null, .null, .null, .null, .null, .int 0, .int 0, .null, .null, .null, .null, .null, .null, .null, .int 0, .null, .null, .null, .int 0, .null, .int 0, .int 0, .int 0]) 0 (by decide) wf_X4_71 rfl hnm rfl (by decide +kernel) (Nat.le_of_ble_eq_true rfl) dX4_init_387 rfl (fun H locs M1 hm hS hN => ?_)
  have hk0 := hk
  refine lv_aload_n hx hb dX4_init_390 rfl (lv_at hl 0 rfl) ?_
  refine lv_bipush (v := 8) hx hb dX4_init_391 (by decide) ?_
  refine hl_na EE hm hS hN 8 (by decide) (by decide) (by decide) (Nat.le_of_ble_eq_true rfl) (Nat.le_of_ble_eq_true rfl) dX4_init_393 (fun q2 H M1 hm hS hN => ?_)
  have hk : ∀ j, j < 0 → (fun _ => (0 : Int32)) j = kStart j := fun j h => absurd h (Nat.not_lt_zero j)
  refine lv_dup hx hb dX4_init_395 rfl ?_
  refine lv_iconst (v := 0) hx hb dX4_init_396 (by decide) ?_
  refine lv_ldc (v := 1779033703) hx hb hown (hts _ wk_X4_77) dX4_init_397 ?_
  refine hl_st EE hm hS hN kStart 0 rfl (by decide) (by decide) (by decide) hk dX4_init_399 (fun H locs M1 f2_0 hm hS hN hk => ?_)
  refine lv_dup hx hb dX4_init_400 rfl ?_
  refine lv_iconst (v := 1) hx hb dX4_init_401 (by decide) ?_
  refine lv_ldc (v := (-1150833019)) hx hb hown (hts _ wk_X4_78) dX4_init_402 ?_
  refine hl_st EE hm hS hN kStart 1 rfl (by decide) (by decide) (by decide) hk dX4_init_404 (fun H locs M1 f2_1 hm hS hN hk => ?_)
  refine lv_dup hx hb dX4_init_405 rfl ?_
  refine lv_iconst (v := 2) hx hb dX4_init_406 (by decide) ?_
  refine lv_ldc (v := 1013904242) hx hb hown (hts _ wk_X4_79) dX4_init_407 ?_
  refine hl_st EE hm hS hN kStart 2 rfl (by decide) (by decide) (by decide) hk dX4_init_409 (fun H locs M1 f2_2 hm hS hN hk => ?_)
  refine lv_dup hx hb dX4_init_410 rfl ?_
  refine lv_iconst (v := 3) hx hb dX4_init_411 (by decide) ?_
  refine lv_ldc (v := (-1521486534)) hx hb hown (hts _ wk_X4_80) dX4_init_412 ?_
  refine hl_st EE hm hS hN kStart 3 rfl (by decide) (by decide) (by decide) hk dX4_init_414 (fun H locs M1 f2_3 hm hS hN hk => ?_)
  refine lv_dup hx hb dX4_init_415 rfl ?_
  refine lv_iconst (v := 4) hx hb dX4_init_416 (by decide) ?_
  refine lv_ldc (v := 1359893119) hx hb hown (hts _ wk_X4_81) dX4_init_417 ?_
  refine hl_st EE hm hS hN kStart 4 rfl (by decide) (by decide) (by decide) hk dX4_init_419 (fun H locs M1 f2_4 hm hS hN hk => ?_)
  refine lv_dup hx hb dX4_init_420 rfl ?_
  refine lv_iconst (v := 5) hx hb dX4_init_421 (by decide) ?_
  refine lv_ldc (v := (-1694144372)) hx hb hown (hts _ wk_X4_82) dX4_init_422 ?_
  refine hl_st EE hm hS hN kStart 5 rfl (by decide) (by decide) (by decide) hk dX4_init_424 (fun H locs M1 f2_5 hm hS hN hk => ?_)
  refine lv_dup hx hb dX4_init_425 rfl ?_
  refine lv_bipush (v := 6) hx hb dX4_init_426 (by decide) ?_
  refine lv_ldc (v := 528734635) hx hb hown (hts _ wk_X4_83) dX4_init_428 ?_
  refine hl_st EE hm hS hN kStart 6 rfl (by decide) (by decide) (by decide) hk dX4_init_430 (fun H locs M1 f2_6 hm hS hN hk => ?_)
  refine lv_dup hx hb dX4_init_431 rfl ?_
  refine lv_bipush (v := 7) hx hb dX4_init_432 (by decide) ?_
  refine lv_ldc (v := 1541459225) hx hb hown (hts _ wk_X4_84) dX4_init_434 ?_
  refine hl_st EE hm hS hN kStart 7 rfl (by decide) (by decide) (by decide) hk dX4_init_436 (fun H locs M1 f2_7 hm hS hN hk => ?_)
  refine hl_pf EE hm hS hN (fs1 := [.ref q1, .ref q2, .null, .null, .null, .null, .int 0, .int 0, .null, .null, .null, .null, .null, .null, .null, .int 0, .null, .null, .null, .int 0, .null, .int 0, .int 0, .int 0]) 1 (by decide) wf_X4_85 rfl hnm rfl (by decide +kernel) (Nat.le_of_ble_eq_true rfl) dX4_init_437 rfl (fun H locs M1 hm hS hN => ?_)
  have hk1 := hk
  refine lv_aload_n hx hb dX4_init_440 rfl (lv_at hl 0 rfl) ?_
  refine lv_sipush (v := 18300) hx hb dX4_init_441 (by decide) ?_
  refine hl_na EE hm hS hN 18300 (by decide) (by decide) (by decide) (Nat.le_of_ble_eq_true rfl) (Nat.le_of_ble_eq_true rfl) dX4_init_444 (fun q3 H M1 hm hS hN => ?_)
  refine hl_pf EE hm hS hN (fs1 := [.ref q1, .ref q2, .ref q3, .null, .null, .null, .int 0, .int 0, .null, .null, .null, .null, .null, .null, .null, .int 0, .null, .null, .null, .int 0, .null, .int 0, .int 0, .int 0]) 2 (by decide) wf_X4_88 rfl hnm rfl (by decide +kernel) (Nat.le_of_ble_eq_true rfl) dX4_init_446 rfl (fun H locs M1 hm hS hN => ?_)
  refine lv_aload_n hx hb dX4_init_449 rfl (lv_at hl 0 rfl) ?_
  refine lv_sipush (v := 18300) hx hb dX4_init_450 (by decide) ?_
  refine hl_na EE hm hS hN 18300 (by decide) (by decide) (by decide) (Nat.le_of_ble_eq_true rfl) (Nat.le_of_ble_eq_true rfl) dX4_init_453 (fun q4 H M1 hm hS hN => ?_)
  refine hl_pf EE hm hS hN (fs1 := [.ref q1, .ref q2, .ref q3, .ref q4, .null, .null, .int 0, .int 0, .null, .null, .null, .null, .null, .null, .null, .int 0, .null, .null, .null, .int 0, .null, .int 0, .int 0, .int 0]) 3 (by decide) wf_X4_91 rfl hnm rfl (by decide +kernel) (Nat.le_of_ble_eq_true rfl) dX4_init_455 rfl (fun H locs M1 hm hS hN => ?_)
  refine lv_aload_n hx hb dX4_init_458 rfl (lv_at hl 0 rfl) ?_
  refine lv_bipush (v := 61) hx hb dX4_init_459 (by decide) ?_
  refine hl_na EE hm hS hN 61 (by decide) (by decide) (by decide) (Nat.le_of_ble_eq_true rfl) (Nat.le_of_ble_eq_true rfl) dX4_init_461 (fun q5 H M1 hm hS hN => ?_)
  refine hl_pf EE hm hS hN (fs1 := [.ref q1, .ref q2, .ref q3, .ref q4, .ref q5, .null, .int 0, .int 0, .null, .null, .null, .null, .null, .null, .null, .int 0, .null, .null, .null, .int 0, .null, .int 0, .int 0, .int 0]) 4 (by decide) wf_X4_94 rfl hnm rfl (by decide +kernel) (Nat.le_of_ble_eq_true rfl) dX4_init_463 rfl (fun H locs M1 hm hS hN => ?_)
  refine lv_aload_n hx hb dX4_init_466 rfl (lv_at hl 0 rfl) ?_
  refine lv_sipush (v := 488) hx hb dX4_init_467 (by decide) ?_
  refine hl_na EE hm hS hN 488 (by decide) (by decide) (by decide) (Nat.le_of_ble_eq_true rfl) (Nat.le_of_ble_eq_true rfl) dX4_init_470 (fun q6 H M1 hm hS hN => ?_)
  refine hl_pf EE hm hS hN (fs1 := [.ref q1, .ref q2, .ref q3, .ref q4, .ref q5, .ref q6, .int 0, .int 0, .null, .null, .null, .null, .null, .null, .null, .int 0, .null, .null, .null, .int 0, .null, .int 0, .int 0, .int 0]) 5 (by decide) wf_X4_97 rfl hnm rfl (by decide +kernel) (Nat.le_of_ble_eq_true rfl) dX4_init_472 rfl (fun H locs M1 hm hS hN => ?_)
  refine lv_aload_n hx hb dX4_init_475 rfl (lv_at hl 0 rfl) ?_
  refine lv_sipush (v := 128) hx hb dX4_init_476 (by decide) ?_
  refine hl_na EE hm hS hN 128 (by decide) (by decide) (by decide) (Nat.le_of_ble_eq_true rfl) (Nat.le_of_ble_eq_true rfl) dX4_init_479 (fun q7 H M1 hm hS hN => ?_)
  refine hl_pf EE hm hS hN (fs1 := [.ref q1, .ref q2, .ref q3, .ref q4, .ref q5, .ref q6, .int 0, .int 0, .ref q7, .null, .null, .null, .null, .null, .null, .int 0, .null, .null, .null, .int 0, .null, .int 0, .int 0, .int 0]) 8 (by decide) wf_X4_100 rfl hnm rfl (by decide +kernel) (Nat.le_of_ble_eq_true rfl) dX4_init_481 rfl (fun H locs M1 hm hS hN => ?_)
  refine lv_aload_n hx hb dX4_init_484 rfl (lv_at hl 0 rfl) ?_
  refine lv_bipush (v := 64) hx hb dX4_init_485 (by decide) ?_
  refine hl_na EE hm hS hN 64 (by decide) (by decide) (by decide) (Nat.le_of_ble_eq_true rfl) (Nat.le_of_ble_eq_true rfl) dX4_init_487 (fun q8 H M1 hm hS hN => ?_)
  refine hl_pf EE hm hS hN (fs1 := [.ref q1, .ref q2, .ref q3, .ref q4, .ref q5, .ref q6, .int 0, .int 0, .ref q7, .ref q8, .null, .null, .null, .null, .null, .int 0, .null, .null, .null, .int 0, .null, .int 0, .int 0, .int 0]) 9 (by decide) wf_X4_103 rfl hnm rfl (by decide +kernel) (Nat.le_of_ble_eq_true rfl) dX4_init_489 rfl (fun H locs M1 hm hS hN => ?_)
  refine lv_aload_n hx hb dX4_init_492 rfl (lv_at hl 0 rfl) ?_
  refine lv_bipush (v := 8) hx hb dX4_init_493 (by decide) ?_
  refine hl_na EE hm hS hN 8 (by decide) (by decide) (by decide) (Nat.le_of_ble_eq_true rfl) (Nat.le_of_ble_eq_true rfl) dX4_init_495 (fun q9 H M1 hm hS hN => ?_)
  refine hl_pf EE hm hS hN (fs1 := [.ref q1, .ref q2, .ref q3, .ref q4, .ref q5, .ref q6, .int 0, .int 0, .ref q7, .ref q8, .ref q9, .null, .null, .null, .null, .int 0, .null, .null, .null, .int 0, .null, .int 0, .int 0, .int 0]) 10 (by decide) wf_X4_106 rfl hnm rfl (by decide +kernel) (Nat.le_of_ble_eq_true rfl) dX4_init_497 rfl (fun H locs M1 hm hS hN => ?_)
  refine lv_aload_n hx hb dX4_init_500 rfl (lv_at hl 0 rfl) ?_
  refine lv_sipush (v := 300) hx hb dX4_init_501 (by decide) ?_
  refine hl_na EE hm hS hN 300 (by decide) (by decide) (by decide) (Nat.le_of_ble_eq_true rfl) (Nat.le_of_ble_eq_true rfl) dX4_init_504 (fun q10 H M1 hm hS hN => ?_)
  refine hl_pf EE hm hS hN (fs1 := [.ref q1, .ref q2, .ref q3, .ref q4, .ref q5, .ref q6, .int 0, .int 0, .ref q7, .ref q8, .ref q9, .ref q10, .null, .null, .null, .int 0, .null, .null, .null, .int 0, .null, .int 0, .int 0, .int 0]) 11 (by decide) wf_X4_109 rfl hnm rfl (by decide +kernel) (Nat.le_of_ble_eq_true rfl) dX4_init_506 rfl (fun H locs M1 hm hS hN => ?_)
  refine lv_aload_n hx hb dX4_init_509 rfl (lv_at hl 0 rfl) ?_
  refine lv_sipush (v := 300) hx hb dX4_init_510 (by decide) ?_
  refine hl_na EE hm hS hN 300 (by decide) (by decide) (by decide) (Nat.le_of_ble_eq_true rfl) (Nat.le_of_ble_eq_true rfl) dX4_init_513 (fun q11 H M1 hm hS hN => ?_)
  refine hl_pf EE hm hS hN (fs1 := [.ref q1, .ref q2, .ref q3, .ref q4, .ref q5, .ref q6, .int 0, .int 0, .ref q7, .ref q8, .ref q9, .ref q10, .ref q11, .null, .null, .int 0, .null, .null, .null, .int 0, .null, .int 0, .int 0, .int 0]) 12 (by decide) wf_X4_112 rfl hnm rfl (by decide +kernel) (Nat.le_of_ble_eq_true rfl) dX4_init_515 rfl (fun H locs M1 hm hS hN => ?_)
  refine lv_aload_n hx hb dX4_init_518 rfl (lv_at hl 0 rfl) ?_
  refine lv_sipush (v := 300) hx hb dX4_init_519 (by decide) ?_
  refine hl_na EE hm hS hN 300 (by decide) (by decide) (by decide) (Nat.le_of_ble_eq_true rfl) (Nat.le_of_ble_eq_true rfl) dX4_init_522 (fun q12 H M1 hm hS hN => ?_)
  refine hl_pf EE hm hS hN (fs1 := [.ref q1, .ref q2, .ref q3, .ref q4, .ref q5, .ref q6, .int 0, .int 0, .ref q7, .ref q8, .ref q9, .ref q10, .ref q11, .ref q12, .null, .int 0, .null, .null, .null, .int 0, .null, .int 0, .int 0, .int 0]) 13 (by decide) wf_X4_115 rfl hnm rfl (by decide +kernel) (Nat.le_of_ble_eq_true rfl) dX4_init_524 rfl (fun H locs M1 hm hS hN => ?_)
  refine lv_aload_n hx hb dX4_init_527 rfl (lv_at hl 0 rfl) ?_
  refine lv_sipush (v := 2400) hx hb dX4_init_528 (by decide) ?_
  refine hl_na EE hm hS hN 2400 (by decide) (by decide) (by decide) (Nat.le_of_ble_eq_true rfl) (Nat.le_of_ble_eq_true rfl) dX4_init_531 (fun q13 H M1 hm hS hN => ?_)
  refine hl_pf EE hm hS hN (fs1 := [.ref q1, .ref q2, .ref q3, .ref q4, .ref q5, .ref q6, .int 0, .int 0, .ref q7, .ref q8, .ref q9, .ref q10, .ref q11, .ref q12, .ref q13, .int 0, .null, .null, .null, .int 0, .null, .int 0, .int 0, .int 0]) 14 (by decide) wf_X4_118 rfl hnm rfl (by decide +kernel) (Nat.le_of_ble_eq_true rfl) dX4_init_533 rfl (fun H locs M1 hm hS hN => ?_)
  refine lv_aload_n hx hb dX4_init_536 rfl (lv_at hl 0 rfl) ?_
  refine lv_bipush (v := 17) hx hb dX4_init_537 (by decide) ?_
  refine hl_na EE hm hS hN 17 (by decide) (by decide) (by decide) (Nat.le_of_ble_eq_true rfl) (Nat.le_of_ble_eq_true rfl) dX4_init_539 (fun q14 H M1 hm hS hN => ?_)
  refine hl_pf EE hm hS hN (fs1 := [.ref q1, .ref q2, .ref q3, .ref q4, .ref q5, .ref q6, .int 0, .int 0, .ref q7, .ref q8, .ref q9, .ref q10, .ref q11, .ref q12, .ref q13, .int 0, .ref q14, .null, .null, .int 0, .null, .int 0, .int 0, .int 0]) 16 (by decide) wf_X4_121 rfl hnm rfl (by decide +kernel) (Nat.le_of_ble_eq_true rfl) dX4_init_541 rfl (fun H locs M1 hm hS hN => ?_)
  refine lv_aload_n hx hb dX4_init_544 rfl (lv_at hl 0 rfl) ?_
  refine lv_bipush (v := 17) hx hb dX4_init_545 (by decide) ?_
  refine hl_na EE hm hS hN 17 (by decide) (by decide) (by decide) (Nat.le_of_ble_eq_true rfl) (Nat.le_of_ble_eq_true rfl) dX4_init_547 (fun q15 H M1 hm hS hN => ?_)
  refine hl_pf EE hm hS hN (fs1 := [.ref q1, .ref q2, .ref q3, .ref q4, .ref q5, .ref q6, .int 0, .int 0, .ref q7, .ref q8, .ref q9, .ref q10, .ref q11, .ref q12, .ref q13, .int 0, .ref q14, .ref q15, .null, .int 0, .null, .int 0, .int 0, .int 0]) 17 (by decide) wf_X4_124 rfl hnm rfl (by decide +kernel) (Nat.le_of_ble_eq_true rfl) dX4_init_549 rfl (fun H locs M1 hm hS hN => ?_)
  refine lv_aload_n hx hb dX4_init_552 rfl (lv_at hl 0 rfl) ?_
  refine lv_sipush (v := 136) hx hb dX4_init_553 (by decide) ?_
  refine hl_na EE hm hS hN 136 (by decide) (by decide) (by decide) (Nat.le_of_ble_eq_true rfl) (Nat.le_of_ble_eq_true rfl) dX4_init_556 (fun q16 H M1 hm hS hN => ?_)
  refine hl_pf EE hm hS hN (fs1 := [.ref q1, .ref q2, .ref q3, .ref q4, .ref q5, .ref q6, .int 0, .int 0, .ref q7, .ref q8, .ref q9, .ref q10, .ref q11, .ref q12, .ref q13, .int 0, .ref q14, .ref q15, .ref q16, .int 0, .null, .int 0, .int 0, .int 0]) 18 (by decide) wf_X4_127 rfl hnm rfl (by decide +kernel) (Nat.le_of_ble_eq_true rfl) dX4_init_558 rfl (fun H locs M1 hm hS hN => ?_)
  refine lv_aload_n hx hb dX4_init_561 rfl (lv_at hl 0 rfl) ?_
  refine lv_sipush (v := 128) hx hb dX4_init_562 (by decide) ?_
  refine hl_na EE hm hS hN 128 (by decide) (by decide) (by decide) (Nat.le_of_ble_eq_true rfl) (Nat.le_of_ble_eq_true rfl) dX4_init_565 (fun q17 H M1 hm hS hN => ?_)
  refine hl_pf EE hm hS hN (fs1 := [.ref q1, .ref q2, .ref q3, .ref q4, .ref q5, .ref q6, .int 0, .int 0, .ref q7, .ref q8, .ref q9, .ref q10, .ref q11, .ref q12, .ref q13, .int 0, .ref q14, .ref q15, .ref q16, .int 0, .ref q17, .int 0, .int 0, .int 0]) 20 (by decide) wf_X4_130 rfl hnm rfl (by decide +kernel) (Nat.le_of_ble_eq_true rfl) dX4_init_567 rfl (fun H locs M1 hm hS hN => ?_)
  have hRS := hN.RS rfl (by intro k hk; simp only [AR, List.mem_cons, List.mem_nil_iff, or_false] at hk; rcases hk with rfl | rfl | rfl | rfl | rfl | rfl | rfl | rfl | rfl | rfl | rfl | rfl | rfl | rfl | rfl | rfl | rfl <;> rfl) rfl
  have hfin := hN.fr rfl
  exact ret dX4_init_570 hm hS (Nat.le_of_ble_eq_true rfl) (Nat.le_of_ble_eq_true rfl) ⟨_, _, _, ⟨hRS, sOK_0, hk0, hk1, rfl, (fun j hj => absurd hj (Nat.not_lt_zero j)), ⟨rfl, fun j hj => absurd hj (Nat.not_lt_zero j)⟩, (fun j hj => absurd hj (Nat.not_lt_zero j)), ⟨false, rfl, fun h => by cases h⟩, rfl, rfl, rfl, rfl, fun i hi => absurd hi (Nat.not_lt_zero i)⟩, hfin⟩
