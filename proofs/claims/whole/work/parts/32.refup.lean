theorem LVL_new {S S9 : Nat → Nat → Int32} {s base nn p : Nat} {P : List En} {w : En} {T : List En} (hP : LVL S (s + 1) 0 base P) (hpl : P.length ≤ nn) (hT : LVL S s nn p T) (hA : ∀ q, q ≠ P.length → S9 11 q = S 11 q ∧ S9 12 q = S 12 q ∧ S9 13 q = S 13 q ∧ ∀ j, j < 8 → S9 14 (8 * q + j) = S 14 (8 * q + j)) (hlt : P.length < nn) (h11 : S9 11 P.length = nI (pfx (s + 1) w)) (h12 : S9 12 P.length = nI w.length) (h13 : S9 13 P.length = nI (base + P.flatten.length)) (h14 : ∀ j, j < 8 → S9 14 (8 * P.length + j) = dgF (s + 1) w j) : LVL S9 (s + 1) 0 base (P ++ [w]) ∧ LVL S9 s nn p T := by
  refine ⟨(LVL_app _ _ _ _ _ _).mpr ⟨LVL_fr _ _ _ (fun q h1 h2 => hA q (by omega)) hP, ?_, trivial⟩, LVL_fr _ _ _ (fun q h1 h2 => hA q (by omega)) hT⟩
  rw [Nat.zero_add]
  exact ⟨h11, h12, h13, h14⟩
theorem and1_n {p : Nat} (hp : p < 2 ^ 31) : nI p &&& 1 = nI (p % 2) := pk_andN (m := 1) (by omega) 1 (by decide)
theorem sh1_n {p : Nat} (hp : p < 2 ^ 31) : nI p >>> ((1 : Int32) &&& 31) = nI (p / 2) := by
  have := sshr_n (k := p) (n := 1) hp (by decide)
  rw [Nat.pow_one] at this
  exact this
set_option maxHeartbeats 4000000 in
set_option maxRecDepth 100000 in
theorem c_X4_up (l : Launch) (g : hG) (M : hM) (y : Nat) (ad : Nat → Nat) (S : Nat → Nat → Int32) (V : Nat → Int32) (hRs : RS g M y ad S V) (hk0 : ∀ j, j < 64 → S 0 j = kRound j) (hk1 : ∀ j, j < 8 → S 1 j = kStart j) (s0 base : Nat) (G : List En) (hg2 : ∀ x ∈ G, x ≠ [] ∧ ∀ z ∈ x, z.1 / 2 ^ s0 = pfx s0 x) (hg3 : G.Pairwise (fun a b => pfx s0 a < pfx s0 b)) (hpb : ∀ x ∈ G, pfx s0 x < 65536) (hxl : ∀ x ∈ G, x.length ≤ 300) (hlv : LVL S s0 0 base G) (hgl : G.length ≤ 300) (hv15 : V 15 = nI G.length) : Cv l g yX4_up cX4_up 6 5 0 0 [.ref y] M (fun M9 => ∃ S9 V9, RS g M9 y ad S9 V9 ∧ (∀ q, ¬ rO y ad q → M9 q = M q) ∧ (∀ k9, (k9 < 8 ∨ 14 < k9) → S9 k9 = S k9) ∧ V9 = vU V 15 (nI (mrg s0 G).length) ∧ LVL S9 (s0 + 1) 0 base (mrg s0 G)) := by
  have hpB : ∀ x ∈ G, pfx s0 x < 65536 := hpb
  refine hp_startV (by decide) (by exact Nat.le_of_ble_eq_true rfl) ?_
  intro p e s m below meth c Q H locs ls EE hnm ret hm hS hl
  have hx := EE.1
  have hb := EE.2.1
  have hown := EE.2.2.2.1
  have hts := EE.2.2.2.2.1
  have hl : lv_has ls 6 [(0, .ref y)] := hl
  have hF : ∀ q, ¬ rO y ad q → M q = M q := fun _ _ => rfl
  refine lv_iconst (v := 0) hx hb dX4_up_0 (by decide) ?_
  refine lv_istore_n (lv' := [(1, .int 0), (0, .ref y)]) hx hb dX4_up_1 rfl hl (by decide) rfl (fun ls hl => ?_)
  refine lv_iconst (v := 0) hx hb dX4_up_2 (by decide) ?_
  refine lv_istore_n (lv' := [(2, .int 0), (1, .int 0), (0, .ref y)]) hx hb dX4_up_3 rfl hl (by decide) rfl (fun ls hl => ?_)
  have lp : ∀ (n nn : Nat) (M1 : hM) (S1 : Nat → Nat → Int32)  (P T : List En) (H : Heap) (locs : List Loc) (ls : Array Slot), G.length + 1 ≤ nn + n → nn + T.length = G.length → P.length ≤ nn → mrg s0 G = P ++ mrg s0 T → LVL S1 (s0 + 1) 0 base P → LVL S1 s0 nn (base + P.flatten.length) T → (∀ x ∈ T, x ≠ [] ∧ (∀ z ∈ x, z.1 / 2 ^ s0 = pfx s0 x) ∧ pfx s0 x < 65536 ∧ x.length ≤ 300) → T.Pairwise (fun a b => pfx s0 a < pfx s0 b) → (∀ k9, (k9 < 8 ∨ 14 < k9) → S1 k9 = S k9) → RS g M1 y ad S1 V → (∀ q, ¬ rO y ad q → M1 q = M q) → hp g M1 H → va_S (hA g) s.heap H locs → lv_has ls 6 [(2, .int (nI nn)), (1, .int (nI P.length)), (0, .ref y)] → W p l e (hR 5 0 0) s m [.ref y].toArray below meth c H locs 0 0 Q (F0 m 4 ls []) := by
    intro n
    induction n with
    | zero => intro nn M1 S1 P T H locs ls hn hTl hPl hmg hPv hTv hTg hTp hoth; exact absurd hn (by omega)
    | succ n ih =>
      intro nn M1 S1 P T H locs ls hn hTl hPl hmg hPv hTv hTg hTp hoth hRs hF hm hS hl
      refine lv_iload_n hx hb dX4_up_4 rfl (lv_at hl 0 rfl) ?_
      refine lv_aload_n hx hb dX4_up_5 rfl (lv_at hl 2 rfl) ?_
      refine hr_get EE hm hRs 15 (by decide) wf_X4_149 (v := .int (V 15)) rfl dX4_up_6 ?_
      refine lv_icmp_ge (tgt := 289) hx hb dX4_up_9 (by decide) (fun c_9 => ?_) (fun c_9 => ?_)
      · have c_9 : G.length ≤ nn := (leN (a := G.length) (b := nn) hv15 rfl (by omega) (by omega)).mp c_9
        refine lv_aload_n hx hb dX4_up_289 rfl (lv_at hl 2 rfl) ?_
        refine lv_iload_n hx hb dX4_up_290 rfl (lv_at hl 1 rfl) ?_
        refine hr_put EE hm hS hRs hF (ty := .int) (vU V 15 (nI P.length)) 15 (by decide) wf_X4_149 rfl (by decide +kernel) rfl rfl rfl dX4_up_291 (fun H locs Mx1 hm hS hRs hF => ?_)
        obtain ⟨Vx2, hVx2⟩ : ∃ zz9, zz9 = vU V 15 (nI P.length) := ⟨_, rfl⟩
        rw [← hVx2] at hRs
        have hT0 : T = [] := List.length_eq_zero_iff.mp (by omega)
        rw [hT0] at hmg
        have hmg : mrg s0 G = P := by rw [hmg]; exact List.append_nil P
        exact ret dX4_up_294 hm hS (Nat.le_of_ble_eq_true rfl) (Nat.le_of_ble_eq_true rfl) (⟨S1, Vx2, hRs, hF, hoth, by rw [hmg]; exact hVx2, by rw [hmg]; exact hPv⟩)
      · have c_9 : ¬ G.length ≤ nn := fun h9 => c_9 ((leN (a := G.length) (b := nn) hv15 rfl (by omega) (by omega)).mpr h9)
        obtain ⟨x, T1, hT1⟩ : ∃ x T1, T = x :: T1 := by
          cases T with
          | nil => exfalso; rw [List.length_nil] at hTl; omega
          | cons a b => exact ⟨a, b, rfl⟩
        subst hT1
        rw [List.length_cons] at hTl
        obtain ⟨hX, hT1v⟩ := id hTv
        obtain ⟨hxne, hxp, hxb, hxl3⟩ := hTg x List.mem_cons_self
        obtain ⟨hTp1, hTp2⟩ := List.pairwise_cons.mp hTp
        have hxl1 := List.length_pos_iff.mpr hxne
        refine lv_iload_n hx hb dX4_up_12 rfl (lv_at hl 0 rfl) ?_
        refine lv_iconst (v := 1) hx hb dX4_up_13 (by decide) ?_
        refine lv_iadd hx hb dX4_up_14 ?_
        refine lv_aload_n hx hb dX4_up_15 rfl (lv_at hl 2 rfl) ?_
        refine hr_get EE hm hRs 15 (by decide) wf_X4_149 (v := .int (V 15)) rfl dX4_up_16 ?_
        refine lv_icmp_ge (tgt := 47) hx hb dX4_up_19 (by decide) (fun c_19 => ?_) (fun c_19 => ?_)
        · have c_19 : G.length ≤ (nn + 1) := (leN (a := G.length) (b := nn + 1) hv15 (add_n rfl rfl) (by omega) (by omega)).mp c_19
          have hT0 : T1 = [] := List.length_eq_zero_iff.mp (by omega)
          have hmr : mrg s0 (x :: T1) = x :: mrg s0 T1 := by rw [hT0]; rfl
          refine lv_iconst (v := 0) hx hb dX4_up_47 (by decide) ?_
          obtain ⟨wg, hwg⟩ : ∃ zz9, zz9 = x := ⟨_, rfl⟩
          obtain ⟨zf, of9, hzf, hdg⟩ : ∃ zf of9 : Nat → Int32, (zf = if pfx s0 x % 2 = 1 then (fun _ => 0) else dgF s0 x) ∧ of9 = (if pfx s0 x % 2 = 1 then dgF s0 x else (fun _ => 0)) := ⟨_, _, rfl, rfl⟩
          refine lv_istore_n (lv' := [(3, .int 0), (2, .int (nI nn)), (1, .int (nI P.length)), (0, .ref y)]) hx hb dX4_up_48 rfl hl (by decide) rfl (fun ls hl => ?_)
          refine lv_iload_n hx hb dX4_up_49 rfl (lv_at hl 0 rfl) ?_
          refine lv_if_ne (tgt := 75) hx hb dX4_up_50 (by decide) (fun c9 => absurd rfl c9) (fun _ => ?_)
          refine lv_aload_n hx hb dX4_up_53 rfl (lv_at hl 3 rfl) ?_
          refine hr_get EE hm hRs 12 (by decide) wf_X4_112 (v := .ref (ad 12)) rfl dX4_up_54 ?_
          refine lv_iload_n hx hb dX4_up_57 rfl (lv_at hl 1 rfl) ?_
          refine hr_ald EE hm hRs 12 nn (by decide) rfl (by show nn < 300; omega) (by decide) dX4_up_58 ?_
          refine lv_iconst (v := 1) hx hb dX4_up_59 (by decide) ?_
          refine lv_icmp_ne (tgt := 75) hx hb dX4_up_60 (by decide) (fun c_60 => ?_) (fun c_60 => ?_)
          · have c_60 : ¬ x.length = 1 := fun h9 => c_60 ((eqN (a := x.length) (b := 1) hX.2.1 rfl (by omega) (by decide)).mpr h9)
            refine lv_iconst (v := 0) hx hb dX4_up_75 (by decide) ?_
            refine lv_istore (lv' := [(4, .int 0), (3, .int 0), (2, .int (nI nn)), (1, .int (nI P.length)), (0, .ref y)]) hx hb dX4_up_76 hl (by decide) rfl (fun ls hl => ?_)
            have hx2 : 2 ≤ x.length := by omega
            have lpb : ∀ (n u : Nat) (M2 : hM) (S2 : Nat → Nat → Int32)   (H : Heap) (locs : List Loc) (ls : Array Slot), 9 ≤ u + n → u ≤ 8 → (∀ k9, k9 ≠ 8 → S2 k9 = S1 k9) → (∀ i, i < u → ∀ k, k < 4 → S2 8 (1 + 32 * 0 + 4 * i + k) = byt (zf i) k) → (∀ i, i < u → ∀ k, k < 4 → S2 8 (1 + 32 * 1 + 4 * i + k) = byt (of9 i) k) → RS g M2 y ad S2 V → (∀ q, ¬ rO y ad q → M2 q = M q) → hp g M2 H → va_S (hA g) s.heap H locs → lv_has ls 6 [(4, .int (nI u)), (3, .int 0), (2, .int (nI nn)), (1, .int (nI P.length)), (0, .ref y)] → W p l e (hR 5 0 0) s m [.ref y].toArray below meth c H locs 0 0 Q (F0 m 78 ls []) := by
              intro n
              induction n with
              | zero => intro u M2 S2 H locs ls hnb hub ho2 hbz hbo; exact absurd hnb (by omega)
              | succ n ihb =>
                intro u M2 S2 H locs ls hnb hub ho2 hbz hbo hRs hF hm hS hl
                refine lv_iload hx hb dX4_up_78 (lv_at hl 0 rfl) ?_
                refine lv_bipush (v := 8) hx hb dX4_up_80 (by decide) ?_
                refine lv_icmp_ge (tgt := 186) hx hb dX4_up_82 (by decide) (fun c_82 => ?_) (fun c_82 => ?_)
                · have c_82 : 8 ≤ u := (leN (a := 8) (b := u) rfl rfl (by decide) (by omega)).mp c_82
                  refine lv_aload_n hx hb dX4_up_186 rfl (lv_at hl 4 rfl) ?_
                  refine hp_cv (hp_runV (C := RX4) (T := TX4) (N := 24) (np := 0) (k := 4) (mc := 0) (ms := 0) (As := ([] : List Value)) (rest := []) EE hm hS (c_X4_join l g M2 y ad S2 V hRs (fun j hj => by rw [ho2 0 (by decide), hoth 0 (by decide)]; exact hk0 j hj) (fun j hj => by rw [ho2 1 (by decide), hoth 1 (by decide)]; exact hk1 j hj) zf of9 (fun i hi k hk => hbz i (by omega) k hk) (fun i hi k hk => hbo i (by omega) k hk)) ms_X4_join wi_X4_join ws_X4_join wl_X4_163 hRs.1 rfl rfl hl.1 rfl (Nat.le_of_ble_eq_true rfl) dX4_up_187 ⟨Nat.le_of_ble_eq_true rfl, Nat.le_of_ble_eq_true rfl⟩ ⟨(Nat.le_of_ble_eq_true rfl), (Nat.le_of_ble_eq_true rfl)⟩) hS (fun Mx3 H locs hq4 hm hS => ?_)
                  obtain ⟨S3, hRs, hF3, ho3, hh3⟩ := hq4
                  have hF : ∀ q, ¬ rO y ad q → Mx3 q = M q := fun q hq => (hF3 q hq).trans (hF q hq)
                  refine lv_iload_n hx hb dX4_up_190 rfl (lv_at hl 1 rfl) ?_
                  refine lv_if_eq (tgt := 212) hx hb dX4_up_191 (by decide) (fun _ => ?_) (fun c9 => absurd rfl c9)
                  refine lv_aload_n hx hb dX4_up_212 rfl (lv_at hl 4 rfl) ?_
                  refine hr_get EE hm hRs 12 (by decide) wf_X4_112 (v := .ref (ad 12)) rfl dX4_up_213 ?_
                  refine lv_iload_n hx hb dX4_up_216 rfl (lv_at hl 2 rfl) ?_
                  refine hr_ald EE hm hRs 12 nn (by decide) rfl (by show nn < 300; omega) (by decide) dX4_up_217 ?_
                  have hal : S3 12 nn = nI wg.length := by rw [hwg]; exact (by rw [ho3 12 (by decide) (by decide) (by decide), ho2 12 (by decide)]; exact hX.2.1)
                  rw [hal]
                  refine lv_istore (lv' := [(4, .int (nI wg.length)), (3, .int 0), (2, .int (nI nn)), (1, .int (nI P.length)), (0, .ref y)]) hx hb dX4_up_218 hl (by decide) rfl (fun ls hl => ?_)
                  refine lv_aload_n hx hb dX4_up_220 rfl (lv_at hl 4 rfl) ?_
                  refine lv_iload_n hx hb dX4_up_221 rfl (lv_at hl 2 rfl) ?_
                  refine lv_iload_n hx hb dX4_up_222 rfl (lv_at hl 3 rfl) ?_
                  refine hp_cv (hp_runV (C := RX4) (T := TX4) (N := 24) (np := 2) (k := 1) (mc := 0) (ms := 0) (As := [.int (nI nn), .int (nI P.length)]) (rest := []) EE hm hS (c_X4_copyNode l g Mx3 y ad S3 V hRs nn P.length hPl (by omega)) ms_X4_copyNode wi_X4_copyNode ws_X4_copyNode wl_X4_156 hRs.1 rfl rfl hl.1 rfl (Nat.le_of_ble_eq_true rfl) dX4_up_223 ⟨Nat.le_of_ble_eq_true rfl, Nat.le_of_ble_eq_true rfl⟩ ⟨(Nat.le_of_ble_eq_true rfl), (Nat.le_of_ble_eq_true rfl)⟩) hS (fun Mx5 H locs hq6 hm hS => ?_)
                  obtain ⟨S4, hRs, hF4, hc4o, hc4a, hc4b, h411, h412, h413, h414⟩ := hq6
                  have hF : ∀ q, ¬ rO y ad q → Mx5 q = M q := fun q hq => (hF4 q hq).trans (hF q hq)
                  refine lv_aload_n hx hb dX4_up_226 rfl (lv_at hl 4 rfl) ?_
                  refine hr_get EE hm hRs 12 (by decide) wf_X4_112 (v := .ref (ad 12)) rfl dX4_up_227 ?_
                  refine lv_iload_n hx hb dX4_up_230 rfl (lv_at hl 3 rfl) ?_
                  refine lv_iload hx hb dX4_up_231 (lv_at hl 0 rfl) ?_
                  refine hr_ast EE hm hS hRs hF 12 P.length (by decide) rfl (by show P.length < 300; omega) (by decide) dX4_up_233 (fun H locs Mx7 hm hS hRs hF => ?_)
                  obtain ⟨Sx8, hSx8⟩ : ∃ zz9, zz9 = sU S4 12 P.length (nI wg.length) := ⟨_, rfl⟩
                  rw [← hSx8] at hRs
                  refine lv_iconst (v := 0) hx hb dX4_up_234 (by decide) ?_
                  refine lv_istore (lv' := [(5, .int 0), (4, .int (nI wg.length)), (3, .int 0), (2, .int (nI nn)), (1, .int (nI P.length)), (0, .ref y)]) hx hb dX4_up_235 hl (by decide) rfl (fun ls hl => ?_)
                  have lpc : ∀ (n v : Nat) (M6 : hM) (S6 : Nat → Nat → Int32)   (H : Heap) (locs : List Loc) (ls : Array Slot), 9 ≤ v + n → v ≤ 8 → (∀ k9, k9 ≠ 14 → S6 k9 = Sx8 k9) → (∀ q, (q < 8 * P.length ∨ 8 * P.length + 8 ≤ q) → S6 14 q = Sx8 14 q) → (∀ j, j < v → S6 14 (8 * P.length + j) = hPair zf of9 j) → RS g M6 y ad S6 V → (∀ q, ¬ rO y ad q → M6 q = M q) → hp g M6 H → va_S (hA g) s.heap H locs → lv_has ls 6 [(5, .int (nI v)), (4, .int (nI wg.length)), (3, .int 0), (2, .int (nI nn)), (1, .int (nI P.length)), (0, .ref y)] → W p l e (hR 5 0 0) s m [.ref y].toArray below meth c H locs 0 0 Q (F0 m 237 ls []) := by
                    intro n
                    induction n with
                    | zero => intro v M6 S6 H locs ls hnc hvc ho6 hlow6 hd6; exact absurd hnc (by omega)
                    | succ n ihc =>
                      intro v M6 S6 H locs ls hnc hvc ho6 hlow6 hd6 hRs hF hm hS hl
                      refine lv_iload hx hb dX4_up_237 (lv_at hl 0 rfl) ?_
                      refine lv_bipush (v := 8) hx hb dX4_up_239 (by decide) ?_
                      refine lv_icmp_ge (tgt := 269) hx hb dX4_up_241 (by decide) (fun c_241 => ?_) (fun c_241 => ?_)
                      · have c_241 : 8 ≤ v := (leN (a := 8) (b := v) rfl rfl (by decide) (by omega)).mp c_241
                        have h31 : ∀ k9, (10 < k9) → S3 k9 = S1 k9 := fun k9 h9 => by rw [ho3 k9 (by omega) (by omega) (by omega), ho2 k9 (by omega)]
                        have hA9 : ∀ q, q ≠ P.length → S6 11 q = S1 11 q ∧ S6 12 q = S1 12 q ∧ S6 13 q = S1 13 q ∧ ∀ j, j < 8 → S6 14 (8 * q + j) = S1 14 (8 * q + j) := fun q hq => by
                          have h4 := hc4a q hq
                          rw [ho6 11 (by decide), ho6 12 (by decide), ho6 13 (by decide), hSx8, sU_o (by decide), sU_n hq, sU_o (by decide), h4.1, h4.2.1, h4.2.2, h31 11 (by decide), h31 12 (by decide), h31 13 (by decide)]
                          exact ⟨rfl, rfl, rfl, fun j hj => by rw [hlow6 _ (by omega), hSx8, sU_o (by decide), hc4b _ (by omega), h31 14 (by decide)]⟩
                        have hdw : dgF (s0 + 1) wg = hPair zf of9 := by
                          rw [hwg, hzf, hdg]
                          rw [dgF_up hxp hx2]
                          by_cases hp : pfx s0 x % 2 = 1
                          · rw [if_pos hp, if_pos hp, if_pos hp]
                          · rw [if_neg hp, if_neg hp, if_neg hp]
                        have hpw : pfx (s0 + 1) wg = pfx s0 x / 2 := by rw [hwg, pfx_up]
                        have hNew : LVL S6 (s0 + 1) 0 base (P ++ [wg]) ∧ LVL S6 s0 (nn + 1) (base + P.flatten.length + wg.length) T1 := by
                          refine LVL_new hPv (by omega) ?_ hA9 (by omega) ?_ ?_ ?_ (fun j hj => ?_)
                          · rw [hwg]; exact hT1v
                          · rw [hpw, ho6 11 (by decide), hSx8, sU_o (by decide), h411, h31 11 (by decide), hX.1, sh1_n (by omega)]
                          · rw [ho6 12 (by decide), hSx8, sU_i]
                          · rw [ho6 13 (by decide), hSx8, sU_o (by decide), h413, h31 13 (by decide)]; exact hX.2.2.1
                          · rw [hd6 j (by omega), hdw]
                        have hoN : ∀ k9, (k9 < 8 ∨ 14 < k9) → S6 k9 = S k9 := fun k9 h9 => by rw [ho6 k9 (by omega), hSx8, sU_o (by omega), hc4o k9 (by omega), ho3 k9 (by omega) (by omega) (by omega), ho2 k9 (by omega)]; exact hoth k9 h9
                        refine lv_iload_n hx hb dX4_up_269 rfl (lv_at hl 2 rfl) ?_
                        refine lv_if_eq (tgt := 279) hx hb dX4_up_270 (by decide) (fun _ => ?_) (fun c9 => absurd rfl c9)
                        refine lv_iload_n hx hb dX4_up_279 rfl (lv_at hl 3 rfl) ?_
                        refine lv_iconst (v := 1) hx hb dX4_up_280 (by decide) ?_
                        refine lv_iadd hx hb dX4_up_281 ?_
                        rw [show nI nn + 1 = nI (nn + 1) from add_n (b := 1) rfl rfl]
                        refine lv_istore_n (lv' := [(2, .int (nI (nn + 1))), (5, .int (nI v)), (4, .int (nI wg.length)), (3, .int 0), (1, .int (nI P.length)), (0, .ref y)]) hx hb dX4_up_282 rfl hl (by decide) rfl (fun ls hl => ?_)
                        refine lv_iinc (v := nI (P.length + 1)) (lv' := [(1, .int (nI (P.length + 1))), (2, .int (nI (nn + 1))), (5, .int (nI v)), (4, .int (nI wg.length)), (3, .int 0), (0, .ref y)]) hx hb dX4_up_283 hl (k := 4) rfl (inc_n rfl) (by decide) rfl (fun ls hl => ?_)
                        refine lv_goto (tgt := 4) hx hb dX4_up_286 (by decide) ?_
                        have hlen9 : (P ++ [wg]).length = P.length + 1 := by rw [List.length_append]; rfl
                        have hfl9 : base + (P ++ [wg]).flatten.length = base + P.flatten.length + wg.length := by rw [List.flatten_append, List.length_append]; simp; omega
                        refine ih (nn + 1) M6 S6 (P ++ [wg]) T1 H locs ls (by omega) (by omega) (by rw [hlen9]; omega) ?_ hNew.1 (by rw [hfl9]; exact hNew.2) (fun v hv => hTg v (List.mem_cons_of_mem _ hv)) hTp2 hoN hRs hF hm hS (lv_sub hl [1, 0, 5] (by rw [hlen9]; rfl))
                        rw [hmg, hmr, List.append_assoc, ← hwg]
                        rfl
                      · have c_241 : ¬ 8 ≤ v := fun h9 => c_241 ((leN (a := 8) (b := v) rfl rfl (by decide) (by omega)).mpr h9)
                        refine lv_aload_n hx hb dX4_up_244 rfl (lv_at hl 5 rfl) ?_
                        refine hr_get EE hm hRs 14 (by decide) wf_X4_118 (v := .ref (ad 14)) rfl dX4_up_245 ?_
                        refine lv_bipush (v := 8) hx hb dX4_up_248 (by decide) ?_
                        refine lv_iload_n hx hb dX4_up_250 rfl (lv_at hl 4 rfl) ?_
                        refine lv_imul hx hb dX4_up_251 ?_
                        refine lv_iload hx hb dX4_up_252 (lv_at hl 0 rfl) ?_
                        refine lv_iadd hx hb dX4_up_254 ?_
                        refine lv_aload_n hx hb dX4_up_255 rfl (lv_at hl 5 rfl) ?_
                        refine hr_get EE hm hRs 10 (by decide) wf_X4_106 (v := .ref (ad 10)) rfl dX4_up_256 ?_
                        refine lv_iload hx hb dX4_up_259 (lv_at hl 0 rfl) ?_
                        refine hr_ald EE hm hRs 10 v (by decide) rfl (by show v < 8; omega) (by decide) dX4_up_261 ?_
                        refine hr_ast EE hm hS hRs hF 14 ((8 * P.length) + v) (by decide) (add_n (mul_n rfl rfl) rfl) (by show (8 * P.length) + v < 2400; omega) (by decide) dX4_up_262 (fun H locs Mx9 hm hS hRs hF => ?_)
                        obtain ⟨Sx10, hSx10⟩ : ∃ zz9, zz9 = sU S6 14 ((8 * P.length) + v) (S6 10 v) := ⟨_, rfl⟩
                        rw [← hSx10] at hRs
                        refine lv_iinc (v := nI (v + 1)) (lv' := [(5, .int (nI (v + 1))), (4, .int (nI wg.length)), (3, .int 0), (2, .int (nI nn)), (1, .int (nI P.length)), (0, .ref y)]) hx hb dX4_up_263 hl (k := 0) rfl (inc_n rfl) (by decide) rfl (fun ls hl => ?_)
                        refine lv_goto (tgt := 237) hx hb dX4_up_266 (by decide) ?_
                        refine ihc (v + 1) Mx9 Sx10 H locs ls (by omega) (by omega) (fun k9 hk9 => by rw [hSx10, sU_o hk9]; exact ho6 k9 hk9) (fun q hq => by rw [hSx10, sU_n (by omega)]; exact hlow6 q hq) (fun j hj => ?_) hRs hF hm hS (lv_sub hl [0, 1, 2, 3, 4, 5] rfl)
                        by_cases t : j = v
                        · subst t; rw [hSx10, sU_i, ho6 10 (by decide), hSx8, sU_o (by decide), hc4o 10 (by decide)]; exact hh3 j (by omega)
                        · rw [hSx10, sU_n (by omega)]; exact hd6 j (by omega)
                  exact lpc 9 0 Mx7 Sx8 H locs ls (by omega) (by omega) (fun _ _ => rfl) (fun _ _ => rfl) (fun j h => absurd h (Nat.not_lt_zero j)) hRs hF hm hS (lv_sub hl [0, 1, 2, 3, 4, 5] rfl)
                · have c_82 : ¬ 8 ≤ u := fun h9 => c_82 ((leN (a := 8) (b := u) rfl rfl (by decide) (by omega)).mpr h9)
                  refine lv_aload_n hx hb dX4_up_85 rfl (lv_at hl 4 rfl) ?_
                  refine lv_iconst (v := 0) hx hb dX4_up_86 (by decide) ?_
                  refine lv_iload hx hb dX4_up_87 (lv_at hl 0 rfl) ?_
                  refine lv_iload_n hx hb dX4_up_89 rfl (lv_at hl 1 rfl) ?_
                  refine lv_if_ne (tgt := 104) hx hb dX4_up_90 (by decide) (fun c9 => absurd rfl c9) (fun _ => ?_)
                  refine lv_aload_n hx hb dX4_up_93 rfl (lv_at hl 4 rfl) ?_
                  refine hr_get EE hm hRs 11 (by decide) wf_X4_109 (v := .ref (ad 11)) rfl dX4_up_94 ?_
                  refine lv_iload_n hx hb dX4_up_97 rfl (lv_at hl 2 rfl) ?_
                  refine hr_ald EE hm hRs 11 nn (by decide) rfl (by show nn < 300; omega) (by decide) dX4_up_98 ?_
                  refine lv_iconst (v := 1) hx hb dX4_up_99 (by decide) ?_
                  refine lv_iand hx hb dX4_up_100 ?_
                  refine lv_if_ne (tgt := 119) hx hb dX4_up_101 (by decide) (fun c_101 => ?_) (fun c_101 => ?_)
                  · have c_101 : ¬ (pfx s0 x % 2) = 0 := fun h9 => c_101 ((eqN (a := pfx s0 x % 2) (b := 0) (by rw [ho2 11 (by decide), hX.1]; exact and1_n (by omega)) rfl (by omega) (by decide)).mpr h9)
                    refine lv_iconst (v := 0) hx hb dX4_up_119 (by decide) ?_
                    refine hp_cv (hp_runV (C := RX4) (T := TX4) (N := 24) (np := 3) (k := 1) (mc := 0) (ms := 0) (As := [.int 0, .int (nI u), .int 0]) (rest := []) EE hm hS (c_X4_half l g M2 y ad S2 V hRs 0 u (by decide) (by omega) (0)) ms_X4_half wi_X4_half ws_X4_half wl_X4_159 hRs.1 rfl rfl hl.1 rfl (Nat.le_of_ble_eq_true rfl) dX4_up_120 ⟨Nat.le_of_ble_eq_true rfl, Nat.le_of_ble_eq_true rfl⟩ ⟨(Nat.le_of_ble_eq_true rfl), (Nat.le_of_ble_eq_true rfl)⟩) hS (fun Mx11 H locs hq12 hm hS => ?_)
                    obtain ⟨Sh, hRs, hFh, hoh, hlh, hvh⟩ := hq12
                    have hF : ∀ q, ¬ rO y ad q → Mx11 q = M q := fun q hq => (hFh q hq).trans (hF q hq)
                    have hzu : (0 : Int32) = zf u := by rw [hzf, if_pos (by omega)]
                    refine lv_aload_n hx hb dX4_up_123 rfl (lv_at hl 4 rfl) ?_
                    refine lv_iconst (v := 1) hx hb dX4_up_124 (by decide) ?_
                    refine lv_iload hx hb dX4_up_125 (lv_at hl 0 rfl) ?_
                    refine lv_iload_n hx hb dX4_up_127 rfl (lv_at hl 1 rfl) ?_
                    refine lv_if_eq (tgt := 149) hx hb dX4_up_128 (by decide) (fun _ => ?_) (fun c9 => absurd rfl c9)
                    refine lv_aload_n hx hb dX4_up_149 rfl (lv_at hl 4 rfl) ?_
                    refine hr_get EE hm hRs 11 (by decide) wf_X4_109 (v := .ref (ad 11)) rfl dX4_up_150 ?_
                    refine lv_iload_n hx hb dX4_up_153 rfl (lv_at hl 2 rfl) ?_
                    refine hr_ald EE hm hRs 11 nn (by decide) rfl (by show nn < 300; omega) (by decide) dX4_up_154 ?_
                    refine lv_iconst (v := 1) hx hb dX4_up_155 (by decide) ?_
                    refine lv_iand hx hb dX4_up_156 ?_
                    refine lv_iconst (v := 1) hx hb dX4_up_157 (by decide) ?_
                    refine lv_icmp_ne (tgt := 176) hx hb dX4_up_158 (by decide) (fun c_158 => ?_) (fun c_158 => ?_)
                    · have c_158 : ¬ (pfx s0 x % 2) = 1 := fun h9 => c_158 ((eqN (a := pfx s0 x % 2) (b := 1) (by rw [hoh 11 (by decide), ho2 11 (by decide), hX.1]; exact and1_n (by omega)) rfl (by omega) (by decide)).mpr h9)
                      exact absurd c_158 (by omega)
                    · have c_158 : (pfx s0 x % 2) = 1 := (eqN (a := pfx s0 x % 2) (b := 1) (by rw [hoh 11 (by decide), ho2 11 (by decide), hX.1]; exact and1_n (by omega)) rfl (by omega) (by decide)).mp c_158
                      refine lv_aload_n hx hb dX4_up_161 rfl (lv_at hl 4 rfl) ?_
                      refine hr_get EE hm hRs 14 (by decide) wf_X4_118 (v := .ref (ad 14)) rfl dX4_up_162 ?_
                      refine lv_bipush (v := 8) hx hb dX4_up_165 (by decide) ?_
                      refine lv_iload_n hx hb dX4_up_167 rfl (lv_at hl 2 rfl) ?_
                      refine lv_imul hx hb dX4_up_168 ?_
                      refine lv_iload hx hb dX4_up_169 (lv_at hl 0 rfl) ?_
                      refine lv_iadd hx hb dX4_up_171 ?_
                      refine hr_ald EE hm hRs 14 ((8 * nn) + u) (by decide) (add_n (mul_n rfl rfl) rfl) (by show (8 * nn) + u < 2400; omega) (by decide) dX4_up_172 ?_
                      refine lv_goto (tgt := 177) hx hb dX4_up_173 (by decide) ?_
                      refine hp_cv (hp_runV (C := RX4) (T := TX4) (N := 24) (np := 3) (k := 1) (mc := 0) (ms := 0) (As := [.int 1, .int (nI u), .int (Sh 14 ((8 * nn) + u))]) (rest := []) EE hm hS (c_X4_half l g Mx11 y ad Sh V hRs 1 u (by decide) (by omega) (Sh 14 ((8 * nn) + u))) ms_X4_half wi_X4_half ws_X4_half wl_X4_159 hRs.1 rfl rfl hl.1 rfl (Nat.le_of_ble_eq_true rfl) dX4_up_177 ⟨Nat.le_of_ble_eq_true rfl, Nat.le_of_ble_eq_true rfl⟩ ⟨(Nat.le_of_ble_eq_true rfl), (Nat.le_of_ble_eq_true rfl)⟩) hS (fun Mx13 H locs hq14 hm hS => ?_)
                      obtain ⟨Si, hRs, hFi, hoi, hli, hvi⟩ := hq14
                      have hF : ∀ q, ¬ rO y ad q → Mx13 q = M q := fun q hq => (hFi q hq).trans (hF q hq)
                      have hou : Sh 14 ((8 * nn) + u) = of9 u := by rw [hdg, if_pos (by omega), hoh 14 (by decide), ho2 14 (by decide)]; exact hX.2.2.2 u (by omega)
                      refine lv_iinc (v := nI (u + 1)) (lv' := [(4, .int (nI (u + 1))), (3, .int 0), (2, .int (nI nn)), (1, .int (nI P.length)), (0, .ref y)]) hx hb dX4_up_180 hl (k := 0) rfl (inc_n rfl) (by decide) rfl (fun ls hl => ?_)
                      refine lv_goto (tgt := 78) hx hb dX4_up_183 (by decide) ?_
                      refine ihb (u + 1) Mx13 Si H locs ls (by omega) (by omega) (fun k9 h9 => by rw [hoi k9 h9, hoh k9 h9]; exact ho2 k9 h9) (fun i hi k hk => ?_) (fun i hi k hk => ?_) hRs hF hm hS (lv_sub hl [0, 1, 2, 3, 4] rfl)
                      · rw [hli _ (by omega)]
                        by_cases t : i = u
                        · subst t; rw [← hzu]; exact hvh k hk
                        · rw [hlh _ (by omega)]; exact hbz i (by omega) k hk
                      · by_cases t : i = u
                        · subst t; rw [← hou]; exact hvi k hk
                        · rw [hli _ (by omega), hlh _ (by omega)]; exact hbo i (by omega) k hk
                  · have c_101 : (pfx s0 x % 2) = 0 := (eqN (a := pfx s0 x % 2) (b := 0) (by rw [ho2 11 (by decide), hX.1]; exact and1_n (by omega)) rfl (by omega) (by decide)).mp c_101
                    refine lv_aload_n hx hb dX4_up_104 rfl (lv_at hl 4 rfl) ?_
                    refine hr_get EE hm hRs 14 (by decide) wf_X4_118 (v := .ref (ad 14)) rfl dX4_up_105 ?_
                    refine lv_bipush (v := 8) hx hb dX4_up_108 (by decide) ?_
                    refine lv_iload_n hx hb dX4_up_110 rfl (lv_at hl 2 rfl) ?_
                    refine lv_imul hx hb dX4_up_111 ?_
                    refine lv_iload hx hb dX4_up_112 (lv_at hl 0 rfl) ?_
                    refine lv_iadd hx hb dX4_up_114 ?_
                    refine hr_ald EE hm hRs 14 ((8 * nn) + u) (by decide) (add_n (mul_n rfl rfl) rfl) (by show (8 * nn) + u < 2400; omega) (by decide) dX4_up_115 ?_
                    refine lv_goto (tgt := 120) hx hb dX4_up_116 (by decide) ?_
                    refine hp_cv (hp_runV (C := RX4) (T := TX4) (N := 24) (np := 3) (k := 1) (mc := 0) (ms := 0) (As := [.int 0, .int (nI u), .int (S2 14 ((8 * nn) + u))]) (rest := []) EE hm hS (c_X4_half l g M2 y ad S2 V hRs 0 u (by decide) (by omega) (S2 14 ((8 * nn) + u))) ms_X4_half wi_X4_half ws_X4_half wl_X4_159 hRs.1 rfl rfl hl.1 rfl (Nat.le_of_ble_eq_true rfl) dX4_up_120 ⟨Nat.le_of_ble_eq_true rfl, Nat.le_of_ble_eq_true rfl⟩ ⟨(Nat.le_of_ble_eq_true rfl), (Nat.le_of_ble_eq_true rfl)⟩) hS (fun Mx15 H locs hq16 hm hS => ?_)
                    obtain ⟨Sh, hRs, hFh, hoh, hlh, hvh⟩ := hq16
                    have hF : ∀ q, ¬ rO y ad q → Mx15 q = M q := fun q hq => (hFh q hq).trans (hF q hq)
                    have hzu : S2 14 ((8 * nn) + u) = zf u := by rw [hzf, if_neg (by omega), ho2 14 (by decide)]; exact hX.2.2.2 u (by omega)
                    refine lv_aload_n hx hb dX4_up_123 rfl (lv_at hl 4 rfl) ?_
                    refine lv_iconst (v := 1) hx hb dX4_up_124 (by decide) ?_
                    refine lv_iload hx hb dX4_up_125 (lv_at hl 0 rfl) ?_
                    refine lv_iload_n hx hb dX4_up_127 rfl (lv_at hl 1 rfl) ?_
                    refine lv_if_eq (tgt := 149) hx hb dX4_up_128 (by decide) (fun _ => ?_) (fun c9 => absurd rfl c9)
                    refine lv_aload_n hx hb dX4_up_149 rfl (lv_at hl 4 rfl) ?_
                    refine hr_get EE hm hRs 11 (by decide) wf_X4_109 (v := .ref (ad 11)) rfl dX4_up_150 ?_
                    refine lv_iload_n hx hb dX4_up_153 rfl (lv_at hl 2 rfl) ?_
                    refine hr_ald EE hm hRs 11 nn (by decide) rfl (by show nn < 300; omega) (by decide) dX4_up_154 ?_
                    refine lv_iconst (v := 1) hx hb dX4_up_155 (by decide) ?_
                    refine lv_iand hx hb dX4_up_156 ?_
                    refine lv_iconst (v := 1) hx hb dX4_up_157 (by decide) ?_
                    refine lv_icmp_ne (tgt := 176) hx hb dX4_up_158 (by decide) (fun c_158 => ?_) (fun c_158 => ?_)
                    · have c_158 : ¬ (pfx s0 x % 2) = 1 := fun h9 => c_158 ((eqN (a := pfx s0 x % 2) (b := 1) (by rw [hoh 11 (by decide), ho2 11 (by decide), hX.1]; exact and1_n (by omega)) rfl (by omega) (by decide)).mpr h9)
                      refine lv_iconst (v := 0) hx hb dX4_up_176 (by decide) ?_
                      refine hp_cv (hp_runV (C := RX4) (T := TX4) (N := 24) (np := 3) (k := 1) (mc := 0) (ms := 0) (As := [.int 1, .int (nI u), .int 0]) (rest := []) EE hm hS (c_X4_half l g Mx15 y ad Sh V hRs 1 u (by decide) (by omega) (0)) ms_X4_half wi_X4_half ws_X4_half wl_X4_159 hRs.1 rfl rfl hl.1 rfl (Nat.le_of_ble_eq_true rfl) dX4_up_177 ⟨Nat.le_of_ble_eq_true rfl, Nat.le_of_ble_eq_true rfl⟩ ⟨(Nat.le_of_ble_eq_true rfl), (Nat.le_of_ble_eq_true rfl)⟩) hS (fun Mx17 H locs hq18 hm hS => ?_)
                      obtain ⟨Si, hRs, hFi, hoi, hli, hvi⟩ := hq18
                      have hF : ∀ q, ¬ rO y ad q → Mx17 q = M q := fun q hq => (hFi q hq).trans (hF q hq)
                      have hou : (0 : Int32) = of9 u := by rw [hdg, if_neg (by omega)]
                      refine lv_iinc (v := nI (u + 1)) (lv' := [(4, .int (nI (u + 1))), (3, .int 0), (2, .int (nI nn)), (1, .int (nI P.length)), (0, .ref y)]) hx hb dX4_up_180 hl (k := 0) rfl (inc_n rfl) (by decide) rfl (fun ls hl => ?_)
                      refine lv_goto (tgt := 78) hx hb dX4_up_183 (by decide) ?_
                      refine ihb (u + 1) Mx17 Si H locs ls (by omega) (by omega) (fun k9 h9 => by rw [hoi k9 h9, hoh k9 h9]; exact ho2 k9 h9) (fun i hi k hk => ?_) (fun i hi k hk => ?_) hRs hF hm hS (lv_sub hl [0, 1, 2, 3, 4] rfl)
                      · rw [hli _ (by omega)]
                        by_cases t : i = u
                        · subst t; rw [← hzu]; exact hvh k hk
                        · rw [hlh _ (by omega)]; exact hbz i (by omega) k hk
                      · by_cases t : i = u
                        · subst t; rw [← hou]; exact hvi k hk
                        · rw [hli _ (by omega), hlh _ (by omega)]; exact hbo i (by omega) k hk
                    · have c_158 : (pfx s0 x % 2) = 1 := (eqN (a := pfx s0 x % 2) (b := 1) (by rw [hoh 11 (by decide), ho2 11 (by decide), hX.1]; exact and1_n (by omega)) rfl (by omega) (by decide)).mp c_158
                      exact absurd c_158 (by omega)
            exact lpb 9 0 M1 S1 H locs ls (by omega) (by omega) (fun _ _ => rfl) (fun i h => absurd h (Nat.not_lt_zero i)) (fun i h => absurd h (Nat.not_lt_zero i)) hRs hF hm hS (lv_sub hl [0, 1, 2, 3, 4] rfl)
          · have c_60 : x.length = 1 := (eqN (a := x.length) (b := 1) hX.2.1 rfl (by omega) (by decide)).mp c_60
            refine lv_aload_n hx hb dX4_up_63 rfl (lv_at hl 3 rfl) ?_
            refine lv_iload_n hx hb dX4_up_64 rfl (lv_at hl 1 rfl) ?_
            refine lv_iload_n hx hb dX4_up_65 rfl (lv_at hl 2 rfl) ?_
            refine hp_cv (hp_runV (C := RX4) (T := TX4) (N := 24) (np := 2) (k := 1) (mc := 0) (ms := 0) (As := [.int (nI nn), .int (nI P.length)]) (rest := []) EE hm hS (c_X4_copyNode l g M1 y ad S1 V hRs nn P.length hPl (by omega)) ms_X4_copyNode wi_X4_copyNode ws_X4_copyNode wl_X4_156 hRs.1 rfl rfl hl.1 rfl (Nat.le_of_ble_eq_true rfl) dX4_up_66 ⟨Nat.le_of_ble_eq_true rfl, Nat.le_of_ble_eq_true rfl⟩ ⟨(Nat.le_of_ble_eq_true rfl), (Nat.le_of_ble_eq_true rfl)⟩) hS (fun Mx19 H locs hq20 hm hS => ?_)
            obtain ⟨S4, hRs, hF4, hc4o, hc4a, hc4b, h411, h412, h413, h414⟩ := hq20
            have hF : ∀ q, ¬ rO y ad q → Mx19 q = M q := fun q hq => (hF4 q hq).trans (hF q hq)
            have hNew : LVL S4 (s0 + 1) 0 base (P ++ [wg]) ∧ LVL S4 s0 (nn + 1) (base + P.flatten.length + wg.length) T1 := by
              rw [hwg]
              refine LVL_new hPv (by omega) hT1v (fun q hq => ⟨(hc4a q hq).1, (hc4a q hq).2.1, (hc4a q hq).2.2, fun j hj => hc4b _ (by omega)⟩) (by omega) ?_ ?_ ?_ (fun j hj => ?_)
              · rw [h411, hX.1, sh1_n (by omega), pfx_up]
              · rw [h412]; exact hX.2.1
              · rw [h413]; exact hX.2.2.1
              · rw [h414 j hj, dgF_up1 c_60]; exact hX.2.2.2 j hj
            have hoN : ∀ k9, (k9 < 8 ∨ 14 < k9) → S4 k9 = S k9 := fun k9 h9 => by rw [hc4o k9 (by omega)]; exact hoth k9 h9
            refine lv_iinc (v := nI (nn + 1)) (lv' := [(2, .int (nI (nn + 1))), (3, .int 0), (1, .int (nI P.length)), (0, .ref y)]) hx hb dX4_up_69 hl (k := 1) rfl (inc_n rfl) (by decide) rfl (fun ls hl => ?_)
            refine lv_goto (tgt := 283) hx hb dX4_up_72 (by decide) ?_
            refine lv_iinc (v := nI (P.length + 1)) (lv' := [(1, .int (nI (P.length + 1))), (2, .int (nI (nn + 1))), (3, .int 0), (0, .ref y)]) hx hb dX4_up_283 hl (k := 2) rfl (inc_n rfl) (by decide) rfl (fun ls hl => ?_)
            refine lv_goto (tgt := 4) hx hb dX4_up_286 (by decide) ?_
            have hlen9 : (P ++ [wg]).length = P.length + 1 := by rw [List.length_append]; rfl
            have hfl9 : base + (P ++ [wg]).flatten.length = base + P.flatten.length + wg.length := by rw [List.flatten_append, List.length_append]; simp; omega
            refine ih (nn + 1) Mx19 S4 (P ++ [wg]) T1 H locs ls (by omega) (by omega) (by rw [hlen9]; omega) ?_ hNew.1 (by rw [hfl9]; exact hNew.2) (fun v hv => hTg v (List.mem_cons_of_mem _ hv)) hTp2 hoN hRs hF hm hS (lv_sub hl [1, 0, 3] (by rw [hlen9]; rfl))
            rw [hmg, hmr, List.append_assoc, ← hwg]
            rfl
        · have c_19 : ¬ G.length ≤ (nn + 1) := fun h9 => c_19 ((leN (a := G.length) (b := nn + 1) hv15 (add_n rfl rfl) (by omega) (by omega)).mpr h9)
          obtain ⟨x2, T2, hT2⟩ : ∃ x2 T2, T1 = x2 :: T2 := by
            cases T1 with
            | nil => exfalso; rw [List.length_nil] at hTl; omega
            | cons a b => exact ⟨a, b, rfl⟩
          have hT1v0 := hT1v
          rw [hT2] at hT1v0
          obtain ⟨hY, hT2v⟩ := hT1v0
          obtain ⟨hyne, hyp, hyb, hyl3⟩ := hTg x2 (by rw [hT2]; exact List.mem_cons_of_mem _ List.mem_cons_self)
          have hxy := hTp1 x2 (by rw [hT2]; exact List.mem_cons_self)
          have hyl1 := List.length_pos_iff.mpr hyne
          refine lv_aload_n hx hb dX4_up_22 rfl (lv_at hl 2 rfl) ?_
          refine hr_get EE hm hRs 11 (by decide) wf_X4_109 (v := .ref (ad 11)) rfl dX4_up_23 ?_
          refine lv_iload_n hx hb dX4_up_26 rfl (lv_at hl 0 rfl) ?_
          refine hr_ald EE hm hRs 11 nn (by decide) rfl (by show nn < 300; omega) (by decide) dX4_up_27 ?_
          refine lv_iconst (v := 1) hx hb dX4_up_28 (by decide) ?_
          refine lv_ishr hx hb dX4_up_29 ?_
          refine lv_aload_n hx hb dX4_up_30 rfl (lv_at hl 2 rfl) ?_
          refine hr_get EE hm hRs 11 (by decide) wf_X4_109 (v := .ref (ad 11)) rfl dX4_up_31 ?_
          refine lv_iload_n hx hb dX4_up_34 rfl (lv_at hl 0 rfl) ?_
          refine lv_iconst (v := 1) hx hb dX4_up_35 (by decide) ?_
          refine lv_iadd hx hb dX4_up_36 ?_
          refine hr_ald EE hm hRs 11 (nn + 1) (by decide) (add_n rfl rfl) (by show nn + 1 < 300; omega) (by decide) dX4_up_37 ?_
          refine lv_iconst (v := 1) hx hb dX4_up_38 (by decide) ?_
          refine lv_ishr hx hb dX4_up_39 ?_
          refine lv_icmp_ne (tgt := 47) hx hb dX4_up_40 (by decide) (fun c_40 => ?_) (fun c_40 => ?_)
          · have c_40 : ¬ (pfx s0 x / 2) = (pfx s0 x2 / 2) := fun h9 => c_40 ((eqN (a := pfx s0 x / 2) (b := pfx s0 x2 / 2) (by rw [hX.1]; exact sh1_n (by omega)) (by rw [hY.1]; exact sh1_n (by omega)) (by omega) (by omega)).mpr h9)
            have hmr : mrg s0 (x :: T1) = x :: mrg s0 T1 := by rw [hT2]; exact mrg_1 c_40
            refine lv_iconst (v := 0) hx hb dX4_up_47 (by decide) ?_
            obtain ⟨wg, hwg⟩ : ∃ zz9, zz9 = x := ⟨_, rfl⟩
            obtain ⟨zf, of9, hzf, hdg⟩ : ∃ zf of9 : Nat → Int32, (zf = if pfx s0 x % 2 = 1 then (fun _ => 0) else dgF s0 x) ∧ of9 = (if pfx s0 x % 2 = 1 then dgF s0 x else (fun _ => 0)) := ⟨_, _, rfl, rfl⟩
            refine lv_istore_n (lv' := [(3, .int 0), (2, .int (nI nn)), (1, .int (nI P.length)), (0, .ref y)]) hx hb dX4_up_48 rfl hl (by decide) rfl (fun ls hl => ?_)
            refine lv_iload_n hx hb dX4_up_49 rfl (lv_at hl 0 rfl) ?_
            refine lv_if_ne (tgt := 75) hx hb dX4_up_50 (by decide) (fun c9 => absurd rfl c9) (fun _ => ?_)
            refine lv_aload_n hx hb dX4_up_53 rfl (lv_at hl 3 rfl) ?_
            refine hr_get EE hm hRs 12 (by decide) wf_X4_112 (v := .ref (ad 12)) rfl dX4_up_54 ?_
            refine lv_iload_n hx hb dX4_up_57 rfl (lv_at hl 1 rfl) ?_
            refine hr_ald EE hm hRs 12 nn (by decide) rfl (by show nn < 300; omega) (by decide) dX4_up_58 ?_
            refine lv_iconst (v := 1) hx hb dX4_up_59 (by decide) ?_
            refine lv_icmp_ne (tgt := 75) hx hb dX4_up_60 (by decide) (fun c_60 => ?_) (fun c_60 => ?_)
            · have c_60 : ¬ x.length = 1 := fun h9 => c_60 ((eqN (a := x.length) (b := 1) hX.2.1 rfl (by omega) (by decide)).mpr h9)
              refine lv_iconst (v := 0) hx hb dX4_up_75 (by decide) ?_
              refine lv_istore (lv' := [(4, .int 0), (3, .int 0), (2, .int (nI nn)), (1, .int (nI P.length)), (0, .ref y)]) hx hb dX4_up_76 hl (by decide) rfl (fun ls hl => ?_)
              have hx2 : 2 ≤ x.length := by omega
              have lpb : ∀ (n u : Nat) (M2 : hM) (S2 : Nat → Nat → Int32)   (H : Heap) (locs : List Loc) (ls : Array Slot), 9 ≤ u + n → u ≤ 8 → (∀ k9, k9 ≠ 8 → S2 k9 = S1 k9) → (∀ i, i < u → ∀ k, k < 4 → S2 8 (1 + 32 * 0 + 4 * i + k) = byt (zf i) k) → (∀ i, i < u → ∀ k, k < 4 → S2 8 (1 + 32 * 1 + 4 * i + k) = byt (of9 i) k) → RS g M2 y ad S2 V → (∀ q, ¬ rO y ad q → M2 q = M q) → hp g M2 H → va_S (hA g) s.heap H locs → lv_has ls 6 [(4, .int (nI u)), (3, .int 0), (2, .int (nI nn)), (1, .int (nI P.length)), (0, .ref y)] → W p l e (hR 5 0 0) s m [.ref y].toArray below meth c H locs 0 0 Q (F0 m 78 ls []) := by
                intro n
                induction n with
                | zero => intro u M2 S2 H locs ls hnb hub ho2 hbz hbo; exact absurd hnb (by omega)
                | succ n ihb =>
                  intro u M2 S2 H locs ls hnb hub ho2 hbz hbo hRs hF hm hS hl
                  refine lv_iload hx hb dX4_up_78 (lv_at hl 0 rfl) ?_
                  refine lv_bipush (v := 8) hx hb dX4_up_80 (by decide) ?_
                  refine lv_icmp_ge (tgt := 186) hx hb dX4_up_82 (by decide) (fun c_82 => ?_) (fun c_82 => ?_)
                  · have c_82 : 8 ≤ u := (leN (a := 8) (b := u) rfl rfl (by decide) (by omega)).mp c_82
                    refine lv_aload_n hx hb dX4_up_186 rfl (lv_at hl 4 rfl) ?_
                    refine hp_cv (hp_runV (C := RX4) (T := TX4) (N := 24) (np := 0) (k := 4) (mc := 0) (ms := 0) (As := ([] : List Value)) (rest := []) EE hm hS (c_X4_join l g M2 y ad S2 V hRs (fun j hj => by rw [ho2 0 (by decide), hoth 0 (by decide)]; exact hk0 j hj) (fun j hj => by rw [ho2 1 (by decide), hoth 1 (by decide)]; exact hk1 j hj) zf of9 (fun i hi k hk => hbz i (by omega) k hk) (fun i hi k hk => hbo i (by omega) k hk)) ms_X4_join wi_X4_join ws_X4_join wl_X4_163 hRs.1 rfl rfl hl.1 rfl (Nat.le_of_ble_eq_true rfl) dX4_up_187 ⟨Nat.le_of_ble_eq_true rfl, Nat.le_of_ble_eq_true rfl⟩ ⟨(Nat.le_of_ble_eq_true rfl), (Nat.le_of_ble_eq_true rfl)⟩) hS (fun Mx21 H locs hq22 hm hS => ?_)
                    obtain ⟨S3, hRs, hF3, ho3, hh3⟩ := hq22
                    have hF : ∀ q, ¬ rO y ad q → Mx21 q = M q := fun q hq => (hF3 q hq).trans (hF q hq)
                    refine lv_iload_n hx hb dX4_up_190 rfl (lv_at hl 1 rfl) ?_
                    refine lv_if_eq (tgt := 212) hx hb dX4_up_191 (by decide) (fun _ => ?_) (fun c9 => absurd rfl c9)
                    refine lv_aload_n hx hb dX4_up_212 rfl (lv_at hl 4 rfl) ?_
                    refine hr_get EE hm hRs 12 (by decide) wf_X4_112 (v := .ref (ad 12)) rfl dX4_up_213 ?_
                    refine lv_iload_n hx hb dX4_up_216 rfl (lv_at hl 2 rfl) ?_
                    refine hr_ald EE hm hRs 12 nn (by decide) rfl (by show nn < 300; omega) (by decide) dX4_up_217 ?_
                    have hal : S3 12 nn = nI wg.length := by rw [hwg]; exact (by rw [ho3 12 (by decide) (by decide) (by decide), ho2 12 (by decide)]; exact hX.2.1)
                    rw [hal]
                    refine lv_istore (lv' := [(4, .int (nI wg.length)), (3, .int 0), (2, .int (nI nn)), (1, .int (nI P.length)), (0, .ref y)]) hx hb dX4_up_218 hl (by decide) rfl (fun ls hl => ?_)
                    refine lv_aload_n hx hb dX4_up_220 rfl (lv_at hl 4 rfl) ?_
                    refine lv_iload_n hx hb dX4_up_221 rfl (lv_at hl 2 rfl) ?_
                    refine lv_iload_n hx hb dX4_up_222 rfl (lv_at hl 3 rfl) ?_
                    refine hp_cv (hp_runV (C := RX4) (T := TX4) (N := 24) (np := 2) (k := 1) (mc := 0) (ms := 0) (As := [.int (nI nn), .int (nI P.length)]) (rest := []) EE hm hS (c_X4_copyNode l g Mx21 y ad S3 V hRs nn P.length hPl (by omega)) ms_X4_copyNode wi_X4_copyNode ws_X4_copyNode wl_X4_156 hRs.1 rfl rfl hl.1 rfl (Nat.le_of_ble_eq_true rfl) dX4_up_223 ⟨Nat.le_of_ble_eq_true rfl, Nat.le_of_ble_eq_true rfl⟩ ⟨(Nat.le_of_ble_eq_true rfl), (Nat.le_of_ble_eq_true rfl)⟩) hS (fun Mx23 H locs hq24 hm hS => ?_)
                    obtain ⟨S4, hRs, hF4, hc4o, hc4a, hc4b, h411, h412, h413, h414⟩ := hq24
                    have hF : ∀ q, ¬ rO y ad q → Mx23 q = M q := fun q hq => (hF4 q hq).trans (hF q hq)
                    refine lv_aload_n hx hb dX4_up_226 rfl (lv_at hl 4 rfl) ?_
                    refine hr_get EE hm hRs 12 (by decide) wf_X4_112 (v := .ref (ad 12)) rfl dX4_up_227 ?_
                    refine lv_iload_n hx hb dX4_up_230 rfl (lv_at hl 3 rfl) ?_
                    refine lv_iload hx hb dX4_up_231 (lv_at hl 0 rfl) ?_
                    refine hr_ast EE hm hS hRs hF 12 P.length (by decide) rfl (by show P.length < 300; omega) (by decide) dX4_up_233 (fun H locs Mx25 hm hS hRs hF => ?_)
                    obtain ⟨Sx26, hSx26⟩ : ∃ zz9, zz9 = sU S4 12 P.length (nI wg.length) := ⟨_, rfl⟩
                    rw [← hSx26] at hRs
                    refine lv_iconst (v := 0) hx hb dX4_up_234 (by decide) ?_
                    refine lv_istore (lv' := [(5, .int 0), (4, .int (nI wg.length)), (3, .int 0), (2, .int (nI nn)), (1, .int (nI P.length)), (0, .ref y)]) hx hb dX4_up_235 hl (by decide) rfl (fun ls hl => ?_)
                    have lpc : ∀ (n v : Nat) (M6 : hM) (S6 : Nat → Nat → Int32)   (H : Heap) (locs : List Loc) (ls : Array Slot), 9 ≤ v + n → v ≤ 8 → (∀ k9, k9 ≠ 14 → S6 k9 = Sx26 k9) → (∀ q, (q < 8 * P.length ∨ 8 * P.length + 8 ≤ q) → S6 14 q = Sx26 14 q) → (∀ j, j < v → S6 14 (8 * P.length + j) = hPair zf of9 j) → RS g M6 y ad S6 V → (∀ q, ¬ rO y ad q → M6 q = M q) → hp g M6 H → va_S (hA g) s.heap H locs → lv_has ls 6 [(5, .int (nI v)), (4, .int (nI wg.length)), (3, .int 0), (2, .int (nI nn)), (1, .int (nI P.length)), (0, .ref y)] → W p l e (hR 5 0 0) s m [.ref y].toArray below meth c H locs 0 0 Q (F0 m 237 ls []) := by
                      intro n
                      induction n with
                      | zero => intro v M6 S6 H locs ls hnc hvc ho6 hlow6 hd6; exact absurd hnc (by omega)
                      | succ n ihc =>
                        intro v M6 S6 H locs ls hnc hvc ho6 hlow6 hd6 hRs hF hm hS hl
                        refine lv_iload hx hb dX4_up_237 (lv_at hl 0 rfl) ?_
                        refine lv_bipush (v := 8) hx hb dX4_up_239 (by decide) ?_
                        refine lv_icmp_ge (tgt := 269) hx hb dX4_up_241 (by decide) (fun c_241 => ?_) (fun c_241 => ?_)
                        · have c_241 : 8 ≤ v := (leN (a := 8) (b := v) rfl rfl (by decide) (by omega)).mp c_241
                          have h31 : ∀ k9, (10 < k9) → S3 k9 = S1 k9 := fun k9 h9 => by rw [ho3 k9 (by omega) (by omega) (by omega), ho2 k9 (by omega)]
                          have hA9 : ∀ q, q ≠ P.length → S6 11 q = S1 11 q ∧ S6 12 q = S1 12 q ∧ S6 13 q = S1 13 q ∧ ∀ j, j < 8 → S6 14 (8 * q + j) = S1 14 (8 * q + j) := fun q hq => by
                            have h4 := hc4a q hq
                            rw [ho6 11 (by decide), ho6 12 (by decide), ho6 13 (by decide), hSx26, sU_o (by decide), sU_n hq, sU_o (by decide), h4.1, h4.2.1, h4.2.2, h31 11 (by decide), h31 12 (by decide), h31 13 (by decide)]
                            exact ⟨rfl, rfl, rfl, fun j hj => by rw [hlow6 _ (by omega), hSx26, sU_o (by decide), hc4b _ (by omega), h31 14 (by decide)]⟩
                          have hdw : dgF (s0 + 1) wg = hPair zf of9 := by
                            rw [hwg, hzf, hdg]
                            rw [dgF_up hxp hx2]
                            by_cases hp : pfx s0 x % 2 = 1
                            · rw [if_pos hp, if_pos hp, if_pos hp]
                            · rw [if_neg hp, if_neg hp, if_neg hp]
                          have hpw : pfx (s0 + 1) wg = pfx s0 x / 2 := by rw [hwg, pfx_up]
                          have hNew : LVL S6 (s0 + 1) 0 base (P ++ [wg]) ∧ LVL S6 s0 (nn + 1) (base + P.flatten.length + wg.length) T1 := by
                            refine LVL_new hPv (by omega) ?_ hA9 (by omega) ?_ ?_ ?_ (fun j hj => ?_)
                            · rw [hwg]; exact hT1v
                            · rw [hpw, ho6 11 (by decide), hSx26, sU_o (by decide), h411, h31 11 (by decide), hX.1, sh1_n (by omega)]
                            · rw [ho6 12 (by decide), hSx26, sU_i]
                            · rw [ho6 13 (by decide), hSx26, sU_o (by decide), h413, h31 13 (by decide)]; exact hX.2.2.1
                            · rw [hd6 j (by omega), hdw]
                          have hoN : ∀ k9, (k9 < 8 ∨ 14 < k9) → S6 k9 = S k9 := fun k9 h9 => by rw [ho6 k9 (by omega), hSx26, sU_o (by omega), hc4o k9 (by omega), ho3 k9 (by omega) (by omega) (by omega), ho2 k9 (by omega)]; exact hoth k9 h9
                          refine lv_iload_n hx hb dX4_up_269 rfl (lv_at hl 2 rfl) ?_
                          refine lv_if_eq (tgt := 279) hx hb dX4_up_270 (by decide) (fun _ => ?_) (fun c9 => absurd rfl c9)
                          refine lv_iload_n hx hb dX4_up_279 rfl (lv_at hl 3 rfl) ?_
                          refine lv_iconst (v := 1) hx hb dX4_up_280 (by decide) ?_
                          refine lv_iadd hx hb dX4_up_281 ?_
                          rw [show nI nn + 1 = nI (nn + 1) from add_n (b := 1) rfl rfl]
                          refine lv_istore_n (lv' := [(2, .int (nI (nn + 1))), (5, .int (nI v)), (4, .int (nI wg.length)), (3, .int 0), (1, .int (nI P.length)), (0, .ref y)]) hx hb dX4_up_282 rfl hl (by decide) rfl (fun ls hl => ?_)
                          refine lv_iinc (v := nI (P.length + 1)) (lv' := [(1, .int (nI (P.length + 1))), (2, .int (nI (nn + 1))), (5, .int (nI v)), (4, .int (nI wg.length)), (3, .int 0), (0, .ref y)]) hx hb dX4_up_283 hl (k := 4) rfl (inc_n rfl) (by decide) rfl (fun ls hl => ?_)
                          refine lv_goto (tgt := 4) hx hb dX4_up_286 (by decide) ?_
                          have hlen9 : (P ++ [wg]).length = P.length + 1 := by rw [List.length_append]; rfl
                          have hfl9 : base + (P ++ [wg]).flatten.length = base + P.flatten.length + wg.length := by rw [List.flatten_append, List.length_append]; simp; omega
                          refine ih (nn + 1) M6 S6 (P ++ [wg]) T1 H locs ls (by omega) (by omega) (by rw [hlen9]; omega) ?_ hNew.1 (by rw [hfl9]; exact hNew.2) (fun v hv => hTg v (List.mem_cons_of_mem _ hv)) hTp2 hoN hRs hF hm hS (lv_sub hl [1, 0, 5] (by rw [hlen9]; rfl))
                          rw [hmg, hmr, List.append_assoc, ← hwg]
                          rfl
                        · have c_241 : ¬ 8 ≤ v := fun h9 => c_241 ((leN (a := 8) (b := v) rfl rfl (by decide) (by omega)).mpr h9)
                          refine lv_aload_n hx hb dX4_up_244 rfl (lv_at hl 5 rfl) ?_
                          refine hr_get EE hm hRs 14 (by decide) wf_X4_118 (v := .ref (ad 14)) rfl dX4_up_245 ?_
                          refine lv_bipush (v := 8) hx hb dX4_up_248 (by decide) ?_
                          refine lv_iload_n hx hb dX4_up_250 rfl (lv_at hl 4 rfl) ?_
                          refine lv_imul hx hb dX4_up_251 ?_
                          refine lv_iload hx hb dX4_up_252 (lv_at hl 0 rfl) ?_
                          refine lv_iadd hx hb dX4_up_254 ?_
                          refine lv_aload_n hx hb dX4_up_255 rfl (lv_at hl 5 rfl) ?_
                          refine hr_get EE hm hRs 10 (by decide) wf_X4_106 (v := .ref (ad 10)) rfl dX4_up_256 ?_
                          refine lv_iload hx hb dX4_up_259 (lv_at hl 0 rfl) ?_
                          refine hr_ald EE hm hRs 10 v (by decide) rfl (by show v < 8; omega) (by decide) dX4_up_261 ?_
                          refine hr_ast EE hm hS hRs hF 14 ((8 * P.length) + v) (by decide) (add_n (mul_n rfl rfl) rfl) (by show (8 * P.length) + v < 2400; omega) (by decide) dX4_up_262 (fun H locs Mx27 hm hS hRs hF => ?_)
                          obtain ⟨Sx28, hSx28⟩ : ∃ zz9, zz9 = sU S6 14 ((8 * P.length) + v) (S6 10 v) := ⟨_, rfl⟩
                          rw [← hSx28] at hRs
                          refine lv_iinc (v := nI (v + 1)) (lv' := [(5, .int (nI (v + 1))), (4, .int (nI wg.length)), (3, .int 0), (2, .int (nI nn)), (1, .int (nI P.length)), (0, .ref y)]) hx hb dX4_up_263 hl (k := 0) rfl (inc_n rfl) (by decide) rfl (fun ls hl => ?_)
                          refine lv_goto (tgt := 237) hx hb dX4_up_266 (by decide) ?_
                          refine ihc (v + 1) Mx27 Sx28 H locs ls (by omega) (by omega) (fun k9 hk9 => by rw [hSx28, sU_o hk9]; exact ho6 k9 hk9) (fun q hq => by rw [hSx28, sU_n (by omega)]; exact hlow6 q hq) (fun j hj => ?_) hRs hF hm hS (lv_sub hl [0, 1, 2, 3, 4, 5] rfl)
                          by_cases t : j = v
                          · subst t; rw [hSx28, sU_i, ho6 10 (by decide), hSx26, sU_o (by decide), hc4o 10 (by decide)]; exact hh3 j (by omega)
                          · rw [hSx28, sU_n (by omega)]; exact hd6 j (by omega)
                    exact lpc 9 0 Mx25 Sx26 H locs ls (by omega) (by omega) (fun _ _ => rfl) (fun _ _ => rfl) (fun j h => absurd h (Nat.not_lt_zero j)) hRs hF hm hS (lv_sub hl [0, 1, 2, 3, 4, 5] rfl)
                  · have c_82 : ¬ 8 ≤ u := fun h9 => c_82 ((leN (a := 8) (b := u) rfl rfl (by decide) (by omega)).mpr h9)
                    refine lv_aload_n hx hb dX4_up_85 rfl (lv_at hl 4 rfl) ?_
                    refine lv_iconst (v := 0) hx hb dX4_up_86 (by decide) ?_
                    refine lv_iload hx hb dX4_up_87 (lv_at hl 0 rfl) ?_
                    refine lv_iload_n hx hb dX4_up_89 rfl (lv_at hl 1 rfl) ?_
                    refine lv_if_ne (tgt := 104) hx hb dX4_up_90 (by decide) (fun c9 => absurd rfl c9) (fun _ => ?_)
                    refine lv_aload_n hx hb dX4_up_93 rfl (lv_at hl 4 rfl) ?_
                    refine hr_get EE hm hRs 11 (by decide) wf_X4_109 (v := .ref (ad 11)) rfl dX4_up_94 ?_
                    refine lv_iload_n hx hb dX4_up_97 rfl (lv_at hl 2 rfl) ?_
                    refine hr_ald EE hm hRs 11 nn (by decide) rfl (by show nn < 300; omega) (by decide) dX4_up_98 ?_
                    refine lv_iconst (v := 1) hx hb dX4_up_99 (by decide) ?_
                    refine lv_iand hx hb dX4_up_100 ?_
                    refine lv_if_ne (tgt := 119) hx hb dX4_up_101 (by decide) (fun c_101 => ?_) (fun c_101 => ?_)
                    · have c_101 : ¬ (pfx s0 x % 2) = 0 := fun h9 => c_101 ((eqN (a := pfx s0 x % 2) (b := 0) (by rw [ho2 11 (by decide), hX.1]; exact and1_n (by omega)) rfl (by omega) (by decide)).mpr h9)
                      refine lv_iconst (v := 0) hx hb dX4_up_119 (by decide) ?_
                      refine hp_cv (hp_runV (C := RX4) (T := TX4) (N := 24) (np := 3) (k := 1) (mc := 0) (ms := 0) (As := [.int 0, .int (nI u), .int 0]) (rest := []) EE hm hS (c_X4_half l g M2 y ad S2 V hRs 0 u (by decide) (by omega) (0)) ms_X4_half wi_X4_half ws_X4_half wl_X4_159 hRs.1 rfl rfl hl.1 rfl (Nat.le_of_ble_eq_true rfl) dX4_up_120 ⟨Nat.le_of_ble_eq_true rfl, Nat.le_of_ble_eq_true rfl⟩ ⟨(Nat.le_of_ble_eq_true rfl), (Nat.le_of_ble_eq_true rfl)⟩) hS (fun Mx29 H locs hq30 hm hS => ?_)
                      obtain ⟨Sh, hRs, hFh, hoh, hlh, hvh⟩ := hq30
                      have hF : ∀ q, ¬ rO y ad q → Mx29 q = M q := fun q hq => (hFh q hq).trans (hF q hq)
                      have hzu : (0 : Int32) = zf u := by rw [hzf, if_pos (by omega)]
                      refine lv_aload_n hx hb dX4_up_123 rfl (lv_at hl 4 rfl) ?_
                      refine lv_iconst (v := 1) hx hb dX4_up_124 (by decide) ?_
                      refine lv_iload hx hb dX4_up_125 (lv_at hl 0 rfl) ?_
                      refine lv_iload_n hx hb dX4_up_127 rfl (lv_at hl 1 rfl) ?_
                      refine lv_if_eq (tgt := 149) hx hb dX4_up_128 (by decide) (fun _ => ?_) (fun c9 => absurd rfl c9)
                      refine lv_aload_n hx hb dX4_up_149 rfl (lv_at hl 4 rfl) ?_
                      refine hr_get EE hm hRs 11 (by decide) wf_X4_109 (v := .ref (ad 11)) rfl dX4_up_150 ?_
                      refine lv_iload_n hx hb dX4_up_153 rfl (lv_at hl 2 rfl) ?_
                      refine hr_ald EE hm hRs 11 nn (by decide) rfl (by show nn < 300; omega) (by decide) dX4_up_154 ?_
                      refine lv_iconst (v := 1) hx hb dX4_up_155 (by decide) ?_
                      refine lv_iand hx hb dX4_up_156 ?_
                      refine lv_iconst (v := 1) hx hb dX4_up_157 (by decide) ?_
                      refine lv_icmp_ne (tgt := 176) hx hb dX4_up_158 (by decide) (fun c_158 => ?_) (fun c_158 => ?_)
                      · have c_158 : ¬ (pfx s0 x % 2) = 1 := fun h9 => c_158 ((eqN (a := pfx s0 x % 2) (b := 1) (by rw [hoh 11 (by decide), ho2 11 (by decide), hX.1]; exact and1_n (by omega)) rfl (by omega) (by decide)).mpr h9)
                        exact absurd c_158 (by omega)
                      · have c_158 : (pfx s0 x % 2) = 1 := (eqN (a := pfx s0 x % 2) (b := 1) (by rw [hoh 11 (by decide), ho2 11 (by decide), hX.1]; exact and1_n (by omega)) rfl (by omega) (by decide)).mp c_158
                        refine lv_aload_n hx hb dX4_up_161 rfl (lv_at hl 4 rfl) ?_
                        refine hr_get EE hm hRs 14 (by decide) wf_X4_118 (v := .ref (ad 14)) rfl dX4_up_162 ?_
                        refine lv_bipush (v := 8) hx hb dX4_up_165 (by decide) ?_
                        refine lv_iload_n hx hb dX4_up_167 rfl (lv_at hl 2 rfl) ?_
                        refine lv_imul hx hb dX4_up_168 ?_
                        refine lv_iload hx hb dX4_up_169 (lv_at hl 0 rfl) ?_
                        refine lv_iadd hx hb dX4_up_171 ?_
                        refine hr_ald EE hm hRs 14 ((8 * nn) + u) (by decide) (add_n (mul_n rfl rfl) rfl) (by show (8 * nn) + u < 2400; omega) (by decide) dX4_up_172 ?_
                        refine lv_goto (tgt := 177) hx hb dX4_up_173 (by decide) ?_
                        refine hp_cv (hp_runV (C := RX4) (T := TX4) (N := 24) (np := 3) (k := 1) (mc := 0) (ms := 0) (As := [.int 1, .int (nI u), .int (Sh 14 ((8 * nn) + u))]) (rest := []) EE hm hS (c_X4_half l g Mx29 y ad Sh V hRs 1 u (by decide) (by omega) (Sh 14 ((8 * nn) + u))) ms_X4_half wi_X4_half ws_X4_half wl_X4_159 hRs.1 rfl rfl hl.1 rfl (Nat.le_of_ble_eq_true rfl) dX4_up_177 ⟨Nat.le_of_ble_eq_true rfl, Nat.le_of_ble_eq_true rfl⟩ ⟨(Nat.le_of_ble_eq_true rfl), (Nat.le_of_ble_eq_true rfl)⟩) hS (fun Mx31 H locs hq32 hm hS => ?_)
                        obtain ⟨Si, hRs, hFi, hoi, hli, hvi⟩ := hq32
                        have hF : ∀ q, ¬ rO y ad q → Mx31 q = M q := fun q hq => (hFi q hq).trans (hF q hq)
                        have hou : Sh 14 ((8 * nn) + u) = of9 u := by rw [hdg, if_pos (by omega), hoh 14 (by decide), ho2 14 (by decide)]; exact hX.2.2.2 u (by omega)
                        refine lv_iinc (v := nI (u + 1)) (lv' := [(4, .int (nI (u + 1))), (3, .int 0), (2, .int (nI nn)), (1, .int (nI P.length)), (0, .ref y)]) hx hb dX4_up_180 hl (k := 0) rfl (inc_n rfl) (by decide) rfl (fun ls hl => ?_)
                        refine lv_goto (tgt := 78) hx hb dX4_up_183 (by decide) ?_
                        refine ihb (u + 1) Mx31 Si H locs ls (by omega) (by omega) (fun k9 h9 => by rw [hoi k9 h9, hoh k9 h9]; exact ho2 k9 h9) (fun i hi k hk => ?_) (fun i hi k hk => ?_) hRs hF hm hS (lv_sub hl [0, 1, 2, 3, 4] rfl)
                        · rw [hli _ (by omega)]
                          by_cases t : i = u
                          · subst t; rw [← hzu]; exact hvh k hk
                          · rw [hlh _ (by omega)]; exact hbz i (by omega) k hk
                        · by_cases t : i = u
                          · subst t; rw [← hou]; exact hvi k hk
                          · rw [hli _ (by omega), hlh _ (by omega)]; exact hbo i (by omega) k hk
                    · have c_101 : (pfx s0 x % 2) = 0 := (eqN (a := pfx s0 x % 2) (b := 0) (by rw [ho2 11 (by decide), hX.1]; exact and1_n (by omega)) rfl (by omega) (by decide)).mp c_101
                      refine lv_aload_n hx hb dX4_up_104 rfl (lv_at hl 4 rfl) ?_
                      refine hr_get EE hm hRs 14 (by decide) wf_X4_118 (v := .ref (ad 14)) rfl dX4_up_105 ?_
                      refine lv_bipush (v := 8) hx hb dX4_up_108 (by decide) ?_
                      refine lv_iload_n hx hb dX4_up_110 rfl (lv_at hl 2 rfl) ?_
                      refine lv_imul hx hb dX4_up_111 ?_
                      refine lv_iload hx hb dX4_up_112 (lv_at hl 0 rfl) ?_
                      refine lv_iadd hx hb dX4_up_114 ?_
                      refine hr_ald EE hm hRs 14 ((8 * nn) + u) (by decide) (add_n (mul_n rfl rfl) rfl) (by show (8 * nn) + u < 2400; omega) (by decide) dX4_up_115 ?_
                      refine lv_goto (tgt := 120) hx hb dX4_up_116 (by decide) ?_
                      refine hp_cv (hp_runV (C := RX4) (T := TX4) (N := 24) (np := 3) (k := 1) (mc := 0) (ms := 0) (As := [.int 0, .int (nI u), .int (S2 14 ((8 * nn) + u))]) (rest := []) EE hm hS (c_X4_half l g M2 y ad S2 V hRs 0 u (by decide) (by omega) (S2 14 ((8 * nn) + u))) ms_X4_half wi_X4_half ws_X4_half wl_X4_159 hRs.1 rfl rfl hl.1 rfl (Nat.le_of_ble_eq_true rfl) dX4_up_120 ⟨Nat.le_of_ble_eq_true rfl, Nat.le_of_ble_eq_true rfl⟩ ⟨(Nat.le_of_ble_eq_true rfl), (Nat.le_of_ble_eq_true rfl)⟩) hS (fun Mx33 H locs hq34 hm hS => ?_)
                      obtain ⟨Sh, hRs, hFh, hoh, hlh, hvh⟩ := hq34
                      have hF : ∀ q, ¬ rO y ad q → Mx33 q = M q := fun q hq => (hFh q hq).trans (hF q hq)
                      have hzu : S2 14 ((8 * nn) + u) = zf u := by rw [hzf, if_neg (by omega), ho2 14 (by decide)]; exact hX.2.2.2 u (by omega)
                      refine lv_aload_n hx hb dX4_up_123 rfl (lv_at hl 4 rfl) ?_
                      refine lv_iconst (v := 1) hx hb dX4_up_124 (by decide) ?_
                      refine lv_iload hx hb dX4_up_125 (lv_at hl 0 rfl) ?_
                      refine lv_iload_n hx hb dX4_up_127 rfl (lv_at hl 1 rfl) ?_
                      refine lv_if_eq (tgt := 149) hx hb dX4_up_128 (by decide) (fun _ => ?_) (fun c9 => absurd rfl c9)
                      refine lv_aload_n hx hb dX4_up_149 rfl (lv_at hl 4 rfl) ?_
                      refine hr_get EE hm hRs 11 (by decide) wf_X4_109 (v := .ref (ad 11)) rfl dX4_up_150 ?_
                      refine lv_iload_n hx hb dX4_up_153 rfl (lv_at hl 2 rfl) ?_
                      refine hr_ald EE hm hRs 11 nn (by decide) rfl (by show nn < 300; omega) (by decide) dX4_up_154 ?_
                      refine lv_iconst (v := 1) hx hb dX4_up_155 (by decide) ?_
                      refine lv_iand hx hb dX4_up_156 ?_
                      refine lv_iconst (v := 1) hx hb dX4_up_157 (by decide) ?_
                      refine lv_icmp_ne (tgt := 176) hx hb dX4_up_158 (by decide) (fun c_158 => ?_) (fun c_158 => ?_)
                      · have c_158 : ¬ (pfx s0 x % 2) = 1 := fun h9 => c_158 ((eqN (a := pfx s0 x % 2) (b := 1) (by rw [hoh 11 (by decide), ho2 11 (by decide), hX.1]; exact and1_n (by omega)) rfl (by omega) (by decide)).mpr h9)
                        refine lv_iconst (v := 0) hx hb dX4_up_176 (by decide) ?_
                        refine hp_cv (hp_runV (C := RX4) (T := TX4) (N := 24) (np := 3) (k := 1) (mc := 0) (ms := 0) (As := [.int 1, .int (nI u), .int 0]) (rest := []) EE hm hS (c_X4_half l g Mx33 y ad Sh V hRs 1 u (by decide) (by omega) (0)) ms_X4_half wi_X4_half ws_X4_half wl_X4_159 hRs.1 rfl rfl hl.1 rfl (Nat.le_of_ble_eq_true rfl) dX4_up_177 ⟨Nat.le_of_ble_eq_true rfl, Nat.le_of_ble_eq_true rfl⟩ ⟨(Nat.le_of_ble_eq_true rfl), (Nat.le_of_ble_eq_true rfl)⟩) hS (fun Mx35 H locs hq36 hm hS => ?_)
                        obtain ⟨Si, hRs, hFi, hoi, hli, hvi⟩ := hq36
                        have hF : ∀ q, ¬ rO y ad q → Mx35 q = M q := fun q hq => (hFi q hq).trans (hF q hq)
                        have hou : (0 : Int32) = of9 u := by rw [hdg, if_neg (by omega)]
                        refine lv_iinc (v := nI (u + 1)) (lv' := [(4, .int (nI (u + 1))), (3, .int 0), (2, .int (nI nn)), (1, .int (nI P.length)), (0, .ref y)]) hx hb dX4_up_180 hl (k := 0) rfl (inc_n rfl) (by decide) rfl (fun ls hl => ?_)
                        refine lv_goto (tgt := 78) hx hb dX4_up_183 (by decide) ?_
                        refine ihb (u + 1) Mx35 Si H locs ls (by omega) (by omega) (fun k9 h9 => by rw [hoi k9 h9, hoh k9 h9]; exact ho2 k9 h9) (fun i hi k hk => ?_) (fun i hi k hk => ?_) hRs hF hm hS (lv_sub hl [0, 1, 2, 3, 4] rfl)
                        · rw [hli _ (by omega)]
                          by_cases t : i = u
                          · subst t; rw [← hzu]; exact hvh k hk
                          · rw [hlh _ (by omega)]; exact hbz i (by omega) k hk
                        · by_cases t : i = u
                          · subst t; rw [← hou]; exact hvi k hk
                          · rw [hli _ (by omega), hlh _ (by omega)]; exact hbo i (by omega) k hk
                      · have c_158 : (pfx s0 x % 2) = 1 := (eqN (a := pfx s0 x % 2) (b := 1) (by rw [hoh 11 (by decide), ho2 11 (by decide), hX.1]; exact and1_n (by omega)) rfl (by omega) (by decide)).mp c_158
                        exact absurd c_158 (by omega)
              exact lpb 9 0 M1 S1 H locs ls (by omega) (by omega) (fun _ _ => rfl) (fun i h => absurd h (Nat.not_lt_zero i)) (fun i h => absurd h (Nat.not_lt_zero i)) hRs hF hm hS (lv_sub hl [0, 1, 2, 3, 4] rfl)
            · have c_60 : x.length = 1 := (eqN (a := x.length) (b := 1) hX.2.1 rfl (by omega) (by decide)).mp c_60
              refine lv_aload_n hx hb dX4_up_63 rfl (lv_at hl 3 rfl) ?_
              refine lv_iload_n hx hb dX4_up_64 rfl (lv_at hl 1 rfl) ?_
              refine lv_iload_n hx hb dX4_up_65 rfl (lv_at hl 2 rfl) ?_
              refine hp_cv (hp_runV (C := RX4) (T := TX4) (N := 24) (np := 2) (k := 1) (mc := 0) (ms := 0) (As := [.int (nI nn), .int (nI P.length)]) (rest := []) EE hm hS (c_X4_copyNode l g M1 y ad S1 V hRs nn P.length hPl (by omega)) ms_X4_copyNode wi_X4_copyNode ws_X4_copyNode wl_X4_156 hRs.1 rfl rfl hl.1 rfl (Nat.le_of_ble_eq_true rfl) dX4_up_66 ⟨Nat.le_of_ble_eq_true rfl, Nat.le_of_ble_eq_true rfl⟩ ⟨(Nat.le_of_ble_eq_true rfl), (Nat.le_of_ble_eq_true rfl)⟩) hS (fun Mx37 H locs hq38 hm hS => ?_)
              obtain ⟨S4, hRs, hF4, hc4o, hc4a, hc4b, h411, h412, h413, h414⟩ := hq38
              have hF : ∀ q, ¬ rO y ad q → Mx37 q = M q := fun q hq => (hF4 q hq).trans (hF q hq)
              have hNew : LVL S4 (s0 + 1) 0 base (P ++ [wg]) ∧ LVL S4 s0 (nn + 1) (base + P.flatten.length + wg.length) T1 := by
                rw [hwg]
                refine LVL_new hPv (by omega) hT1v (fun q hq => ⟨(hc4a q hq).1, (hc4a q hq).2.1, (hc4a q hq).2.2, fun j hj => hc4b _ (by omega)⟩) (by omega) ?_ ?_ ?_ (fun j hj => ?_)
                · rw [h411, hX.1, sh1_n (by omega), pfx_up]
                · rw [h412]; exact hX.2.1
                · rw [h413]; exact hX.2.2.1
                · rw [h414 j hj, dgF_up1 c_60]; exact hX.2.2.2 j hj
              have hoN : ∀ k9, (k9 < 8 ∨ 14 < k9) → S4 k9 = S k9 := fun k9 h9 => by rw [hc4o k9 (by omega)]; exact hoth k9 h9
              refine lv_iinc (v := nI (nn + 1)) (lv' := [(2, .int (nI (nn + 1))), (3, .int 0), (1, .int (nI P.length)), (0, .ref y)]) hx hb dX4_up_69 hl (k := 1) rfl (inc_n rfl) (by decide) rfl (fun ls hl => ?_)
              refine lv_goto (tgt := 283) hx hb dX4_up_72 (by decide) ?_
              refine lv_iinc (v := nI (P.length + 1)) (lv' := [(1, .int (nI (P.length + 1))), (2, .int (nI (nn + 1))), (3, .int 0), (0, .ref y)]) hx hb dX4_up_283 hl (k := 2) rfl (inc_n rfl) (by decide) rfl (fun ls hl => ?_)
              refine lv_goto (tgt := 4) hx hb dX4_up_286 (by decide) ?_
              have hlen9 : (P ++ [wg]).length = P.length + 1 := by rw [List.length_append]; rfl
              have hfl9 : base + (P ++ [wg]).flatten.length = base + P.flatten.length + wg.length := by rw [List.flatten_append, List.length_append]; simp; omega
              refine ih (nn + 1) Mx37 S4 (P ++ [wg]) T1 H locs ls (by omega) (by omega) (by rw [hlen9]; omega) ?_ hNew.1 (by rw [hfl9]; exact hNew.2) (fun v hv => hTg v (List.mem_cons_of_mem _ hv)) hTp2 hoN hRs hF hm hS (lv_sub hl [1, 0, 3] (by rw [hlen9]; rfl))
              rw [hmg, hmr, List.append_assoc, ← hwg]
              rfl
          · have c_40 : (pfx s0 x / 2) = (pfx s0 x2 / 2) := (eqN (a := pfx s0 x / 2) (b := pfx s0 x2 / 2) (by rw [hX.1]; exact sh1_n (by omega)) (by rw [hY.1]; exact sh1_n (by omega)) (by omega) (by omega)).mp c_40
            have hmr : mrg s0 (x :: T1) = (x ++ x2) :: mrg s0 T2 := by rw [hT2]; exact mrg_2 c_40
            have hTl2 : nn + (T2.length + 1 + 1) = G.length := by rw [hT2, List.length_cons] at hTl; exact hTl
            refine lv_iconst (v := 1) hx hb dX4_up_43 (by decide) ?_
            refine lv_goto (tgt := 48) hx hb dX4_up_44 (by decide) ?_
            obtain ⟨wg, hwg⟩ : ∃ zz9, zz9 = x ++ x2 := ⟨_, rfl⟩
            obtain ⟨zf, of9, hzf, hdg⟩ : ∃ zf of9 : Nat → Int32, zf = dgF s0 x ∧ of9 = dgF s0 x2 := ⟨_, _, rfl, rfl⟩
            refine lv_istore_n (lv' := [(3, .int 1), (2, .int (nI nn)), (1, .int (nI P.length)), (0, .ref y)]) hx hb dX4_up_48 rfl hl (by decide) rfl (fun ls hl => ?_)
            refine lv_iload_n hx hb dX4_up_49 rfl (lv_at hl 0 rfl) ?_
            refine lv_if_ne (tgt := 75) hx hb dX4_up_50 (by decide) (fun _ => ?_) (fun c9 => absurd c9 (by decide))
            refine lv_iconst (v := 0) hx hb dX4_up_75 (by decide) ?_
            refine lv_istore (lv' := [(4, .int 0), (3, .int 1), (2, .int (nI nn)), (1, .int (nI P.length)), (0, .ref y)]) hx hb dX4_up_76 hl (by decide) rfl (fun ls hl => ?_)
            have lpb : ∀ (n u : Nat) (M2 : hM) (S2 : Nat → Nat → Int32)   (H : Heap) (locs : List Loc) (ls : Array Slot), 9 ≤ u + n → u ≤ 8 → (∀ k9, k9 ≠ 8 → S2 k9 = S1 k9) → (∀ i, i < u → ∀ k, k < 4 → S2 8 (1 + 32 * 0 + 4 * i + k) = byt (zf i) k) → (∀ i, i < u → ∀ k, k < 4 → S2 8 (1 + 32 * 1 + 4 * i + k) = byt (of9 i) k) → RS g M2 y ad S2 V → (∀ q, ¬ rO y ad q → M2 q = M q) → hp g M2 H → va_S (hA g) s.heap H locs → lv_has ls 6 [(4, .int (nI u)), (3, .int 1), (2, .int (nI nn)), (1, .int (nI P.length)), (0, .ref y)] → W p l e (hR 5 0 0) s m [.ref y].toArray below meth c H locs 0 0 Q (F0 m 78 ls []) := by
              intro n
              induction n with
              | zero => intro u M2 S2 H locs ls hnb hub ho2 hbz hbo; exact absurd hnb (by omega)
              | succ n ihb =>
                intro u M2 S2 H locs ls hnb hub ho2 hbz hbo hRs hF hm hS hl
                refine lv_iload hx hb dX4_up_78 (lv_at hl 0 rfl) ?_
                refine lv_bipush (v := 8) hx hb dX4_up_80 (by decide) ?_
                refine lv_icmp_ge (tgt := 186) hx hb dX4_up_82 (by decide) (fun c_82 => ?_) (fun c_82 => ?_)
                · have c_82 : 8 ≤ u := (leN (a := 8) (b := u) rfl rfl (by decide) (by omega)).mp c_82
                  refine lv_aload_n hx hb dX4_up_186 rfl (lv_at hl 4 rfl) ?_
                  refine hp_cv (hp_runV (C := RX4) (T := TX4) (N := 24) (np := 0) (k := 4) (mc := 0) (ms := 0) (As := ([] : List Value)) (rest := []) EE hm hS (c_X4_join l g M2 y ad S2 V hRs (fun j hj => by rw [ho2 0 (by decide), hoth 0 (by decide)]; exact hk0 j hj) (fun j hj => by rw [ho2 1 (by decide), hoth 1 (by decide)]; exact hk1 j hj) zf of9 (fun i hi k hk => hbz i (by omega) k hk) (fun i hi k hk => hbo i (by omega) k hk)) ms_X4_join wi_X4_join ws_X4_join wl_X4_163 hRs.1 rfl rfl hl.1 rfl (Nat.le_of_ble_eq_true rfl) dX4_up_187 ⟨Nat.le_of_ble_eq_true rfl, Nat.le_of_ble_eq_true rfl⟩ ⟨(Nat.le_of_ble_eq_true rfl), (Nat.le_of_ble_eq_true rfl)⟩) hS (fun Mx39 H locs hq40 hm hS => ?_)
                  obtain ⟨S3, hRs, hF3, ho3, hh3⟩ := hq40
                  have hF : ∀ q, ¬ rO y ad q → Mx39 q = M q := fun q hq => (hF3 q hq).trans (hF q hq)
                  refine lv_iload_n hx hb dX4_up_190 rfl (lv_at hl 1 rfl) ?_
                  refine lv_if_eq (tgt := 212) hx hb dX4_up_191 (by decide) (fun c9 => absurd c9 (by decide)) (fun _ => ?_)
                  refine lv_aload_n hx hb dX4_up_194 rfl (lv_at hl 4 rfl) ?_
                  refine hr_get EE hm hRs 12 (by decide) wf_X4_112 (v := .ref (ad 12)) rfl dX4_up_195 ?_
                  refine lv_iload_n hx hb dX4_up_198 rfl (lv_at hl 2 rfl) ?_
                  refine hr_ald EE hm hRs 12 nn (by decide) rfl (by show nn < 300; omega) (by decide) dX4_up_199 ?_
                  refine lv_aload_n hx hb dX4_up_200 rfl (lv_at hl 4 rfl) ?_
                  refine hr_get EE hm hRs 12 (by decide) wf_X4_112 (v := .ref (ad 12)) rfl dX4_up_201 ?_
                  refine lv_iload_n hx hb dX4_up_204 rfl (lv_at hl 2 rfl) ?_
                  refine lv_iconst (v := 1) hx hb dX4_up_205 (by decide) ?_
                  refine lv_iadd hx hb dX4_up_206 ?_
                  refine hr_ald EE hm hRs 12 (nn + 1) (by decide) (add_n rfl rfl) (by show nn + 1 < 300; omega) (by decide) dX4_up_207 ?_
                  refine lv_iadd hx hb dX4_up_208 ?_
                  refine lv_goto (tgt := 218) hx hb dX4_up_209 (by decide) ?_
                  have hal : (S3 12 nn) + (S3 12 (nn + 1)) = nI wg.length := by rw [hwg, List.length_append]; exact (add_n (by rw [ho3 12 (by decide) (by decide) (by decide), ho2 12 (by decide)]; exact hX.2.1) (by rw [ho3 12 (by decide) (by decide) (by decide), ho2 12 (by decide)]; exact hY.2.1))
                  rw [hal]
                  refine lv_istore (lv' := [(4, .int (nI wg.length)), (3, .int 1), (2, .int (nI nn)), (1, .int (nI P.length)), (0, .ref y)]) hx hb dX4_up_218 hl (by decide) rfl (fun ls hl => ?_)
                  refine lv_aload_n hx hb dX4_up_220 rfl (lv_at hl 4 rfl) ?_
                  refine lv_iload_n hx hb dX4_up_221 rfl (lv_at hl 2 rfl) ?_
                  refine lv_iload_n hx hb dX4_up_222 rfl (lv_at hl 3 rfl) ?_
                  refine hp_cv (hp_runV (C := RX4) (T := TX4) (N := 24) (np := 2) (k := 1) (mc := 0) (ms := 0) (As := [.int (nI nn), .int (nI P.length)]) (rest := []) EE hm hS (c_X4_copyNode l g Mx39 y ad S3 V hRs nn P.length hPl (by omega)) ms_X4_copyNode wi_X4_copyNode ws_X4_copyNode wl_X4_156 hRs.1 rfl rfl hl.1 rfl (Nat.le_of_ble_eq_true rfl) dX4_up_223 ⟨Nat.le_of_ble_eq_true rfl, Nat.le_of_ble_eq_true rfl⟩ ⟨(Nat.le_of_ble_eq_true rfl), (Nat.le_of_ble_eq_true rfl)⟩) hS (fun Mx41 H locs hq42 hm hS => ?_)
                  obtain ⟨S4, hRs, hF4, hc4o, hc4a, hc4b, h411, h412, h413, h414⟩ := hq42
                  have hF : ∀ q, ¬ rO y ad q → Mx41 q = M q := fun q hq => (hF4 q hq).trans (hF q hq)
                  refine lv_aload_n hx hb dX4_up_226 rfl (lv_at hl 4 rfl) ?_
                  refine hr_get EE hm hRs 12 (by decide) wf_X4_112 (v := .ref (ad 12)) rfl dX4_up_227 ?_
                  refine lv_iload_n hx hb dX4_up_230 rfl (lv_at hl 3 rfl) ?_
                  refine lv_iload hx hb dX4_up_231 (lv_at hl 0 rfl) ?_
                  refine hr_ast EE hm hS hRs hF 12 P.length (by decide) rfl (by show P.length < 300; omega) (by decide) dX4_up_233 (fun H locs Mx43 hm hS hRs hF => ?_)
                  obtain ⟨Sx44, hSx44⟩ : ∃ zz9, zz9 = sU S4 12 P.length (nI wg.length) := ⟨_, rfl⟩
                  rw [← hSx44] at hRs
                  refine lv_iconst (v := 0) hx hb dX4_up_234 (by decide) ?_
                  refine lv_istore (lv' := [(5, .int 0), (4, .int (nI wg.length)), (3, .int 1), (2, .int (nI nn)), (1, .int (nI P.length)), (0, .ref y)]) hx hb dX4_up_235 hl (by decide) rfl (fun ls hl => ?_)
                  have lpc : ∀ (n v : Nat) (M6 : hM) (S6 : Nat → Nat → Int32)   (H : Heap) (locs : List Loc) (ls : Array Slot), 9 ≤ v + n → v ≤ 8 → (∀ k9, k9 ≠ 14 → S6 k9 = Sx44 k9) → (∀ q, (q < 8 * P.length ∨ 8 * P.length + 8 ≤ q) → S6 14 q = Sx44 14 q) → (∀ j, j < v → S6 14 (8 * P.length + j) = hPair zf of9 j) → RS g M6 y ad S6 V → (∀ q, ¬ rO y ad q → M6 q = M q) → hp g M6 H → va_S (hA g) s.heap H locs → lv_has ls 6 [(5, .int (nI v)), (4, .int (nI wg.length)), (3, .int 1), (2, .int (nI nn)), (1, .int (nI P.length)), (0, .ref y)] → W p l e (hR 5 0 0) s m [.ref y].toArray below meth c H locs 0 0 Q (F0 m 237 ls []) := by
                    intro n
                    induction n with
                    | zero => intro v M6 S6 H locs ls hnc hvc ho6 hlow6 hd6; exact absurd hnc (by omega)
                    | succ n ihc =>
                      intro v M6 S6 H locs ls hnc hvc ho6 hlow6 hd6 hRs hF hm hS hl
                      refine lv_iload hx hb dX4_up_237 (lv_at hl 0 rfl) ?_
                      refine lv_bipush (v := 8) hx hb dX4_up_239 (by decide) ?_
                      refine lv_icmp_ge (tgt := 269) hx hb dX4_up_241 (by decide) (fun c_241 => ?_) (fun c_241 => ?_)
                      · have c_241 : 8 ≤ v := (leN (a := 8) (b := v) rfl rfl (by decide) (by omega)).mp c_241
                        have h31 : ∀ k9, (10 < k9) → S3 k9 = S1 k9 := fun k9 h9 => by rw [ho3 k9 (by omega) (by omega) (by omega), ho2 k9 (by omega)]
                        have hA9 : ∀ q, q ≠ P.length → S6 11 q = S1 11 q ∧ S6 12 q = S1 12 q ∧ S6 13 q = S1 13 q ∧ ∀ j, j < 8 → S6 14 (8 * q + j) = S1 14 (8 * q + j) := fun q hq => by
                          have h4 := hc4a q hq
                          rw [ho6 11 (by decide), ho6 12 (by decide), ho6 13 (by decide), hSx44, sU_o (by decide), sU_n hq, sU_o (by decide), h4.1, h4.2.1, h4.2.2, h31 11 (by decide), h31 12 (by decide), h31 13 (by decide)]
                          exact ⟨rfl, rfl, rfl, fun j hj => by rw [hlow6 _ (by omega), hSx44, sU_o (by decide), hc4b _ (by omega), h31 14 (by decide)]⟩
                        have hdw : dgF (s0 + 1) wg = hPair zf of9 := by
                          rw [hwg, hzf, hdg]
                          exact dgF_up2 hxp hyp hxne hyne hxy c_40
                        have hpw : pfx (s0 + 1) wg = pfx s0 x / 2 := by rw [hwg, pfx_app hxne, pfx_up]
                        have hNew : LVL S6 (s0 + 1) 0 base (P ++ [wg]) ∧ LVL S6 s0 (nn + 2) (base + P.flatten.length + wg.length) T2 := by
                          refine LVL_new hPv (by omega) ?_ hA9 (by omega) ?_ ?_ ?_ (fun j hj => ?_)
                          · rw [hwg, List.length_append, ← Nat.add_assoc]; exact hT2v
                          · rw [hpw, ho6 11 (by decide), hSx44, sU_o (by decide), h411, h31 11 (by decide), hX.1, sh1_n (by omega)]
                          · rw [ho6 12 (by decide), hSx44, sU_i]
                          · rw [ho6 13 (by decide), hSx44, sU_o (by decide), h413, h31 13 (by decide)]; exact hX.2.2.1
                          · rw [hd6 j (by omega), hdw]
                        have hoN : ∀ k9, (k9 < 8 ∨ 14 < k9) → S6 k9 = S k9 := fun k9 h9 => by rw [ho6 k9 (by omega), hSx44, sU_o (by omega), hc4o k9 (by omega), ho3 k9 (by omega) (by omega) (by omega), ho2 k9 (by omega)]; exact hoth k9 h9
                        refine lv_iload_n hx hb dX4_up_269 rfl (lv_at hl 2 rfl) ?_
                        refine lv_if_eq (tgt := 279) hx hb dX4_up_270 (by decide) (fun c9 => absurd c9 (by decide)) (fun _ => ?_)
                        refine lv_iload_n hx hb dX4_up_273 rfl (lv_at hl 3 rfl) ?_
                        refine lv_iconst (v := 2) hx hb dX4_up_274 (by decide) ?_
                        refine lv_iadd hx hb dX4_up_275 ?_
                        refine lv_goto (tgt := 282) hx hb dX4_up_276 (by decide) ?_
                        rw [show nI nn + 2 = nI (nn + 2) from add_n (b := 2) rfl rfl]
                        refine lv_istore_n (lv' := [(2, .int (nI (nn + 2))), (5, .int (nI v)), (4, .int (nI wg.length)), (3, .int 1), (1, .int (nI P.length)), (0, .ref y)]) hx hb dX4_up_282 rfl hl (by decide) rfl (fun ls hl => ?_)
                        refine lv_iinc (v := nI (P.length + 1)) (lv' := [(1, .int (nI (P.length + 1))), (2, .int (nI (nn + 2))), (5, .int (nI v)), (4, .int (nI wg.length)), (3, .int 1), (0, .ref y)]) hx hb dX4_up_283 hl (k := 4) rfl (inc_n rfl) (by decide) rfl (fun ls hl => ?_)
                        refine lv_goto (tgt := 4) hx hb dX4_up_286 (by decide) ?_
                        have hlen9 : (P ++ [wg]).length = P.length + 1 := by rw [List.length_append]; rfl
                        have hfl9 : base + (P ++ [wg]).flatten.length = base + P.flatten.length + wg.length := by rw [List.flatten_append, List.length_append]; simp; omega
                        refine ih (nn + 2) M6 S6 (P ++ [wg]) T2 H locs ls (by omega) (by omega) (by rw [hlen9]; omega) ?_ hNew.1 (by rw [hfl9]; exact hNew.2) (fun v hv => hTg v (List.mem_cons_of_mem _ (by rw [hT2]; exact List.mem_cons_of_mem _ hv))) (List.pairwise_cons.mp (by rw [← hT2]; exact hTp2)).2 hoN hRs hF hm hS (lv_sub hl [1, 0, 5] (by rw [hlen9]; rfl))
                        rw [hmg, hmr, List.append_assoc, ← hwg]
                        rfl
                      · have c_241 : ¬ 8 ≤ v := fun h9 => c_241 ((leN (a := 8) (b := v) rfl rfl (by decide) (by omega)).mpr h9)
                        refine lv_aload_n hx hb dX4_up_244 rfl (lv_at hl 5 rfl) ?_
                        refine hr_get EE hm hRs 14 (by decide) wf_X4_118 (v := .ref (ad 14)) rfl dX4_up_245 ?_
                        refine lv_bipush (v := 8) hx hb dX4_up_248 (by decide) ?_
                        refine lv_iload_n hx hb dX4_up_250 rfl (lv_at hl 4 rfl) ?_
                        refine lv_imul hx hb dX4_up_251 ?_
                        refine lv_iload hx hb dX4_up_252 (lv_at hl 0 rfl) ?_
                        refine lv_iadd hx hb dX4_up_254 ?_
                        refine lv_aload_n hx hb dX4_up_255 rfl (lv_at hl 5 rfl) ?_
                        refine hr_get EE hm hRs 10 (by decide) wf_X4_106 (v := .ref (ad 10)) rfl dX4_up_256 ?_
                        refine lv_iload hx hb dX4_up_259 (lv_at hl 0 rfl) ?_
                        refine hr_ald EE hm hRs 10 v (by decide) rfl (by show v < 8; omega) (by decide) dX4_up_261 ?_
                        refine hr_ast EE hm hS hRs hF 14 ((8 * P.length) + v) (by decide) (add_n (mul_n rfl rfl) rfl) (by show (8 * P.length) + v < 2400; omega) (by decide) dX4_up_262 (fun H locs Mx45 hm hS hRs hF => ?_)
                        obtain ⟨Sx46, hSx46⟩ : ∃ zz9, zz9 = sU S6 14 ((8 * P.length) + v) (S6 10 v) := ⟨_, rfl⟩
                        rw [← hSx46] at hRs
                        refine lv_iinc (v := nI (v + 1)) (lv' := [(5, .int (nI (v + 1))), (4, .int (nI wg.length)), (3, .int 1), (2, .int (nI nn)), (1, .int (nI P.length)), (0, .ref y)]) hx hb dX4_up_263 hl (k := 0) rfl (inc_n rfl) (by decide) rfl (fun ls hl => ?_)
                        refine lv_goto (tgt := 237) hx hb dX4_up_266 (by decide) ?_
                        refine ihc (v + 1) Mx45 Sx46 H locs ls (by omega) (by omega) (fun k9 hk9 => by rw [hSx46, sU_o hk9]; exact ho6 k9 hk9) (fun q hq => by rw [hSx46, sU_n (by omega)]; exact hlow6 q hq) (fun j hj => ?_) hRs hF hm hS (lv_sub hl [0, 1, 2, 3, 4, 5] rfl)
                        by_cases t : j = v
                        · subst t; rw [hSx46, sU_i, ho6 10 (by decide), hSx44, sU_o (by decide), hc4o 10 (by decide)]; exact hh3 j (by omega)
                        · rw [hSx46, sU_n (by omega)]; exact hd6 j (by omega)
                  exact lpc 9 0 Mx43 Sx44 H locs ls (by omega) (by omega) (fun _ _ => rfl) (fun _ _ => rfl) (fun j h => absurd h (Nat.not_lt_zero j)) hRs hF hm hS (lv_sub hl [0, 1, 2, 3, 4, 5] rfl)
                · have c_82 : ¬ 8 ≤ u := fun h9 => c_82 ((leN (a := 8) (b := u) rfl rfl (by decide) (by omega)).mpr h9)
                  refine lv_aload_n hx hb dX4_up_85 rfl (lv_at hl 4 rfl) ?_
                  refine lv_iconst (v := 0) hx hb dX4_up_86 (by decide) ?_
                  refine lv_iload hx hb dX4_up_87 (lv_at hl 0 rfl) ?_
                  refine lv_iload_n hx hb dX4_up_89 rfl (lv_at hl 1 rfl) ?_
                  refine lv_if_ne (tgt := 104) hx hb dX4_up_90 (by decide) (fun _ => ?_) (fun c9 => absurd c9 (by decide))
                  refine lv_aload_n hx hb dX4_up_104 rfl (lv_at hl 4 rfl) ?_
                  refine hr_get EE hm hRs 14 (by decide) wf_X4_118 (v := .ref (ad 14)) rfl dX4_up_105 ?_
                  refine lv_bipush (v := 8) hx hb dX4_up_108 (by decide) ?_
                  refine lv_iload_n hx hb dX4_up_110 rfl (lv_at hl 2 rfl) ?_
                  refine lv_imul hx hb dX4_up_111 ?_
                  refine lv_iload hx hb dX4_up_112 (lv_at hl 0 rfl) ?_
                  refine lv_iadd hx hb dX4_up_114 ?_
                  refine hr_ald EE hm hRs 14 ((8 * nn) + u) (by decide) (add_n (mul_n rfl rfl) rfl) (by show (8 * nn) + u < 2400; omega) (by decide) dX4_up_115 ?_
                  refine lv_goto (tgt := 120) hx hb dX4_up_116 (by decide) ?_
                  refine hp_cv (hp_runV (C := RX4) (T := TX4) (N := 24) (np := 3) (k := 1) (mc := 0) (ms := 0) (As := [.int 0, .int (nI u), .int (S2 14 ((8 * nn) + u))]) (rest := []) EE hm hS (c_X4_half l g M2 y ad S2 V hRs 0 u (by decide) (by omega) (S2 14 ((8 * nn) + u))) ms_X4_half wi_X4_half ws_X4_half wl_X4_159 hRs.1 rfl rfl hl.1 rfl (Nat.le_of_ble_eq_true rfl) dX4_up_120 ⟨Nat.le_of_ble_eq_true rfl, Nat.le_of_ble_eq_true rfl⟩ ⟨(Nat.le_of_ble_eq_true rfl), (Nat.le_of_ble_eq_true rfl)⟩) hS (fun Mx47 H locs hq48 hm hS => ?_)
                  obtain ⟨Sh, hRs, hFh, hoh, hlh, hvh⟩ := hq48
                  have hF : ∀ q, ¬ rO y ad q → Mx47 q = M q := fun q hq => (hFh q hq).trans (hF q hq)
                  have hzu : S2 14 ((8 * nn) + u) = zf u := by rw [hzf, ho2 14 (by decide)]; exact hX.2.2.2 u (by omega)
                  refine lv_aload_n hx hb dX4_up_123 rfl (lv_at hl 4 rfl) ?_
                  refine lv_iconst (v := 1) hx hb dX4_up_124 (by decide) ?_
                  refine lv_iload hx hb dX4_up_125 (lv_at hl 0 rfl) ?_
                  refine lv_iload_n hx hb dX4_up_127 rfl (lv_at hl 1 rfl) ?_
                  refine lv_if_eq (tgt := 149) hx hb dX4_up_128 (by decide) (fun c9 => absurd c9 (by decide)) (fun _ => ?_)
                  refine lv_aload_n hx hb dX4_up_131 rfl (lv_at hl 4 rfl) ?_
                  refine hr_get EE hm hRs 14 (by decide) wf_X4_118 (v := .ref (ad 14)) rfl dX4_up_132 ?_
                  refine lv_bipush (v := 8) hx hb dX4_up_135 (by decide) ?_
                  refine lv_iload_n hx hb dX4_up_137 rfl (lv_at hl 2 rfl) ?_
                  refine lv_imul hx hb dX4_up_138 ?_
                  refine lv_bipush (v := 8) hx hb dX4_up_139 (by decide) ?_
                  refine lv_iadd hx hb dX4_up_141 ?_
                  refine lv_iload hx hb dX4_up_142 (lv_at hl 0 rfl) ?_
                  refine lv_iadd hx hb dX4_up_144 ?_
                  refine hr_ald EE hm hRs 14 (((8 * nn) + 8) + u) (by decide) (add_n (add_n (mul_n rfl rfl) rfl) rfl) (by show ((8 * nn) + 8) + u < 2400; omega) (by decide) dX4_up_145 ?_
                  refine lv_goto (tgt := 177) hx hb dX4_up_146 (by decide) ?_
                  refine hp_cv (hp_runV (C := RX4) (T := TX4) (N := 24) (np := 3) (k := 1) (mc := 0) (ms := 0) (As := [.int 1, .int (nI u), .int (Sh 14 (((8 * nn) + 8) + u))]) (rest := []) EE hm hS (c_X4_half l g Mx47 y ad Sh V hRs 1 u (by decide) (by omega) (Sh 14 (((8 * nn) + 8) + u))) ms_X4_half wi_X4_half ws_X4_half wl_X4_159 hRs.1 rfl rfl hl.1 rfl (Nat.le_of_ble_eq_true rfl) dX4_up_177 ⟨Nat.le_of_ble_eq_true rfl, Nat.le_of_ble_eq_true rfl⟩ ⟨(Nat.le_of_ble_eq_true rfl), (Nat.le_of_ble_eq_true rfl)⟩) hS (fun Mx49 H locs hq50 hm hS => ?_)
                  obtain ⟨Si, hRs, hFi, hoi, hli, hvi⟩ := hq50
                  have hF : ∀ q, ¬ rO y ad q → Mx49 q = M q := fun q hq => (hFi q hq).trans (hF q hq)
                  have hou : Sh 14 (((8 * nn) + 8) + u) = of9 u := by rw [hdg, hoh 14 (by decide), ho2 14 (by decide), show 8 * nn + 8 + u = 8 * (nn + 1) + u by omega]; exact hY.2.2.2 u (by omega)
                  refine lv_iinc (v := nI (u + 1)) (lv' := [(4, .int (nI (u + 1))), (3, .int 1), (2, .int (nI nn)), (1, .int (nI P.length)), (0, .ref y)]) hx hb dX4_up_180 hl (k := 0) rfl (inc_n rfl) (by decide) rfl (fun ls hl => ?_)
                  refine lv_goto (tgt := 78) hx hb dX4_up_183 (by decide) ?_
                  refine ihb (u + 1) Mx49 Si H locs ls (by omega) (by omega) (fun k9 h9 => by rw [hoi k9 h9, hoh k9 h9]; exact ho2 k9 h9) (fun i hi k hk => ?_) (fun i hi k hk => ?_) hRs hF hm hS (lv_sub hl [0, 1, 2, 3, 4] rfl)
                  · rw [hli _ (by omega)]
                    by_cases t : i = u
                    · subst t; rw [← hzu]; exact hvh k hk
                    · rw [hlh _ (by omega)]; exact hbz i (by omega) k hk
                  · by_cases t : i = u
                    · subst t; rw [← hou]; exact hvi k hk
                    · rw [hli _ (by omega), hlh _ (by omega)]; exact hbo i (by omega) k hk
            exact lpb 9 0 M1 S1 H locs ls (by omega) (by omega) (fun _ _ => rfl) (fun i h => absurd h (Nat.not_lt_zero i)) (fun i h => absurd h (Nat.not_lt_zero i)) hRs hF hm hS (lv_sub hl [0, 1, 2, 3, 4] rfl)
  exact lp (G.length + 1) 0 M S [] G H locs ls (by omega) (by omega) (by show 0 ≤ 0; omega) rfl trivial hlv (fun x hx => ⟨(hg2 x hx).1, (hg2 x hx).2, hpB x hx, hxl x hx⟩) hg3 (fun _ _ => rfl) hRs hF hm hS (lv_sub hl [0, 1, 2] rfl)
