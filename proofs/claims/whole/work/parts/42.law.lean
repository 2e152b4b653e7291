theorem lg_self (a : Int64) : lg_cmp a a = 0 := by
  unfold lg_cmp
  rw [if_neg (by intro h; exact absurd h Int64.lt_irrefl), if_pos rfl]
theorem law_cmp {L i : Nat} (hL : L ≤ 2048) (hi : 4 * i ≤ L) : (nI L - 4 < nI (4 * i)) ↔ L < 4 * i + 4 := by
  rcases Nat.lt_or_ge L 4 with h | h
  · have hi0 : i = 0 := by omega
    subst hi0
    rcases (show L = 0 ∨ L = 1 ∨ L = 2 ∨ L = 3 by omega) with t | t | t | t <;> subst t <;> exact ⟨fun _ => by decide, fun _ => by decide⟩
  · rw [show nI L - 4 = nI (L - 4) from sub_n (b := 4) rfl rfl h]
    rw [nI_ltI (by omega) (by omega)]
    omega
theorem sw_out : ∀ j, j < 32 → 17 ≤ j → (16 : Int) < (nI j).toInt := by decide
section HSL
variable {p : Program} {l : Launch} {e : Env} {R : Room} {s : State} {m : MethodId} {args : Array Value} {below : List Frame} {meth : Method} {c : Code} {H : Heap} {locs : List Loc} {cells slots : Nat} {Q : State → Prop}
variable {cc : ByteArray} {pc : Nat} {ls : Array Slot} {rest : List Value} {g : hG}
theorem hs_ld (hx : p.tables.exec = Jvm.exec) (hb : c.code = cc) {b L : Nat} {xs : Nat → Int32} (hX : va_X b L xs s s.heap) (hbl : b < s.heap.size) (hbA : ¬ hA g b) (hS : va_S (hA g) s.heap H locs) {v : Int32} (k : Nat) (hv : v = nI k) (hk : k < L) (hL : L ≤ 2048) (hdg : decode cc pc = .ok (.iaload, 1))
    (kk : W p l e R s m args below meth c H locs cells slots Q (F0 m (pc + 1) ls (.int (xs k) :: rest))) : W p l e R s m args below meth c H locs cells slots Q (F0 m pc ls (.int v :: .ref b :: rest)) := by
  subst hv
  refine va_sld hx hb hX hbl hbA hS (vp_in_nI hk (by omega)) hdg ?_
  rw [nI_clamp (by omega)]
  exact kk
end HSL
set_option maxHeartbeats 4000000 in
set_option maxRecDepth 100000 in
theorem law_put {p : Program} {e : Env} {s : State} {m : MethodId} {below : List Frame} {meth : Method} {c : Code} (l : Launch) {b L : Nat} {xs : Nat → Int32} (hL : L ≤ 2048) (C0 : lw_At p s m meth c b L xs) (g : hG) (EE : hE p c cL_law 4 s #[Value.ref b] m RL g) (hgB : gB g = s.heap.size) (x y : Nat) (i cells slots k : Nat) (M : hM) (σ : cSt) (H : Heap) (locs : List Loc) (ls : Array Slot) (hi4 : 4 * i + 4 ≤ L) (hB : BW g M x y σ σ k) (hce : cells + k ≤ 50 + 34 * i) (hsl : slots + 8 * k ≤ 41500 + 238 * i) (hm : hp g M H) (hS : va_S (hA g) s.heap H locs) (hl : lv_has ls 4 [(3, .int (nI (4 * i))), (2, .ref y), (1, .ref x), (0, .ref b)]) (nxt : ∀ (M1 : hM) (σ1 : cSt) (c1 cells1 slots1 : Nat) (H : Heap) (locs : List Loc) (ls : Array Slot), BW g M1 x y σ1 σ1 c1 → cells1 + c1 ≤ 50 + 34 * (i + 1) → slots1 + 8 * c1 ≤ 41500 + 238 * (i + 1) → hp g M1 H → va_S (hA g) s.heap H locs → lv_has ls 4 [(3, .int (nI (4 * i))), (2, .ref y), (1, .ref x), (0, .ref b)] → W p l e room_1 s m #[Value.ref b] below meth c H locs cells1 slots1 (lw_Z below #[Value.ref b] s) (F0 m 578 ls [])) : W p l e room_1 s m #[Value.ref b] below meth c H locs cells slots (lw_Z below #[Value.ref b] s) (F0 m 116 ls []) := by
  obtain ⟨hx, hb, hr, hml, hown, hts0, hX, hbl, hlocks, hgv⟩ := id C0
  have hbA : ¬ hA g b := by show ¬ gB g ≤ b; rw [hgB]; exact Nat.not_le.mpr hbl
  obtain ⟨N, Z, kp, pf, bs, h, nm, ms, sc, sa, fo, br, kf, nw, fm, fs, fa, ff, rv, ad, S, V, hC, hw, hd, hpt⟩ := id hB
  refine lv_aload_n hx hb dL_law_116 rfl (lv_at hl 2 rfl) ?_
  refine lv_aload_n hx hb dL_law_117 rfl (lv_at hl 3 rfl) ?_
  refine lv_iload_n hx hb dL_law_118 rfl (lv_at hl 0 rfl) ?_
  refine lv_iconst (v := 1) hx hb dL_law_119 (by decide) ?_
  refine lv_iadd hx hb dL_law_120 ?_
  refine hs_ld hx hb hX hbl hbA hS (4 * i + 1) (add_n rfl rfl) (by omega) hL dL_law_121 ?_
  refine lv_aload_n hx hb dL_law_122 rfl (lv_at hl 3 rfl) ?_
  refine lv_iload_n hx hb dL_law_123 rfl (lv_at hl 0 rfl) ?_
  refine lv_iconst (v := 2) hx hb dL_law_124 (by decide) ?_
  refine lv_iadd hx hb dL_law_125 ?_
  refine hs_ld hx hb hX hbl hbA hS (4 * i + 2) (add_n rfl rfl) (by omega) hL dL_law_126 ?_
  refine hp_ci (hp_runV (C := RX3) (T := TX3) (N := 6) (np := 2) (k := 21) (mc := 17) (ms := 102) (As := [.int (xs (4 * i + 1)), .int (xs (4 * i + 2))]) (rest := []) EE hm hS (c_X3_put l g M N Z x kp pf bs h nm ms sc sa fo br kf nw fm fs fa ff rv σ hC (xs (4 * i + 1)) (xs (4 * i + 2))) ms_X3_put wi_X3_put ws_X3_put wl_L_13 hC.2.2.1 rfl rfl hl.1 rfl (Nat.le_of_ble_eq_true rfl) dL_law_127 ⟨Nat.le_of_ble_eq_true rfl, Nat.le_of_ble_eq_true rfl⟩ ⟨(by show cells + 17 ≤ 600000; omega), (by show slots + 102 ≤ 7302250; omega)⟩) hS (fun r1 Mx2 H locs hq3 hm hS => ?_)
  obtain ⟨rfl, hP1⟩ := hq3
  obtain ⟨c1, hB1, hc1⟩ := cstep hw hd hpt hP1
  obtain ⟨N, Z, kp, pf, bs, h, nm, ms, sc, sa, fo, br, kf1, nw1, fm, fs, fa, ff, rv, ad, S, V, hC, hw, hd, hpt⟩ := hB1
  refine lv_aload_n hx hb dL_law_130 rfl (lv_at hl 1 rfl) ?_
  refine lv_aload_n hx hb dL_law_131 rfl (lv_at hl 3 rfl) ?_
  refine lv_iload_n hx hb dL_law_132 rfl (lv_at hl 0 rfl) ?_
  refine lv_iconst (v := 1) hx hb dL_law_133 (by decide) ?_
  refine lv_iadd hx hb dL_law_134 ?_
  refine hs_ld hx hb hX hbl hbA hS (4 * i + 1) (add_n rfl rfl) (by omega) hL dL_law_135 ?_
  refine lv_aload_n hx hb dL_law_136 rfl (lv_at hl 3 rfl) ?_
  refine lv_iload_n hx hb dL_law_137 rfl (lv_at hl 0 rfl) ?_
  refine lv_iconst (v := 2) hx hb dL_law_138 (by decide) ?_
  refine lv_iadd hx hb dL_law_139 ?_
  refine hs_ld hx hb hX hbl hbA hS (4 * i + 2) (add_n rfl rfl) (by omega) hL dL_law_140 ?_
  refine hp_ci (hp_runV (C := RX4) (T := TX4) (N := 24) (np := 2) (k := 2) (mc := 0) (ms := 0) (As := [.int (xs (4 * i + 1)), .int (xs (4 * i + 2))]) (rest := [.int ((sPut σ (xs (4 * i + 1)) (xs (4 * i + 2))).1)]) EE hm hS (c_X4_put l g Mx2 y ad S V σ hw (xs (4 * i + 1)) (xs (4 * i + 2))) ms_X4_put wi_X4_put ws_X4_put wl_L_17 hw.1.1 rfl rfl hl.1 rfl (Nat.le_of_ble_eq_true rfl) dL_law_141 ⟨Nat.le_of_ble_eq_true rfl, Nat.le_of_ble_eq_true rfl⟩ ⟨(by show cells + 17 + 0 ≤ 600000; omega), (by show slots + 102 + 0 ≤ 7302250; omega)⟩) hS (fun r4 Mx5 H locs hq6 hm hS => ?_)
  obtain ⟨rfl, hP2⟩ := hq6
  have hB2 := rstep hC hd hpt hP2
  refine lv_icmp_eq (tgt := 578) hx hb dL_law_144 (by decide) (fun c_144 => ?_) (fun c_144 => ?_)
  · exact nxt Mx5 _ c1 _ _ H locs ls hB2 (by omega) (by omega) hm hS hl
  · exact absurd rfl c_144
set_option maxHeartbeats 4000000 in
set_option maxRecDepth 100000 in
theorem law_remove {p : Program} {e : Env} {s : State} {m : MethodId} {below : List Frame} {meth : Method} {c : Code} (l : Launch) {b L : Nat} {xs : Nat → Int32} (hL : L ≤ 2048) (C0 : lw_At p s m meth c b L xs) (g : hG) (EE : hE p c cL_law 4 s #[Value.ref b] m RL g) (hgB : gB g = s.heap.size) (x y : Nat) (i cells slots k : Nat) (M : hM) (σ : cSt) (H : Heap) (locs : List Loc) (ls : Array Slot) (hi4 : 4 * i + 4 ≤ L) (hB : BW g M x y σ σ k) (hce : cells + k ≤ 50 + 34 * i) (hsl : slots + 8 * k ≤ 41500 + 238 * i) (hm : hp g M H) (hS : va_S (hA g) s.heap H locs) (hl : lv_has ls 4 [(3, .int (nI (4 * i))), (2, .ref y), (1, .ref x), (0, .ref b)]) (nxt : ∀ (M1 : hM) (σ1 : cSt) (c1 cells1 slots1 : Nat) (H : Heap) (locs : List Loc) (ls : Array Slot), BW g M1 x y σ1 σ1 c1 → cells1 + c1 ≤ 50 + 34 * (i + 1) → slots1 + 8 * c1 ≤ 41500 + 238 * (i + 1) → hp g M1 H → va_S (hA g) s.heap H locs → lv_has ls 4 [(3, .int (nI (4 * i))), (2, .ref y), (1, .ref x), (0, .ref b)] → W p l e room_1 s m #[Value.ref b] below meth c H locs cells1 slots1 (lw_Z below #[Value.ref b] s) (F0 m 578 ls [])) : W p l e room_1 s m #[Value.ref b] below meth c H locs cells slots (lw_Z below #[Value.ref b] s) (F0 m 149 ls []) := by
  obtain ⟨hx, hb, hr, hml, hown, hts0, hX, hbl, hlocks, hgv⟩ := id C0
  have hbA : ¬ hA g b := by show ¬ gB g ≤ b; rw [hgB]; exact Nat.not_le.mpr hbl
  obtain ⟨N, Z, kp, pf, bs, h, nm, ms, sc, sa, fo, br, kf, nw, fm, fs, fa, ff, rv, ad, S, V, hC, hw, hd, hpt⟩ := id hB
  refine lv_aload_n hx hb dL_law_149 rfl (lv_at hl 2 rfl) ?_
  refine lv_aload_n hx hb dL_law_150 rfl (lv_at hl 3 rfl) ?_
  refine lv_iload_n hx hb dL_law_151 rfl (lv_at hl 0 rfl) ?_
  refine lv_iconst (v := 1) hx hb dL_law_152 (by decide) ?_
  refine lv_iadd hx hb dL_law_153 ?_
  refine hs_ld hx hb hX hbl hbA hS (4 * i + 1) (add_n rfl rfl) (by omega) hL dL_law_154 ?_
  refine hp_ci (hp_runV (C := RX3) (T := TX3) (N := 6) (np := 1) (k := 21) (mc := 17) (ms := 102) (As := [.int (xs (4 * i + 1))]) (rest := []) EE hm hS (c_X3_remove l g M N Z x kp pf bs h nm ms sc sa fo br kf nw fm fs fa ff rv σ hC (xs (4 * i + 1))) ms_X3_remove wi_X3_remove ws_X3_remove wl_L_18 hC.2.2.1 rfl rfl hl.1 rfl (Nat.le_of_ble_eq_true rfl) dL_law_155 ⟨Nat.le_of_ble_eq_true rfl, Nat.le_of_ble_eq_true rfl⟩ ⟨(by show cells + 17 ≤ 600000; omega), (by show slots + 102 ≤ 7302250; omega)⟩) hS (fun r1 Mx2 H locs hq3 hm hS => ?_)
  obtain ⟨rfl, hP1⟩ := hq3
  obtain ⟨c1, hB1, hc1⟩ := cstep hw hd hpt hP1
  obtain ⟨N, Z, kp, pf, bs, h, nm, ms, sc, sa, fo, br, kf1, nw1, fm, fs, fa, ff, rv, ad, S, V, hC, hw, hd, hpt⟩ := hB1
  refine lv_aload_n hx hb dL_law_158 rfl (lv_at hl 1 rfl) ?_
  refine lv_aload_n hx hb dL_law_159 rfl (lv_at hl 3 rfl) ?_
  refine lv_iload_n hx hb dL_law_160 rfl (lv_at hl 0 rfl) ?_
  refine lv_iconst (v := 1) hx hb dL_law_161 (by decide) ?_
  refine lv_iadd hx hb dL_law_162 ?_
  refine hs_ld hx hb hX hbl hbA hS (4 * i + 1) (add_n rfl rfl) (by omega) hL dL_law_163 ?_
  refine hp_ci (hp_runV (C := RX4) (T := TX4) (N := 24) (np := 1) (k := 2) (mc := 0) (ms := 0) (As := [.int (xs (4 * i + 1))]) (rest := [.int ((sRem σ (xs (4 * i + 1))).1)]) EE hm hS (c_X4_remove l g Mx2 y ad S V σ hw (xs (4 * i + 1))) ms_X4_remove wi_X4_remove ws_X4_remove wl_L_22 hw.1.1 rfl rfl hl.1 rfl (Nat.le_of_ble_eq_true rfl) dL_law_164 ⟨Nat.le_of_ble_eq_true rfl, Nat.le_of_ble_eq_true rfl⟩ ⟨(by show cells + 17 + 0 ≤ 600000; omega), (by show slots + 102 + 0 ≤ 7302250; omega)⟩) hS (fun r4 Mx5 H locs hq6 hm hS => ?_)
  obtain ⟨rfl, hP2⟩ := hq6
  have hB2 := rstep hC hd hpt hP2
  refine lv_icmp_eq (tgt := 578) hx hb dL_law_167 (by decide) (fun c_167 => ?_) (fun c_167 => ?_)
  · exact nxt Mx5 _ c1 _ _ H locs ls hB2 (by omega) (by omega) hm hS hl
  · exact absurd rfl c_167
set_option maxHeartbeats 4000000 in
set_option maxRecDepth 100000 in
theorem law_get {p : Program} {e : Env} {s : State} {m : MethodId} {below : List Frame} {meth : Method} {c : Code} (l : Launch) {b L : Nat} {xs : Nat → Int32} (hL : L ≤ 2048) (C0 : lw_At p s m meth c b L xs) (g : hG) (EE : hE p c cL_law 4 s #[Value.ref b] m RL g) (hgB : gB g = s.heap.size) (x y : Nat) (i cells slots k : Nat) (M : hM) (σ : cSt) (H : Heap) (locs : List Loc) (ls : Array Slot) (hi4 : 4 * i + 4 ≤ L) (hB : BW g M x y σ σ k) (hce : cells + k ≤ 50 + 34 * i) (hsl : slots + 8 * k ≤ 41500 + 238 * i) (hm : hp g M H) (hS : va_S (hA g) s.heap H locs) (hl : lv_has ls 4 [(3, .int (nI (4 * i))), (2, .ref y), (1, .ref x), (0, .ref b)]) (nxt : ∀ (M1 : hM) (σ1 : cSt) (c1 cells1 slots1 : Nat) (H : Heap) (locs : List Loc) (ls : Array Slot), BW g M1 x y σ1 σ1 c1 → cells1 + c1 ≤ 50 + 34 * (i + 1) → slots1 + 8 * c1 ≤ 41500 + 238 * (i + 1) → hp g M1 H → va_S (hA g) s.heap H locs → lv_has ls 4 [(3, .int (nI (4 * i))), (2, .ref y), (1, .ref x), (0, .ref b)] → W p l e room_1 s m #[Value.ref b] below meth c H locs cells1 slots1 (lw_Z below #[Value.ref b] s) (F0 m 578 ls [])) : W p l e room_1 s m #[Value.ref b] below meth c H locs cells slots (lw_Z below #[Value.ref b] s) (F0 m 172 ls []) := by
  obtain ⟨hx, hb, hr, hml, hown, hts0, hX, hbl, hlocks, hgv⟩ := id C0
  have hbA : ¬ hA g b := by show ¬ gB g ≤ b; rw [hgB]; exact Nat.not_le.mpr hbl
  obtain ⟨N, Z, kp, pf, bs, h, nm, ms, sc, sa, fo, br, kf, nw, fm, fs, fa, ff, rv, ad, S, V, hC, hw, hd, hpt⟩ := id hB
  refine lv_aload_n hx hb dL_law_172 rfl (lv_at hl 2 rfl) ?_
  refine lv_aload_n hx hb dL_law_173 rfl (lv_at hl 3 rfl) ?_
  refine lv_iload_n hx hb dL_law_174 rfl (lv_at hl 0 rfl) ?_
  refine lv_iconst (v := 1) hx hb dL_law_175 (by decide) ?_
  refine lv_iadd hx hb dL_law_176 ?_
  refine hs_ld hx hb hX hbl hbA hS (4 * i + 1) (add_n rfl rfl) (by omega) hL dL_law_177 ?_
  refine lv_aload_n hx hb dL_law_178 rfl (lv_at hl 3 rfl) ?_
  refine lv_iload_n hx hb dL_law_179 rfl (lv_at hl 0 rfl) ?_
  refine lv_iconst (v := 2) hx hb dL_law_180 (by decide) ?_
  refine lv_iadd hx hb dL_law_181 ?_
  refine hs_ld hx hb hX hbl hbA hS (4 * i + 2) (add_n rfl rfl) (by omega) hL dL_law_182 ?_
  refine hp_cl (hp_runV (C := RX3) (T := TX3) (N := 6) (np := 2) (k := 4) (mc := 0) (ms := 0) (As := [.int (xs (4 * i + 1)), .int (xs (4 * i + 2))]) (rest := []) EE hm hS (c_X3_get l g M N Z x kp pf bs h nm ms sc sa fo br kf nw fm fs fa ff rv σ hC (xs (4 * i + 1)) (xs (4 * i + 2))) ms_X3_get wi_X3_get ws_X3_get wl_L_23 hC.2.2.1 rfl rfl hl.1 rfl (Nat.le_of_ble_eq_true rfl) dL_law_183 ⟨Nat.le_of_ble_eq_true rfl, Nat.le_of_ble_eq_true rfl⟩ ⟨(by show cells + 0 ≤ 600000; omega), (by show slots + 0 ≤ 7302250; omega)⟩) hS (fun r1 Mx2 H locs hq3 hm hS => ?_)
  obtain ⟨rfl, h9⟩ := hq3
  rw [h9] at hm
  refine lv_aload_n hx hb dL_law_186 rfl (lv_at hl 1 rfl) ?_
  refine lv_aload_n hx hb dL_law_187 rfl (lv_at hl 3 rfl) ?_
  refine lv_iload_n hx hb dL_law_188 rfl (lv_at hl 0 rfl) ?_
  refine lv_iconst (v := 1) hx hb dL_law_189 (by decide) ?_
  refine lv_iadd hx hb dL_law_190 ?_
  refine hs_ld hx hb hX hbl hbA hS (4 * i + 1) (add_n rfl rfl) (by omega) hL dL_law_191 ?_
  refine lv_aload_n hx hb dL_law_192 rfl (lv_at hl 3 rfl) ?_
  refine lv_iload_n hx hb dL_law_193 rfl (lv_at hl 0 rfl) ?_
  refine lv_iconst (v := 2) hx hb dL_law_194 (by decide) ?_
  refine lv_iadd hx hb dL_law_195 ?_
  refine hs_ld hx hb hX hbl hbA hS (4 * i + 2) (add_n rfl rfl) (by omega) hL dL_law_196 ?_
  refine hp_cl (hp_runV (C := RX4) (T := TX4) (N := 24) (np := 2) (k := 2) (mc := 0) (ms := 0) (As := [.int (xs (4 * i + 1)), .int (xs (4 * i + 2))]) (rest := [.long (rGet σ (xs (4 * i + 1)) (xs (4 * i + 2)))]) EE hm hS (c_X4_get l g M y ad S V σ hw (xs (4 * i + 1)) (xs (4 * i + 2))) ms_X4_get wi_X4_get ws_X4_get wl_L_27 hw.1.1 rfl rfl hl.1 rfl (Nat.le_of_ble_eq_true rfl) dL_law_197 ⟨Nat.le_of_ble_eq_true rfl, Nat.le_of_ble_eq_true rfl⟩ ⟨(by show cells + 0 ≤ 600000; omega), (by show slots + 0 ≤ 7302250; omega)⟩) hS (fun r4 Mx5 H locs hq6 hm hS => ?_)
  obtain ⟨rfl, h9⟩ := hq6
  rw [h9] at hm
  refine W.lcmp hx hb dL_law_200 ?_
  refine lv_if_eq (tgt := 578) hx hb dL_law_201 (by decide) (fun c_201 => ?_) (fun c_201 => ?_)
  · exact nxt M σ k _ _ H locs ls hB (by omega) (by omega) hm hS hl
  · exact absurd (lg_self _) c_201
set_option maxHeartbeats 4000000 in
set_option maxRecDepth 100000 in
theorem law_size {p : Program} {e : Env} {s : State} {m : MethodId} {below : List Frame} {meth : Method} {c : Code} (l : Launch) {b L : Nat} {xs : Nat → Int32} (hL : L ≤ 2048) (C0 : lw_At p s m meth c b L xs) (g : hG) (EE : hE p c cL_law 4 s #[Value.ref b] m RL g) (hgB : gB g = s.heap.size) (x y : Nat) (i cells slots k : Nat) (M : hM) (σ : cSt) (H : Heap) (locs : List Loc) (ls : Array Slot) (hi4 : 4 * i + 4 ≤ L) (hB : BW g M x y σ σ k) (hce : cells + k ≤ 50 + 34 * i) (hsl : slots + 8 * k ≤ 41500 + 238 * i) (hm : hp g M H) (hS : va_S (hA g) s.heap H locs) (hl : lv_has ls 4 [(3, .int (nI (4 * i))), (2, .ref y), (1, .ref x), (0, .ref b)]) (nxt : ∀ (M1 : hM) (σ1 : cSt) (c1 cells1 slots1 : Nat) (H : Heap) (locs : List Loc) (ls : Array Slot), BW g M1 x y σ1 σ1 c1 → cells1 + c1 ≤ 50 + 34 * (i + 1) → slots1 + 8 * c1 ≤ 41500 + 238 * (i + 1) → hp g M1 H → va_S (hA g) s.heap H locs → lv_has ls 4 [(3, .int (nI (4 * i))), (2, .ref y), (1, .ref x), (0, .ref b)] → W p l e room_1 s m #[Value.ref b] below meth c H locs cells1 slots1 (lw_Z below #[Value.ref b] s) (F0 m 578 ls [])) : W p l e room_1 s m #[Value.ref b] below meth c H locs cells slots (lw_Z below #[Value.ref b] s) (F0 m 206 ls []) := by
  obtain ⟨hx, hb, hr, hml, hown, hts0, hX, hbl, hlocks, hgv⟩ := id C0
  have hbA : ¬ hA g b := by show ¬ gB g ≤ b; rw [hgB]; exact Nat.not_le.mpr hbl
  obtain ⟨N, Z, kp, pf, bs, h, nm, ms, sc, sa, fo, br, kf, nw, fm, fs, fa, ff, rv, ad, S, V, hC, hw, hd, hpt⟩ := id hB
  refine lv_aload_n hx hb dL_law_206 rfl (lv_at hl 2 rfl) ?_
  refine lv_aload_n hx hb dL_law_207 rfl (lv_at hl 3 rfl) ?_
  refine lv_iload_n hx hb dL_law_208 rfl (lv_at hl 0 rfl) ?_
  refine lv_iconst (v := 1) hx hb dL_law_209 (by decide) ?_
  refine lv_iadd hx hb dL_law_210 ?_
  refine hs_ld hx hb hX hbl hbA hS (4 * i + 1) (add_n rfl rfl) (by omega) hL dL_law_211 ?_
  refine hp_ci (hp_runV (C := RX3) (T := TX3) (N := 6) (np := 1) (k := 2) (mc := 0) (ms := 0) (As := [.int (xs (4 * i + 1))]) (rest := []) EE hm hS (c_X3_size l g M N Z x kp pf bs h nm ms sc sa fo br kf nw fm fs fa ff rv σ hC (xs (4 * i + 1))) ms_X3_size wi_X3_size ws_X3_size wl_L_28 hC.2.2.1 rfl rfl hl.1 rfl (Nat.le_of_ble_eq_true rfl) dL_law_212 ⟨Nat.le_of_ble_eq_true rfl, Nat.le_of_ble_eq_true rfl⟩ ⟨(by show cells + 0 ≤ 600000; omega), (by show slots + 0 ≤ 7302250; omega)⟩) hS (fun r1 Mx2 H locs hq3 hm hS => ?_)
  obtain ⟨rfl, h9⟩ := hq3
  rw [h9] at hm
  refine lv_aload_n hx hb dL_law_215 rfl (lv_at hl 1 rfl) ?_
  refine lv_aload_n hx hb dL_law_216 rfl (lv_at hl 3 rfl) ?_
  refine lv_iload_n hx hb dL_law_217 rfl (lv_at hl 0 rfl) ?_
  refine lv_iconst (v := 1) hx hb dL_law_218 (by decide) ?_
  refine lv_iadd hx hb dL_law_219 ?_
  refine hs_ld hx hb hX hbl hbA hS (4 * i + 1) (add_n rfl rfl) (by omega) hL dL_law_220 ?_
  refine hp_ci (hp_runV (C := RX4) (T := TX4) (N := 24) (np := 1) (k := 2) (mc := 0) (ms := 0) (As := [.int (xs (4 * i + 1))]) (rest := [.int (rSize σ (xs (4 * i + 1)))]) EE hm hS (c_X4_size l g M y ad S V σ hw (xs (4 * i + 1))) ms_X4_size wi_X4_size ws_X4_size wl_L_31 hw.1.1 rfl rfl hl.1 rfl (Nat.le_of_ble_eq_true rfl) dL_law_221 ⟨Nat.le_of_ble_eq_true rfl, Nat.le_of_ble_eq_true rfl⟩ ⟨(by show cells + 0 ≤ 600000; omega), (by show slots + 0 ≤ 7302250; omega)⟩) hS (fun r4 Mx5 H locs hq6 hm hS => ?_)
  obtain ⟨rfl, h9⟩ := hq6
  rw [h9] at hm
  refine lv_icmp_eq (tgt := 578) hx hb dL_law_224 (by decide) (fun c_224 => ?_) (fun c_224 => ?_)
  · exact nxt M σ k _ _ H locs ls hB (by omega) (by omega) hm hS hl
  · exact absurd rfl c_224
set_option maxHeartbeats 4000000 in
set_option maxRecDepth 100000 in
theorem law_commit {p : Program} {e : Env} {s : State} {m : MethodId} {below : List Frame} {meth : Method} {c : Code} (l : Launch) {b L : Nat} {xs : Nat → Int32} (hL : L ≤ 2048) (C0 : lw_At p s m meth c b L xs) (g : hG) (EE : hE p c cL_law 4 s #[Value.ref b] m RL g) (hgB : gB g = s.heap.size) (x y : Nat) (i cells slots k : Nat) (M : hM) (σ : cSt) (H : Heap) (locs : List Loc) (ls : Array Slot) (hi4 : 4 * i + 4 ≤ L) (hB : BW g M x y σ σ k) (hce : cells + k ≤ 50 + 34 * i) (hsl : slots + 8 * k ≤ 41500 + 238 * i) (hm : hp g M H) (hS : va_S (hA g) s.heap H locs) (hl : lv_has ls 4 [(3, .int (nI (4 * i))), (2, .ref y), (1, .ref x), (0, .ref b)]) (nxt : ∀ (M1 : hM) (σ1 : cSt) (c1 cells1 slots1 : Nat) (H : Heap) (locs : List Loc) (ls : Array Slot), BW g M1 x y σ1 σ1 c1 → cells1 + c1 ≤ 50 + 34 * (i + 1) → slots1 + 8 * c1 ≤ 41500 + 238 * (i + 1) → hp g M1 H → va_S (hA g) s.heap H locs → lv_has ls 4 [(3, .int (nI (4 * i))), (2, .ref y), (1, .ref x), (0, .ref b)] → W p l e room_1 s m #[Value.ref b] below meth c H locs cells1 slots1 (lw_Z below #[Value.ref b] s) (F0 m 578 ls [])) : W p l e room_1 s m #[Value.ref b] below meth c H locs cells slots (lw_Z below #[Value.ref b] s) (F0 m 229 ls []) := by
  obtain ⟨hx, hb, hr, hml, hown, hts0, hX, hbl, hlocks, hgv⟩ := id C0
  have hbA : ¬ hA g b := by show ¬ gB g ≤ b; rw [hgB]; exact Nat.not_le.mpr hbl
  obtain ⟨N, Z, kp, pf, bs, h, nm, ms, sc, sa, fo, br, kf, nw, fm, fs, fa, ff, rv, ad, S, V, hC, hw, hd, hpt⟩ := id hB
  refine lv_aload_n hx hb dL_law_229 rfl (lv_at hl 2 rfl) ?_
  refine hp_ci (hp_runV (C := RX3) (T := TX3) (N := 6) (np := 0) (k := 1) (mc := 0) (ms := 0) (As := ([] : List Value)) (rest := []) EE hm hS (c_X3_commit l g M N Z x kp pf bs h nm ms sc sa fo br kf nw fm fs fa ff rv σ hC ) ms_X3_commit wi_X3_commit ws_X3_commit wl_L_32 hC.2.2.1 rfl rfl hl.1 rfl (Nat.le_of_ble_eq_true rfl) dL_law_230 ⟨Nat.le_of_ble_eq_true rfl, Nat.le_of_ble_eq_true rfl⟩ ⟨(by show cells + 0 ≤ 600000; omega), (by show slots + 0 ≤ 7302250; omega)⟩) hS (fun r1 Mx2 H locs hq3 hm hS => ?_)
  obtain ⟨rfl, hP1⟩ := hq3
  obtain ⟨c1, hB1, hc1⟩ := cstep hw hd hpt hP1
  obtain ⟨N, Z, kp, pf, bs, h, nm, ms, sc, sa, fo, br, kf1, nw1, fm, fs, fa, ff, rv, ad, S, V, hC, hw, hd, hpt⟩ := hB1
  refine lv_aload_n hx hb dL_law_233 rfl (lv_at hl 1 rfl) ?_
  refine hp_ci (hp_runV (C := RX4) (T := TX4) (N := 24) (np := 0) (k := 8) (mc := 0) (ms := 0) (As := ([] : List Value)) (rest := [.int ((sCommit σ).1)]) EE hm hS (c_X4_commit l g Mx2 y ad S V σ hw ) ms_X4_commit wi_X4_commit ws_X4_commit wl_L_36 hw.1.1 rfl rfl hl.1 rfl (Nat.le_of_ble_eq_true rfl) dL_law_234 ⟨Nat.le_of_ble_eq_true rfl, Nat.le_of_ble_eq_true rfl⟩ ⟨(by show cells + 0 ≤ 600000; omega), (by show slots + 0 ≤ 7302250; omega)⟩) hS (fun r4 Mx5 H locs hq6 hm hS => ?_)
  obtain ⟨rfl, hP2⟩ := hq6
  have hB2 := rstep hC hd hpt hP2
  refine lv_icmp_eq (tgt := 578) hx hb dL_law_237 (by decide) (fun c_237 => ?_) (fun c_237 => ?_)
  · exact nxt Mx5 _ c1 _ _ H locs ls hB2 (by omega) (by omega) hm hS hl
  · exact absurd rfl c_237
set_option maxHeartbeats 4000000 in
set_option maxRecDepth 100000 in
theorem law_back {p : Program} {e : Env} {s : State} {m : MethodId} {below : List Frame} {meth : Method} {c : Code} (l : Launch) {b L : Nat} {xs : Nat → Int32} (hL : L ≤ 2048) (C0 : lw_At p s m meth c b L xs) (g : hG) (EE : hE p c cL_law 4 s #[Value.ref b] m RL g) (hgB : gB g = s.heap.size) (x y : Nat) (i cells slots k : Nat) (M : hM) (σ : cSt) (H : Heap) (locs : List Loc) (ls : Array Slot) (hi4 : 4 * i + 4 ≤ L) (hB : BW g M x y σ σ k) (hce : cells + k ≤ 50 + 34 * i) (hsl : slots + 8 * k ≤ 41500 + 238 * i) (hm : hp g M H) (hS : va_S (hA g) s.heap H locs) (hl : lv_has ls 4 [(3, .int (nI (4 * i))), (2, .ref y), (1, .ref x), (0, .ref b)]) (nxt : ∀ (M1 : hM) (σ1 : cSt) (c1 cells1 slots1 : Nat) (H : Heap) (locs : List Loc) (ls : Array Slot), BW g M1 x y σ1 σ1 c1 → cells1 + c1 ≤ 50 + 34 * (i + 1) → slots1 + 8 * c1 ≤ 41500 + 238 * (i + 1) → hp g M1 H → va_S (hA g) s.heap H locs → lv_has ls 4 [(3, .int (nI (4 * i))), (2, .ref y), (1, .ref x), (0, .ref b)] → W p l e room_1 s m #[Value.ref b] below meth c H locs cells1 slots1 (lw_Z below #[Value.ref b] s) (F0 m 578 ls [])) : W p l e room_1 s m #[Value.ref b] below meth c H locs cells slots (lw_Z below #[Value.ref b] s) (F0 m 242 ls []) := by
  obtain ⟨hx, hb, hr, hml, hown, hts0, hX, hbl, hlocks, hgv⟩ := id C0
  have hbA : ¬ hA g b := by show ¬ gB g ≤ b; rw [hgB]; exact Nat.not_le.mpr hbl
  obtain ⟨N, Z, kp, pf, bs, h, nm, ms, sc, sa, fo, br, kf, nw, fm, fs, fa, ff, rv, ad, S, V, hC, hw, hd, hpt⟩ := id hB
  refine lv_aload_n hx hb dL_law_242 rfl (lv_at hl 2 rfl) ?_
  refine lv_aload_n hx hb dL_law_243 rfl (lv_at hl 3 rfl) ?_
  refine lv_iload_n hx hb dL_law_244 rfl (lv_at hl 0 rfl) ?_
  refine lv_iconst (v := 1) hx hb dL_law_245 (by decide) ?_
  refine lv_iadd hx hb dL_law_246 ?_
  refine hs_ld hx hb hX hbl hbA hS (4 * i + 1) (add_n rfl rfl) (by omega) hL dL_law_247 ?_
  refine hp_ci (hp_runV (C := RX3) (T := TX3) (N := 6) (np := 1) (k := 2) (mc := 0) (ms := 0) (As := [.int (xs (4 * i + 1))]) (rest := []) EE hm hS (c_X3_back l g M N Z x kp pf bs h nm ms sc sa fo br kf nw fm fs fa ff rv σ hC (xs (4 * i + 1))) ms_X3_back wi_X3_back ws_X3_back wl_L_37 hC.2.2.1 rfl rfl hl.1 rfl (Nat.le_of_ble_eq_true rfl) dL_law_248 ⟨Nat.le_of_ble_eq_true rfl, Nat.le_of_ble_eq_true rfl⟩ ⟨(by show cells + 0 ≤ 600000; omega), (by show slots + 0 ≤ 7302250; omega)⟩) hS (fun r1 Mx2 H locs hq3 hm hS => ?_)
  obtain ⟨rfl, hP1⟩ := hq3
  obtain ⟨c1, hB1, hc1⟩ := cstep hw hd hpt hP1
  obtain ⟨N, Z, kp, pf, bs, h, nm, ms, sc, sa, fo, br, kf1, nw1, fm, fs, fa, ff, rv, ad, S, V, hC, hw, hd, hpt⟩ := hB1
  refine lv_aload_n hx hb dL_law_251 rfl (lv_at hl 1 rfl) ?_
  refine lv_aload_n hx hb dL_law_252 rfl (lv_at hl 3 rfl) ?_
  refine lv_iload_n hx hb dL_law_253 rfl (lv_at hl 0 rfl) ?_
  refine lv_iconst (v := 1) hx hb dL_law_254 (by decide) ?_
  refine lv_iadd hx hb dL_law_255 ?_
  refine hs_ld hx hb hX hbl hbA hS (4 * i + 1) (add_n rfl rfl) (by omega) hL dL_law_256 ?_
  refine hp_ci (hp_runV (C := RX4) (T := TX4) (N := 24) (np := 1) (k := 2) (mc := 0) (ms := 0) (As := [.int (xs (4 * i + 1))]) (rest := [.int ((sBack σ (xs (4 * i + 1))).1)]) EE hm hS (c_X4_back l g Mx2 y ad S V σ hw (xs (4 * i + 1))) ms_X4_back wi_X4_back ws_X4_back wl_L_40 hw.1.1 rfl rfl hl.1 rfl (Nat.le_of_ble_eq_true rfl) dL_law_257 ⟨Nat.le_of_ble_eq_true rfl, Nat.le_of_ble_eq_true rfl⟩ ⟨(by show cells + 0 ≤ 600000; omega), (by show slots + 0 ≤ 7302250; omega)⟩) hS (fun r4 Mx5 H locs hq6 hm hS => ?_)
  obtain ⟨rfl, hP2⟩ := hq6
  have hB2 := rstep hC hd hpt hP2
  refine lv_icmp_eq (tgt := 578) hx hb dL_law_260 (by decide) (fun c_260 => ?_) (fun c_260 => ?_)
  · exact nxt Mx5 _ c1 _ _ H locs ls hB2 (by omega) (by omega) hm hS hl
  · exact absurd rfl c_260
set_option maxHeartbeats 4000000 in
set_option maxRecDepth 100000 in
theorem law_word {p : Program} {e : Env} {s : State} {m : MethodId} {below : List Frame} {meth : Method} {c : Code} (l : Launch) {b L : Nat} {xs : Nat → Int32} (hL : L ≤ 2048) (C0 : lw_At p s m meth c b L xs) (g : hG) (EE : hE p c cL_law 4 s #[Value.ref b] m RL g) (hgB : gB g = s.heap.size) (x y : Nat) (i cells slots k : Nat) (M : hM) (σ : cSt) (H : Heap) (locs : List Loc) (ls : Array Slot) (hi4 : 4 * i + 4 ≤ L) (hB : BW g M x y σ σ k) (hce : cells + k ≤ 50 + 34 * i) (hsl : slots + 8 * k ≤ 41500 + 238 * i) (hm : hp g M H) (hS : va_S (hA g) s.heap H locs) (hl : lv_has ls 4 [(3, .int (nI (4 * i))), (2, .ref y), (1, .ref x), (0, .ref b)]) (nxt : ∀ (M1 : hM) (σ1 : cSt) (c1 cells1 slots1 : Nat) (H : Heap) (locs : List Loc) (ls : Array Slot), BW g M1 x y σ1 σ1 c1 → cells1 + c1 ≤ 50 + 34 * (i + 1) → slots1 + 8 * c1 ≤ 41500 + 238 * (i + 1) → hp g M1 H → va_S (hA g) s.heap H locs → lv_has ls 4 [(3, .int (nI (4 * i))), (2, .ref y), (1, .ref x), (0, .ref b)] → W p l e room_1 s m #[Value.ref b] below meth c H locs cells1 slots1 (lw_Z below #[Value.ref b] s) (F0 m 578 ls [])) : W p l e room_1 s m #[Value.ref b] below meth c H locs cells slots (lw_Z below #[Value.ref b] s) (F0 m 265 ls []) := by
  obtain ⟨hx, hb, hr, hml, hown, hts0, hX, hbl, hlocks, hgv⟩ := id C0
  have hbA : ¬ hA g b := by show ¬ gB g ≤ b; rw [hgB]; exact Nat.not_le.mpr hbl
  obtain ⟨N, Z, kp, pf, bs, h, nm, ms, sc, sa, fo, br, kf, nw, fm, fs, fa, ff, rv, ad, S, V, hC, hw, hd, hpt⟩ := id hB
  refine lv_aload_n hx hb dL_law_265 rfl (lv_at hl 2 rfl) ?_
  refine lv_aload_n hx hb dL_law_266 rfl (lv_at hl 3 rfl) ?_
  refine lv_iload_n hx hb dL_law_267 rfl (lv_at hl 0 rfl) ?_
  refine lv_iconst (v := 1) hx hb dL_law_268 (by decide) ?_
  refine lv_iadd hx hb dL_law_269 ?_
  refine hs_ld hx hb hX hbl hbA hS (4 * i + 1) (add_n rfl rfl) (by omega) hL dL_law_270 ?_
  refine lv_aload_n hx hb dL_law_271 rfl (lv_at hl 3 rfl) ?_
  refine lv_iload_n hx hb dL_law_272 rfl (lv_at hl 0 rfl) ?_
  refine lv_iconst (v := 2) hx hb dL_law_273 (by decide) ?_
  refine lv_iadd hx hb dL_law_274 ?_
  refine hs_ld hx hb hX hbl hbA hS (4 * i + 2) (add_n rfl rfl) (by omega) hL dL_law_275 ?_
  have hul := uWord_le hC (xs (4 * i + 1)) (xs (4 * i + 2))
  refine hp_ci (hp_runV (C := RX3) (T := TX3) (N := 6) (np := 2) (k := 22) (mc := uWord M kf nw σ (xs (4 * i + 1)) (xs (4 * i + 2))) (ms := 8 * (uWord M kf nw σ (xs (4 * i + 1)) (xs (4 * i + 2)))) (As := [.int (xs (4 * i + 1)), .int (xs (4 * i + 2))]) (rest := []) EE hm hS (c_X3_word l g M N Z x kp pf bs h nm ms sc sa fo br kf nw fm fs fa ff rv σ hC (xs (4 * i + 1)) (xs (4 * i + 2))) ms_X3_word wi_X3_word ws_X3_word wl_L_41 hC.2.2.1 rfl rfl hl.1 rfl (Nat.le_of_ble_eq_true rfl) dL_law_276 ⟨Nat.le_of_ble_eq_true rfl, Nat.le_of_ble_eq_true rfl⟩ ⟨(by show cells + uWord M kf nw σ (xs (4 * i + 1)) (xs (4 * i + 2)) ≤ 600000; omega), (by show slots + 8 * (uWord M kf nw σ (xs (4 * i + 1)) (xs (4 * i + 2))) ≤ 7302250; omega)⟩) hS (fun r1 Mx2 H locs hq3 hm hS => ?_)
  obtain ⟨rfl, hP1⟩ := hq3
  obtain ⟨c1, hB1, hc1⟩ := cstep hw hd hpt hP1
  obtain ⟨N, Z, kp, pf, bs, h, nm, ms, sc, sa, fo, br, kf1, nw1, fm, fs, fa, ff, rv, ad, S, V, hC, hw, hd, hpt⟩ := hB1
  refine lv_aload_n hx hb dL_law_279 rfl (lv_at hl 1 rfl) ?_
  refine lv_aload_n hx hb dL_law_280 rfl (lv_at hl 3 rfl) ?_
  refine lv_iload_n hx hb dL_law_281 rfl (lv_at hl 0 rfl) ?_
  refine lv_iconst (v := 1) hx hb dL_law_282 (by decide) ?_
  refine lv_iadd hx hb dL_law_283 ?_
  refine hs_ld hx hb hX hbl hbA hS (4 * i + 1) (add_n rfl rfl) (by omega) hL dL_law_284 ?_
  refine lv_aload_n hx hb dL_law_285 rfl (lv_at hl 3 rfl) ?_
  refine lv_iload_n hx hb dL_law_286 rfl (lv_at hl 0 rfl) ?_
  refine lv_iconst (v := 2) hx hb dL_law_287 (by decide) ?_
  refine lv_iadd hx hb dL_law_288 ?_
  refine hs_ld hx hb hX hbl hbA hS (4 * i + 2) (add_n rfl rfl) (by omega) hL dL_law_289 ?_
  refine hp_ci (hp_runV (C := RX4) (T := TX4) (N := 24) (np := 2) (k := 8) (mc := 0) (ms := 0) (As := [.int (xs (4 * i + 1)), .int (xs (4 * i + 2))]) (rest := [.int (rWord σ (xs (4 * i + 1)) (xs (4 * i + 2)))]) EE hm hS (c_X4_word l g Mx2 y ad S V σ hw (xs (4 * i + 1)) (xs (4 * i + 2))) ms_X4_word wi_X4_word ws_X4_word wl_L_44 hw.1.1 rfl rfl hl.1 rfl (Nat.le_of_ble_eq_true rfl) dL_law_290 ⟨Nat.le_of_ble_eq_true rfl, Nat.le_of_ble_eq_true rfl⟩ ⟨(by show cells + (uWord M kf nw σ (xs (4 * i + 1)) (xs (4 * i + 2))) + 0 ≤ 600000; omega), (by show slots + (8 * (uWord M kf nw σ (xs (4 * i + 1)) (xs (4 * i + 2)))) + 0 ≤ 7302250; omega)⟩) hS (fun r4 Mx5 H locs hq6 hm hS => ?_)
  obtain ⟨rfl, hP2⟩ := hq6
  have hB2 := rstep hC hd hpt hP2
  refine lv_icmp_eq (tgt := 578) hx hb dL_law_293 (by decide) (fun c_293 => ?_) (fun c_293 => ?_)
  · exact nxt Mx5 _ c1 _ _ H locs ls hB2 (by omega) (by omega) hm hS hl
  · exact absurd rfl c_293
set_option maxHeartbeats 4000000 in
set_option maxRecDepth 100000 in
theorem law_prove {p : Program} {e : Env} {s : State} {m : MethodId} {below : List Frame} {meth : Method} {c : Code} (l : Launch) {b L : Nat} {xs : Nat → Int32} (hL : L ≤ 2048) (C0 : lw_At p s m meth c b L xs) (g : hG) (EE : hE p c cL_law 4 s #[Value.ref b] m RL g) (hgB : gB g = s.heap.size) (x y : Nat) (i cells slots k : Nat) (M : hM) (σ : cSt) (H : Heap) (locs : List Loc) (ls : Array Slot) (hi4 : 4 * i + 4 ≤ L) (hB : BW g M x y σ σ k) (hce : cells + k ≤ 50 + 34 * i) (hsl : slots + 8 * k ≤ 41500 + 238 * i) (hm : hp g M H) (hS : va_S (hA g) s.heap H locs) (hl : lv_has ls 4 [(3, .int (nI (4 * i))), (2, .ref y), (1, .ref x), (0, .ref b)]) (nxt : ∀ (M1 : hM) (σ1 : cSt) (c1 cells1 slots1 : Nat) (H : Heap) (locs : List Loc) (ls : Array Slot), BW g M1 x y σ1 σ1 c1 → cells1 + c1 ≤ 50 + 34 * (i + 1) → slots1 + 8 * c1 ≤ 41500 + 238 * (i + 1) → hp g M1 H → va_S (hA g) s.heap H locs → lv_has ls 4 [(3, .int (nI (4 * i))), (2, .ref y), (1, .ref x), (0, .ref b)] → W p l e room_1 s m #[Value.ref b] below meth c H locs cells1 slots1 (lw_Z below #[Value.ref b] s) (F0 m 578 ls [])) : W p l e room_1 s m #[Value.ref b] below meth c H locs cells slots (lw_Z below #[Value.ref b] s) (F0 m 298 ls []) := by
  obtain ⟨hx, hb, hr, hml, hown, hts0, hX, hbl, hlocks, hgv⟩ := id C0
  have hbA : ¬ hA g b := by show ¬ gB g ≤ b; rw [hgB]; exact Nat.not_le.mpr hbl
  obtain ⟨N, Z, kp, pf, bs, h, nm, ms, sc, sa, fo, br, kf, nw, fm, fs, fa, ff, rv, ad, S, V, hC, hw, hd, hpt⟩ := id hB
  refine lv_aload_n hx hb dL_law_298 rfl (lv_at hl 2 rfl) ?_
  refine lv_aload_n hx hb dL_law_299 rfl (lv_at hl 3 rfl) ?_
  refine lv_iload_n hx hb dL_law_300 rfl (lv_at hl 0 rfl) ?_
  refine lv_iconst (v := 1) hx hb dL_law_301 (by decide) ?_
  refine lv_iadd hx hb dL_law_302 ?_
  refine hs_ld hx hb hX hbl hbA hS (4 * i + 1) (add_n rfl rfl) (by omega) hL dL_law_303 ?_
  refine lv_aload_n hx hb dL_law_304 rfl (lv_at hl 3 rfl) ?_
  refine lv_iload_n hx hb dL_law_305 rfl (lv_at hl 0 rfl) ?_
  refine lv_iconst (v := 2) hx hb dL_law_306 (by decide) ?_
  refine lv_iadd hx hb dL_law_307 ?_
  refine hs_ld hx hb hX hbl hbA hS (4 * i + 2) (add_n rfl rfl) (by omega) hL dL_law_308 ?_
  have hul := uProve_le hC (xs (4 * i + 1)) (xs (4 * i + 2))
  refine hp_ci (hp_runV (C := RX3) (T := TX3) (N := 6) (np := 2) (k := 22) (mc := uProve M kf nw σ (xs (4 * i + 1)) (xs (4 * i + 2))) (ms := 8 * (uProve M kf nw σ (xs (4 * i + 1)) (xs (4 * i + 2)))) (As := [.int (xs (4 * i + 1)), .int (xs (4 * i + 2))]) (rest := []) EE hm hS (c_X3_prove l g M N Z x kp pf bs h nm ms sc sa fo br kf nw fm fs fa ff rv σ hC (xs (4 * i + 1)) (xs (4 * i + 2))) ms_X3_prove wi_X3_prove ws_X3_prove wl_L_45 hC.2.2.1 rfl rfl hl.1 rfl (Nat.le_of_ble_eq_true rfl) dL_law_309 ⟨Nat.le_of_ble_eq_true rfl, Nat.le_of_ble_eq_true rfl⟩ ⟨(by show cells + uProve M kf nw σ (xs (4 * i + 1)) (xs (4 * i + 2)) ≤ 600000; omega), (by show slots + 8 * (uProve M kf nw σ (xs (4 * i + 1)) (xs (4 * i + 2))) ≤ 7302250; omega)⟩) hS (fun r1 Mx2 H locs hq3 hm hS => ?_)
  obtain ⟨rfl, hP1⟩ := hq3
  obtain ⟨c1, hB1, hc1⟩ := cstep hw hd hpt hP1
  obtain ⟨N, Z, kp, pf, bs, h, nm, ms, sc, sa, fo, br, kf1, nw1, fm, fs, fa, ff, rv, ad, S, V, hC, hw, hd, hpt⟩ := hB1
  refine lv_aload_n hx hb dL_law_312 rfl (lv_at hl 1 rfl) ?_
  refine lv_aload_n hx hb dL_law_313 rfl (lv_at hl 3 rfl) ?_
  refine lv_iload_n hx hb dL_law_314 rfl (lv_at hl 0 rfl) ?_
  refine lv_iconst (v := 1) hx hb dL_law_315 (by decide) ?_
  refine lv_iadd hx hb dL_law_316 ?_
  refine hs_ld hx hb hX hbl hbA hS (4 * i + 1) (add_n rfl rfl) (by omega) hL dL_law_317 ?_
  refine lv_aload_n hx hb dL_law_318 rfl (lv_at hl 3 rfl) ?_
  refine lv_iload_n hx hb dL_law_319 rfl (lv_at hl 0 rfl) ?_
  refine lv_iconst (v := 2) hx hb dL_law_320 (by decide) ?_
  refine lv_iadd hx hb dL_law_321 ?_
  refine hs_ld hx hb hX hbl hbA hS (4 * i + 2) (add_n rfl rfl) (by omega) hL dL_law_322 ?_
  refine hp_ci (hp_runV (C := RX4) (T := TX4) (N := 24) (np := 2) (k := 8) (mc := 0) (ms := 0) (As := [.int (xs (4 * i + 1)), .int (xs (4 * i + 2))]) (rest := [.int ((sProve σ (xs (4 * i + 1)) (xs (4 * i + 2))).1)]) EE hm hS (c_X4_prove l g Mx2 y ad S V σ hw (xs (4 * i + 1)) (xs (4 * i + 2))) ms_X4_prove wi_X4_prove ws_X4_prove wl_L_48 hw.1.1 rfl rfl hl.1 rfl (Nat.le_of_ble_eq_true rfl) dL_law_323 ⟨Nat.le_of_ble_eq_true rfl, Nat.le_of_ble_eq_true rfl⟩ ⟨(by show cells + (uProve M kf nw σ (xs (4 * i + 1)) (xs (4 * i + 2))) + 0 ≤ 600000; omega), (by show slots + (8 * (uProve M kf nw σ (xs (4 * i + 1)) (xs (4 * i + 2)))) + 0 ≤ 7302250; omega)⟩) hS (fun r4 Mx5 H locs hq6 hm hS => ?_)
  obtain ⟨rfl, hP2⟩ := hq6
  have hB2 := rstep hC hd hpt hP2
  refine lv_icmp_eq (tgt := 578) hx hb dL_law_326 (by decide) (fun c_326 => ?_) (fun c_326 => ?_)
  · exact nxt Mx5 _ c1 _ _ H locs ls hB2 (by omega) (by omega) hm hS hl
  · exact absurd rfl c_326
set_option maxHeartbeats 4000000 in
set_option maxRecDepth 100000 in
theorem law_siblings {p : Program} {e : Env} {s : State} {m : MethodId} {below : List Frame} {meth : Method} {c : Code} (l : Launch) {b L : Nat} {xs : Nat → Int32} (hL : L ≤ 2048) (C0 : lw_At p s m meth c b L xs) (g : hG) (EE : hE p c cL_law 4 s #[Value.ref b] m RL g) (hgB : gB g = s.heap.size) (x y : Nat) (i cells slots k : Nat) (M : hM) (σ : cSt) (H : Heap) (locs : List Loc) (ls : Array Slot) (hi4 : 4 * i + 4 ≤ L) (hB : BW g M x y σ σ k) (hce : cells + k ≤ 50 + 34 * i) (hsl : slots + 8 * k ≤ 41500 + 238 * i) (hm : hp g M H) (hS : va_S (hA g) s.heap H locs) (hl : lv_has ls 4 [(3, .int (nI (4 * i))), (2, .ref y), (1, .ref x), (0, .ref b)]) (nxt : ∀ (M1 : hM) (σ1 : cSt) (c1 cells1 slots1 : Nat) (H : Heap) (locs : List Loc) (ls : Array Slot), BW g M1 x y σ1 σ1 c1 → cells1 + c1 ≤ 50 + 34 * (i + 1) → slots1 + 8 * c1 ≤ 41500 + 238 * (i + 1) → hp g M1 H → va_S (hA g) s.heap H locs → lv_has ls 4 [(3, .int (nI (4 * i))), (2, .ref y), (1, .ref x), (0, .ref b)] → W p l e room_1 s m #[Value.ref b] below meth c H locs cells1 slots1 (lw_Z below #[Value.ref b] s) (F0 m 578 ls [])) : W p l e room_1 s m #[Value.ref b] below meth c H locs cells slots (lw_Z below #[Value.ref b] s) (F0 m 331 ls []) := by
  obtain ⟨hx, hb, hr, hml, hown, hts0, hX, hbl, hlocks, hgv⟩ := id C0
  have hbA : ¬ hA g b := by show ¬ gB g ≤ b; rw [hgB]; exact Nat.not_le.mpr hbl
  obtain ⟨N, Z, kp, pf, bs, h, nm, ms, sc, sa, fo, br, kf, nw, fm, fs, fa, ff, rv, ad, S, V, hC, hw, hd, hpt⟩ := id hB
  refine lv_aload_n hx hb dL_law_331 rfl (lv_at hl 2 rfl) ?_
  refine hp_ci (hp_runV (C := RX3) (T := TX3) (N := 6) (np := 0) (k := 1) (mc := 0) (ms := 0) (As := ([] : List Value)) (rest := []) EE hm hS (c_X3_siblings l g M N Z x kp pf bs h nm ms sc sa fo br kf nw fm fs fa ff rv σ hC ) ms_X3_siblings wi_X3_siblings ws_X3_siblings wl_L_49 hC.2.2.1 rfl rfl hl.1 rfl (Nat.le_of_ble_eq_true rfl) dL_law_332 ⟨Nat.le_of_ble_eq_true rfl, Nat.le_of_ble_eq_true rfl⟩ ⟨(by show cells + 0 ≤ 600000; omega), (by show slots + 0 ≤ 7302250; omega)⟩) hS (fun r1 Mx2 H locs hq3 hm hS => ?_)
  obtain ⟨rfl, h9⟩ := hq3
  rw [h9] at hm
  refine lv_aload_n hx hb dL_law_335 rfl (lv_at hl 1 rfl) ?_
  refine hp_ci (hp_runV (C := RX4) (T := TX4) (N := 24) (np := 0) (k := 1) (mc := 0) (ms := 0) (As := ([] : List Value)) (rest := [.int (nI (sPl σ))]) EE hm hS (c_X4_siblings l g M y ad S V σ hw ) ms_X4_siblings wi_X4_siblings ws_X4_siblings wl_L_52 hw.1.1 rfl rfl hl.1 rfl (Nat.le_of_ble_eq_true rfl) dL_law_336 ⟨Nat.le_of_ble_eq_true rfl, Nat.le_of_ble_eq_true rfl⟩ ⟨(by show cells + 0 ≤ 600000; omega), (by show slots + 0 ≤ 7302250; omega)⟩) hS (fun r4 Mx5 H locs hq6 hm hS => ?_)
  obtain ⟨rfl, h9⟩ := hq6
  rw [h9] at hm
  refine lv_icmp_eq (tgt := 578) hx hb dL_law_339 (by decide) (fun c_339 => ?_) (fun c_339 => ?_)
  · exact nxt M σ k _ _ H locs ls hB (by omega) (by omega) hm hS hl
  · exact absurd rfl c_339
set_option maxHeartbeats 4000000 in
set_option maxRecDepth 100000 in
theorem law_sibling {p : Program} {e : Env} {s : State} {m : MethodId} {below : List Frame} {meth : Method} {c : Code} (l : Launch) {b L : Nat} {xs : Nat → Int32} (hL : L ≤ 2048) (C0 : lw_At p s m meth c b L xs) (g : hG) (EE : hE p c cL_law 4 s #[Value.ref b] m RL g) (hgB : gB g = s.heap.size) (x y : Nat) (i cells slots k : Nat) (M : hM) (σ : cSt) (H : Heap) (locs : List Loc) (ls : Array Slot) (hi4 : 4 * i + 4 ≤ L) (hB : BW g M x y σ σ k) (hce : cells + k ≤ 50 + 34 * i) (hsl : slots + 8 * k ≤ 41500 + 238 * i) (hm : hp g M H) (hS : va_S (hA g) s.heap H locs) (hl : lv_has ls 4 [(3, .int (nI (4 * i))), (2, .ref y), (1, .ref x), (0, .ref b)]) (nxt : ∀ (M1 : hM) (σ1 : cSt) (c1 cells1 slots1 : Nat) (H : Heap) (locs : List Loc) (ls : Array Slot), BW g M1 x y σ1 σ1 c1 → cells1 + c1 ≤ 50 + 34 * (i + 1) → slots1 + 8 * c1 ≤ 41500 + 238 * (i + 1) → hp g M1 H → va_S (hA g) s.heap H locs → lv_has ls 4 [(3, .int (nI (4 * i))), (2, .ref y), (1, .ref x), (0, .ref b)] → W p l e room_1 s m #[Value.ref b] below meth c H locs cells1 slots1 (lw_Z below #[Value.ref b] s) (F0 m 578 ls [])) : W p l e room_1 s m #[Value.ref b] below meth c H locs cells slots (lw_Z below #[Value.ref b] s) (F0 m 344 ls []) := by
  obtain ⟨hx, hb, hr, hml, hown, hts0, hX, hbl, hlocks, hgv⟩ := id C0
  have hbA : ¬ hA g b := by show ¬ gB g ≤ b; rw [hgB]; exact Nat.not_le.mpr hbl
  obtain ⟨N, Z, kp, pf, bs, h, nm, ms, sc, sa, fo, br, kf, nw, fm, fs, fa, ff, rv, ad, S, V, hC, hw, hd, hpt⟩ := id hB
  refine lv_aload_n hx hb dL_law_344 rfl (lv_at hl 2 rfl) ?_
  refine lv_aload_n hx hb dL_law_345 rfl (lv_at hl 3 rfl) ?_
  refine lv_iload_n hx hb dL_law_346 rfl (lv_at hl 0 rfl) ?_
  refine lv_iconst (v := 1) hx hb dL_law_347 (by decide) ?_
  refine lv_iadd hx hb dL_law_348 ?_
  refine hs_ld hx hb hX hbl hbA hS (4 * i + 1) (add_n rfl rfl) (by omega) hL dL_law_349 ?_
  refine lv_aload_n hx hb dL_law_350 rfl (lv_at hl 3 rfl) ?_
  refine lv_iload_n hx hb dL_law_351 rfl (lv_at hl 0 rfl) ?_
  refine lv_iconst (v := 2) hx hb dL_law_352 (by decide) ?_
  refine lv_iadd hx hb dL_law_353 ?_
  refine hs_ld hx hb hX hbl hbA hS (4 * i + 2) (add_n rfl rfl) (by omega) hL dL_law_354 ?_
  refine hp_ci (hp_runV (C := RX3) (T := TX3) (N := 6) (np := 2) (k := 2) (mc := 0) (ms := 0) (As := [.int (xs (4 * i + 1)), .int (xs (4 * i + 2))]) (rest := []) EE hm hS (c_X3_sibling l g M N Z x kp pf bs h nm ms sc sa fo br kf nw fm fs fa ff rv σ hC (xs (4 * i + 1)) (xs (4 * i + 2))) ms_X3_sibling wi_X3_sibling ws_X3_sibling wl_L_53 hC.2.2.1 rfl rfl hl.1 rfl (Nat.le_of_ble_eq_true rfl) dL_law_355 ⟨Nat.le_of_ble_eq_true rfl, Nat.le_of_ble_eq_true rfl⟩ ⟨(by show cells + 0 ≤ 600000; omega), (by show slots + 0 ≤ 7302250; omega)⟩) hS (fun r1 Mx2 H locs hq3 hm hS => ?_)
  obtain ⟨rfl, h9⟩ := hq3
  rw [h9] at hm
  refine lv_aload_n hx hb dL_law_358 rfl (lv_at hl 1 rfl) ?_
  refine lv_aload_n hx hb dL_law_359 rfl (lv_at hl 3 rfl) ?_
  refine lv_iload_n hx hb dL_law_360 rfl (lv_at hl 0 rfl) ?_
  refine lv_iconst (v := 1) hx hb dL_law_361 (by decide) ?_
  refine lv_iadd hx hb dL_law_362 ?_
  refine hs_ld hx hb hX hbl hbA hS (4 * i + 1) (add_n rfl rfl) (by omega) hL dL_law_363 ?_
  refine lv_aload_n hx hb dL_law_364 rfl (lv_at hl 3 rfl) ?_
  refine lv_iload_n hx hb dL_law_365 rfl (lv_at hl 0 rfl) ?_
  refine lv_iconst (v := 2) hx hb dL_law_366 (by decide) ?_
  refine lv_iadd hx hb dL_law_367 ?_
  refine hs_ld hx hb hX hbl hbA hS (4 * i + 2) (add_n rfl rfl) (by omega) hL dL_law_368 ?_
  refine hp_ci (hp_runV (C := RX4) (T := TX4) (N := 24) (np := 2) (k := 2) (mc := 0) (ms := 0) (As := [.int (xs (4 * i + 1)), .int (xs (4 * i + 2))]) (rest := [.int (rSib σ (xs (4 * i + 1)) (xs (4 * i + 2)))]) EE hm hS (c_X4_sibling l g M y ad S V σ hw (xs (4 * i + 1)) (xs (4 * i + 2))) ms_X4_sibling wi_X4_sibling ws_X4_sibling wl_L_56 hw.1.1 rfl rfl hl.1 rfl (Nat.le_of_ble_eq_true rfl) dL_law_369 ⟨Nat.le_of_ble_eq_true rfl, Nat.le_of_ble_eq_true rfl⟩ ⟨(by show cells + 0 ≤ 600000; omega), (by show slots + 0 ≤ 7302250; omega)⟩) hS (fun r4 Mx5 H locs hq6 hm hS => ?_)
  obtain ⟨rfl, h9⟩ := hq6
  rw [h9] at hm
  refine lv_icmp_eq (tgt := 578) hx hb dL_law_372 (by decide) (fun c_372 => ?_) (fun c_372 => ?_)
  · exact nxt M σ k _ _ H locs ls hB (by omega) (by omega) hm hS hl
  · exact absurd rfl c_372
set_option maxHeartbeats 4000000 in
set_option maxRecDepth 100000 in
theorem law_end {p : Program} {e : Env} {s : State} {m : MethodId} {below : List Frame} {meth : Method} {c : Code} (l : Launch) {b L : Nat} {xs : Nat → Int32} (hL : L ≤ 2048) (C0 : lw_At p s m meth c b L xs) (g : hG) (EE : hE p c cL_law 4 s #[Value.ref b] m RL g) (hgB : gB g = s.heap.size) (x y : Nat) (i cells slots k : Nat) (M : hM) (σ : cSt) (H : Heap) (locs : List Loc) (ls : Array Slot) (hi4 : 4 * i + 4 ≤ L) (hB : BW g M x y σ σ k) (hce : cells + k ≤ 50 + 34 * i) (hsl : slots + 8 * k ≤ 41500 + 238 * i) (hm : hp g M H) (hS : va_S (hA g) s.heap H locs) (hl : lv_has ls 4 [(3, .int (nI (4 * i))), (2, .ref y), (1, .ref x), (0, .ref b)]) (nxt : ∀ (M1 : hM) (σ1 : cSt) (c1 cells1 slots1 : Nat) (H : Heap) (locs : List Loc) (ls : Array Slot), BW g M1 x y σ1 σ1 c1 → cells1 + c1 ≤ 50 + 34 * (i + 1) → slots1 + 8 * c1 ≤ 41500 + 238 * (i + 1) → hp g M1 H → va_S (hA g) s.heap H locs → lv_has ls 4 [(3, .int (nI (4 * i))), (2, .ref y), (1, .ref x), (0, .ref b)] → W p l e room_1 s m #[Value.ref b] below meth c H locs cells1 slots1 (lw_Z below #[Value.ref b] s) (F0 m 578 ls [])) : W p l e room_1 s m #[Value.ref b] below meth c H locs cells slots (lw_Z below #[Value.ref b] s) (F0 m 377 ls []) := by
  obtain ⟨hx, hb, hr, hml, hown, hts0, hX, hbl, hlocks, hgv⟩ := id C0
  have hbA : ¬ hA g b := by show ¬ gB g ≤ b; rw [hgB]; exact Nat.not_le.mpr hbl
  obtain ⟨N, Z, kp, pf, bs, h, nm, ms, sc, sa, fo, br, kf, nw, fm, fs, fa, ff, rv, ad, S, V, hC, hw, hd, hpt⟩ := id hB
  refine lv_aload_n hx hb dL_law_377 rfl (lv_at hl 2 rfl) ?_
  refine lv_aload_n hx hb dL_law_378 rfl (lv_at hl 3 rfl) ?_
  refine lv_iload_n hx hb dL_law_379 rfl (lv_at hl 0 rfl) ?_
  refine lv_iconst (v := 1) hx hb dL_law_380 (by decide) ?_
  refine lv_iadd hx hb dL_law_381 ?_
  refine hs_ld hx hb hX hbl hbA hS (4 * i + 1) (add_n rfl rfl) (by omega) hL dL_law_382 ?_
  refine hp_ci (hp_runV (C := RX3) (T := TX3) (N := 6) (np := 1) (k := 1) (mc := 0) (ms := 0) (As := [.int (xs (4 * i + 1))]) (rest := []) EE hm hS (c_X3_end l g M N Z x kp pf bs h nm ms sc sa fo br kf nw fm fs fa ff rv σ hC (xs (4 * i + 1))) ms_X3_end wi_X3_end ws_X3_end wl_L_57 hC.2.2.1 rfl rfl hl.1 rfl (Nat.le_of_ble_eq_true rfl) dL_law_383 ⟨Nat.le_of_ble_eq_true rfl, Nat.le_of_ble_eq_true rfl⟩ ⟨(by show cells + 0 ≤ 600000; omega), (by show slots + 0 ≤ 7302250; omega)⟩) hS (fun r1 Mx2 H locs hq3 hm hS => ?_)
  obtain ⟨rfl, h9⟩ := hq3
  rw [h9] at hm
  refine lv_aload_n hx hb dL_law_386 rfl (lv_at hl 1 rfl) ?_
  refine lv_aload_n hx hb dL_law_387 rfl (lv_at hl 3 rfl) ?_
  refine lv_iload_n hx hb dL_law_388 rfl (lv_at hl 0 rfl) ?_
  refine lv_iconst (v := 1) hx hb dL_law_389 (by decide) ?_
  refine lv_iadd hx hb dL_law_390 ?_
  refine hs_ld hx hb hX hbl hbA hS (4 * i + 1) (add_n rfl rfl) (by omega) hL dL_law_391 ?_
  refine hp_ci (hp_runV (C := RX4) (T := TX4) (N := 24) (np := 1) (k := 1) (mc := 0) (ms := 0) (As := [.int (xs (4 * i + 1))]) (rest := [.int (rEnd σ (xs (4 * i + 1)))]) EE hm hS (c_X4_end l g M y ad S V σ hw (xs (4 * i + 1))) ms_X4_end wi_X4_end ws_X4_end wl_L_60 hw.1.1 rfl rfl hl.1 rfl (Nat.le_of_ble_eq_true rfl) dL_law_392 ⟨Nat.le_of_ble_eq_true rfl, Nat.le_of_ble_eq_true rfl⟩ ⟨(by show cells + 0 ≤ 600000; omega), (by show slots + 0 ≤ 7302250; omega)⟩) hS (fun r4 Mx5 H locs hq6 hm hS => ?_)
  obtain ⟨rfl, h9⟩ := hq6
  rw [h9] at hm
  refine lv_icmp_eq (tgt := 578) hx hb dL_law_395 (by decide) (fun c_395 => ?_) (fun c_395 => ?_)
  · exact nxt M σ k _ _ H locs ls hB (by omega) (by omega) hm hS hl
  · exact absurd rfl c_395
set_option maxHeartbeats 4000000 in
set_option maxRecDepth 100000 in
theorem law_alter {p : Program} {e : Env} {s : State} {m : MethodId} {below : List Frame} {meth : Method} {c : Code} (l : Launch) {b L : Nat} {xs : Nat → Int32} (hL : L ≤ 2048) (C0 : lw_At p s m meth c b L xs) (g : hG) (EE : hE p c cL_law 4 s #[Value.ref b] m RL g) (hgB : gB g = s.heap.size) (x y : Nat) (i cells slots k : Nat) (M : hM) (σ : cSt) (H : Heap) (locs : List Loc) (ls : Array Slot) (hi4 : 4 * i + 4 ≤ L) (hB : BW g M x y σ σ k) (hce : cells + k ≤ 50 + 34 * i) (hsl : slots + 8 * k ≤ 41500 + 238 * i) (hm : hp g M H) (hS : va_S (hA g) s.heap H locs) (hl : lv_has ls 4 [(3, .int (nI (4 * i))), (2, .ref y), (1, .ref x), (0, .ref b)]) (nxt : ∀ (M1 : hM) (σ1 : cSt) (c1 cells1 slots1 : Nat) (H : Heap) (locs : List Loc) (ls : Array Slot), BW g M1 x y σ1 σ1 c1 → cells1 + c1 ≤ 50 + 34 * (i + 1) → slots1 + 8 * c1 ≤ 41500 + 238 * (i + 1) → hp g M1 H → va_S (hA g) s.heap H locs → lv_has ls 4 [(3, .int (nI (4 * i))), (2, .ref y), (1, .ref x), (0, .ref b)] → W p l e room_1 s m #[Value.ref b] below meth c H locs cells1 slots1 (lw_Z below #[Value.ref b] s) (F0 m 578 ls [])) : W p l e room_1 s m #[Value.ref b] below meth c H locs cells slots (lw_Z below #[Value.ref b] s) (F0 m 400 ls []) := by
  obtain ⟨hx, hb, hr, hml, hown, hts0, hX, hbl, hlocks, hgv⟩ := id C0
  have hbA : ¬ hA g b := by show ¬ gB g ≤ b; rw [hgB]; exact Nat.not_le.mpr hbl
  obtain ⟨N, Z, kp, pf, bs, h, nm, ms, sc, sa, fo, br, kf, nw, fm, fs, fa, ff, rv, ad, S, V, hC, hw, hd, hpt⟩ := id hB
  refine lv_aload_n hx hb dL_law_400 rfl (lv_at hl 2 rfl) ?_
  refine lv_aload_n hx hb dL_law_401 rfl (lv_at hl 3 rfl) ?_
  refine lv_iload_n hx hb dL_law_402 rfl (lv_at hl 0 rfl) ?_
  refine lv_iconst (v := 1) hx hb dL_law_403 (by decide) ?_
  refine lv_iadd hx hb dL_law_404 ?_
  refine hs_ld hx hb hX hbl hbA hS (4 * i + 1) (add_n rfl rfl) (by omega) hL dL_law_405 ?_
  refine lv_aload_n hx hb dL_law_406 rfl (lv_at hl 3 rfl) ?_
  refine lv_iload_n hx hb dL_law_407 rfl (lv_at hl 0 rfl) ?_
  refine lv_iconst (v := 2) hx hb dL_law_408 (by decide) ?_
  refine lv_iadd hx hb dL_law_409 ?_
  refine hs_ld hx hb hX hbl hbA hS (4 * i + 2) (add_n rfl rfl) (by omega) hL dL_law_410 ?_
  refine lv_aload_n hx hb dL_law_411 rfl (lv_at hl 3 rfl) ?_
  refine lv_iload_n hx hb dL_law_412 rfl (lv_at hl 0 rfl) ?_
  refine lv_iconst (v := 3) hx hb dL_law_413 (by decide) ?_
  refine lv_iadd hx hb dL_law_414 ?_
  refine hs_ld hx hb hX hbl hbA hS (4 * i + 3) (add_n rfl rfl) (by omega) hL dL_law_415 ?_
  refine hp_ci (hp_runV (C := RX3) (T := TX3) (N := 6) (np := 3) (k := 2) (mc := 0) (ms := 0) (As := [.int (xs (4 * i + 1)), .int (xs (4 * i + 2)), .int (xs (4 * i + 3))]) (rest := []) EE hm hS (c_X3_alter l g M N Z x kp pf bs h nm ms sc sa fo br kf nw fm fs fa ff rv σ hC (xs (4 * i + 1)) (xs (4 * i + 2)) (xs (4 * i + 3))) ms_X3_alter wi_X3_alter ws_X3_alter wl_L_61 hC.2.2.1 rfl rfl hl.1 rfl (Nat.le_of_ble_eq_true rfl) dL_law_416 ⟨Nat.le_of_ble_eq_true rfl, Nat.le_of_ble_eq_true rfl⟩ ⟨(by show cells + 0 ≤ 600000; omega), (by show slots + 0 ≤ 7302250; omega)⟩) hS (fun r1 Mx2 H locs hq3 hm hS => ?_)
  obtain ⟨rfl, hP1⟩ := hq3
  obtain ⟨c1, hB1, hc1⟩ := cstep hw hd hpt hP1
  obtain ⟨N, Z, kp, pf, bs, h, nm, ms, sc, sa, fo, br, kf1, nw1, fm, fs, fa, ff, rv, ad, S, V, hC, hw, hd, hpt⟩ := hB1
  refine lv_aload_n hx hb dL_law_419 rfl (lv_at hl 1 rfl) ?_
  refine lv_aload_n hx hb dL_law_420 rfl (lv_at hl 3 rfl) ?_
  refine lv_iload_n hx hb dL_law_421 rfl (lv_at hl 0 rfl) ?_
  refine lv_iconst (v := 1) hx hb dL_law_422 (by decide) ?_
  refine lv_iadd hx hb dL_law_423 ?_
  refine hs_ld hx hb hX hbl hbA hS (4 * i + 1) (add_n rfl rfl) (by omega) hL dL_law_424 ?_
  refine lv_aload_n hx hb dL_law_425 rfl (lv_at hl 3 rfl) ?_
  refine lv_iload_n hx hb dL_law_426 rfl (lv_at hl 0 rfl) ?_
  refine lv_iconst (v := 2) hx hb dL_law_427 (by decide) ?_
  refine lv_iadd hx hb dL_law_428 ?_
  refine hs_ld hx hb hX hbl hbA hS (4 * i + 2) (add_n rfl rfl) (by omega) hL dL_law_429 ?_
  refine lv_aload_n hx hb dL_law_430 rfl (lv_at hl 3 rfl) ?_
  refine lv_iload_n hx hb dL_law_431 rfl (lv_at hl 0 rfl) ?_
  refine lv_iconst (v := 3) hx hb dL_law_432 (by decide) ?_
  refine lv_iadd hx hb dL_law_433 ?_
  refine hs_ld hx hb hX hbl hbA hS (4 * i + 3) (add_n rfl rfl) (by omega) hL dL_law_434 ?_
  refine hp_ci (hp_runV (C := RX4) (T := TX4) (N := 24) (np := 3) (k := 2) (mc := 0) (ms := 0) (As := [.int (xs (4 * i + 1)), .int (xs (4 * i + 2)), .int (xs (4 * i + 3))]) (rest := [.int ((sAlter σ (xs (4 * i + 1)) (xs (4 * i + 2)) (xs (4 * i + 3))).1)]) EE hm hS (c_X4_alter l g Mx2 y ad S V σ hw (xs (4 * i + 1)) (xs (4 * i + 2)) (xs (4 * i + 3))) ms_X4_alter wi_X4_alter ws_X4_alter wl_L_65 hw.1.1 rfl rfl hl.1 rfl (Nat.le_of_ble_eq_true rfl) dL_law_435 ⟨Nat.le_of_ble_eq_true rfl, Nat.le_of_ble_eq_true rfl⟩ ⟨(by show cells + 0 ≤ 600000; omega), (by show slots + 0 ≤ 7302250; omega)⟩) hS (fun r4 Mx5 H locs hq6 hm hS => ?_)
  obtain ⟨rfl, hP2⟩ := hq6
  have hB2 := rstep hC hd hpt hP2
  refine lv_icmp_eq (tgt := 578) hx hb dL_law_438 (by decide) (fun c_438 => ?_) (fun c_438 => ?_)
  · exact nxt Mx5 _ c1 _ _ H locs ls hB2 (by omega) (by omega) hm hS hl
  · exact absurd rfl c_438
set_option maxHeartbeats 4000000 in
set_option maxRecDepth 100000 in
theorem law_claim {p : Program} {e : Env} {s : State} {m : MethodId} {below : List Frame} {meth : Method} {c : Code} (l : Launch) {b L : Nat} {xs : Nat → Int32} (hL : L ≤ 2048) (C0 : lw_At p s m meth c b L xs) (g : hG) (EE : hE p c cL_law 4 s #[Value.ref b] m RL g) (hgB : gB g = s.heap.size) (x y : Nat) (i cells slots k : Nat) (M : hM) (σ : cSt) (H : Heap) (locs : List Loc) (ls : Array Slot) (hi4 : 4 * i + 4 ≤ L) (hB : BW g M x y σ σ k) (hce : cells + k ≤ 50 + 34 * i) (hsl : slots + 8 * k ≤ 41500 + 238 * i) (hm : hp g M H) (hS : va_S (hA g) s.heap H locs) (hl : lv_has ls 4 [(3, .int (nI (4 * i))), (2, .ref y), (1, .ref x), (0, .ref b)]) (nxt : ∀ (M1 : hM) (σ1 : cSt) (c1 cells1 slots1 : Nat) (H : Heap) (locs : List Loc) (ls : Array Slot), BW g M1 x y σ1 σ1 c1 → cells1 + c1 ≤ 50 + 34 * (i + 1) → slots1 + 8 * c1 ≤ 41500 + 238 * (i + 1) → hp g M1 H → va_S (hA g) s.heap H locs → lv_has ls 4 [(3, .int (nI (4 * i))), (2, .ref y), (1, .ref x), (0, .ref b)] → W p l e room_1 s m #[Value.ref b] below meth c H locs cells1 slots1 (lw_Z below #[Value.ref b] s) (F0 m 578 ls [])) : W p l e room_1 s m #[Value.ref b] below meth c H locs cells slots (lw_Z below #[Value.ref b] s) (F0 m 443 ls []) := by
  obtain ⟨hx, hb, hr, hml, hown, hts0, hX, hbl, hlocks, hgv⟩ := id C0
  have hbA : ¬ hA g b := by show ¬ gB g ≤ b; rw [hgB]; exact Nat.not_le.mpr hbl
  obtain ⟨N, Z, kp, pf, bs, h, nm, ms, sc, sa, fo, br, kf, nw, fm, fs, fa, ff, rv, ad, S, V, hC, hw, hd, hpt⟩ := id hB
  refine lv_aload_n hx hb dL_law_443 rfl (lv_at hl 2 rfl) ?_
  refine lv_aload_n hx hb dL_law_444 rfl (lv_at hl 3 rfl) ?_
  refine lv_iload_n hx hb dL_law_445 rfl (lv_at hl 0 rfl) ?_
  refine lv_iconst (v := 1) hx hb dL_law_446 (by decide) ?_
  refine lv_iadd hx hb dL_law_447 ?_
  refine hs_ld hx hb hX hbl hbA hS (4 * i + 1) (add_n rfl rfl) (by omega) hL dL_law_448 ?_
  refine lv_aload_n hx hb dL_law_449 rfl (lv_at hl 3 rfl) ?_
  refine lv_iload_n hx hb dL_law_450 rfl (lv_at hl 0 rfl) ?_
  refine lv_iconst (v := 2) hx hb dL_law_451 (by decide) ?_
  refine lv_iadd hx hb dL_law_452 ?_
  refine hs_ld hx hb hX hbl hbA hS (4 * i + 2) (add_n rfl rfl) (by omega) hL dL_law_453 ?_
  refine hp_ci (hp_runV (C := RX3) (T := TX3) (N := 6) (np := 2) (k := 2) (mc := 0) (ms := 0) (As := [.int (xs (4 * i + 1)), .int (xs (4 * i + 2))]) (rest := []) EE hm hS (c_X3_claim l g M N Z x kp pf bs h nm ms sc sa fo br kf nw fm fs fa ff rv σ hC (xs (4 * i + 1)) (xs (4 * i + 2))) ms_X3_claim wi_X3_claim ws_X3_claim wl_L_66 hC.2.2.1 rfl rfl hl.1 rfl (Nat.le_of_ble_eq_true rfl) dL_law_454 ⟨Nat.le_of_ble_eq_true rfl, Nat.le_of_ble_eq_true rfl⟩ ⟨(by show cells + 0 ≤ 600000; omega), (by show slots + 0 ≤ 7302250; omega)⟩) hS (fun r1 Mx2 H locs hq3 hm hS => ?_)
  obtain ⟨rfl, hP1⟩ := hq3
  obtain ⟨c1, hB1, hc1⟩ := cstep hw hd hpt hP1
  obtain ⟨N, Z, kp, pf, bs, h, nm, ms, sc, sa, fo, br, kf1, nw1, fm, fs, fa, ff, rv, ad, S, V, hC, hw, hd, hpt⟩ := hB1
  refine lv_aload_n hx hb dL_law_457 rfl (lv_at hl 1 rfl) ?_
  refine lv_aload_n hx hb dL_law_458 rfl (lv_at hl 3 rfl) ?_
  refine lv_iload_n hx hb dL_law_459 rfl (lv_at hl 0 rfl) ?_
  refine lv_iconst (v := 1) hx hb dL_law_460 (by decide) ?_
  refine lv_iadd hx hb dL_law_461 ?_
  refine hs_ld hx hb hX hbl hbA hS (4 * i + 1) (add_n rfl rfl) (by omega) hL dL_law_462 ?_
  refine lv_aload_n hx hb dL_law_463 rfl (lv_at hl 3 rfl) ?_
  refine lv_iload_n hx hb dL_law_464 rfl (lv_at hl 0 rfl) ?_
  refine lv_iconst (v := 2) hx hb dL_law_465 (by decide) ?_
  refine lv_iadd hx hb dL_law_466 ?_
  refine hs_ld hx hb hX hbl hbA hS (4 * i + 2) (add_n rfl rfl) (by omega) hL dL_law_467 ?_
  refine hp_ci (hp_runV (C := RX4) (T := TX4) (N := 24) (np := 2) (k := 2) (mc := 0) (ms := 0) (As := [.int (xs (4 * i + 1)), .int (xs (4 * i + 2))]) (rest := [.int ((sClaim σ (xs (4 * i + 1)) (xs (4 * i + 2))).1)]) EE hm hS (c_X4_claim l g Mx2 y ad S V σ hw (xs (4 * i + 1)) (xs (4 * i + 2))) ms_X4_claim wi_X4_claim ws_X4_claim wl_L_69 hw.1.1 rfl rfl hl.1 rfl (Nat.le_of_ble_eq_true rfl) dL_law_468 ⟨Nat.le_of_ble_eq_true rfl, Nat.le_of_ble_eq_true rfl⟩ ⟨(by show cells + 0 ≤ 600000; omega), (by show slots + 0 ≤ 7302250; omega)⟩) hS (fun r4 Mx5 H locs hq6 hm hS => ?_)
  obtain ⟨rfl, hP2⟩ := hq6
  have hB2 := rstep hC hd hpt hP2
  refine lv_icmp_eq (tgt := 578) hx hb dL_law_471 (by decide) (fun c_471 => ?_) (fun c_471 => ?_)
  · exact nxt Mx5 _ c1 _ _ H locs ls hB2 (by omega) (by omega) hm hS hl
  · exact absurd rfl c_471
set_option maxHeartbeats 4000000 in
set_option maxRecDepth 100000 in
theorem law_cut {p : Program} {e : Env} {s : State} {m : MethodId} {below : List Frame} {meth : Method} {c : Code} (l : Launch) {b L : Nat} {xs : Nat → Int32} (hL : L ≤ 2048) (C0 : lw_At p s m meth c b L xs) (g : hG) (EE : hE p c cL_law 4 s #[Value.ref b] m RL g) (hgB : gB g = s.heap.size) (x y : Nat) (i cells slots k : Nat) (M : hM) (σ : cSt) (H : Heap) (locs : List Loc) (ls : Array Slot) (hi4 : 4 * i + 4 ≤ L) (hB : BW g M x y σ σ k) (hce : cells + k ≤ 50 + 34 * i) (hsl : slots + 8 * k ≤ 41500 + 238 * i) (hm : hp g M H) (hS : va_S (hA g) s.heap H locs) (hl : lv_has ls 4 [(3, .int (nI (4 * i))), (2, .ref y), (1, .ref x), (0, .ref b)]) (nxt : ∀ (M1 : hM) (σ1 : cSt) (c1 cells1 slots1 : Nat) (H : Heap) (locs : List Loc) (ls : Array Slot), BW g M1 x y σ1 σ1 c1 → cells1 + c1 ≤ 50 + 34 * (i + 1) → slots1 + 8 * c1 ≤ 41500 + 238 * (i + 1) → hp g M1 H → va_S (hA g) s.heap H locs → lv_has ls 4 [(3, .int (nI (4 * i))), (2, .ref y), (1, .ref x), (0, .ref b)] → W p l e room_1 s m #[Value.ref b] below meth c H locs cells1 slots1 (lw_Z below #[Value.ref b] s) (F0 m 578 ls [])) : W p l e room_1 s m #[Value.ref b] below meth c H locs cells slots (lw_Z below #[Value.ref b] s) (F0 m 476 ls []) := by
  obtain ⟨hx, hb, hr, hml, hown, hts0, hX, hbl, hlocks, hgv⟩ := id C0
  have hbA : ¬ hA g b := by show ¬ gB g ≤ b; rw [hgB]; exact Nat.not_le.mpr hbl
  obtain ⟨N, Z, kp, pf, bs, h, nm, ms, sc, sa, fo, br, kf, nw, fm, fs, fa, ff, rv, ad, S, V, hC, hw, hd, hpt⟩ := id hB
  refine lv_aload_n hx hb dL_law_476 rfl (lv_at hl 2 rfl) ?_
  refine lv_aload_n hx hb dL_law_477 rfl (lv_at hl 3 rfl) ?_
  refine lv_iload_n hx hb dL_law_478 rfl (lv_at hl 0 rfl) ?_
  refine lv_iconst (v := 1) hx hb dL_law_479 (by decide) ?_
  refine lv_iadd hx hb dL_law_480 ?_
  refine hs_ld hx hb hX hbl hbA hS (4 * i + 1) (add_n rfl rfl) (by omega) hL dL_law_481 ?_
  refine hp_ci (hp_runV (C := RX3) (T := TX3) (N := 6) (np := 1) (k := 1) (mc := 0) (ms := 0) (As := [.int (xs (4 * i + 1))]) (rest := []) EE hm hS (c_X3_cut l g M N Z x kp pf bs h nm ms sc sa fo br kf nw fm fs fa ff rv σ hC (xs (4 * i + 1))) ms_X3_cut wi_X3_cut ws_X3_cut wl_L_70 hC.2.2.1 rfl rfl hl.1 rfl (Nat.le_of_ble_eq_true rfl) dL_law_482 ⟨Nat.le_of_ble_eq_true rfl, Nat.le_of_ble_eq_true rfl⟩ ⟨(by show cells + 0 ≤ 600000; omega), (by show slots + 0 ≤ 7302250; omega)⟩) hS (fun r1 Mx2 H locs hq3 hm hS => ?_)
  obtain ⟨rfl, hP1⟩ := hq3
  obtain ⟨c1, hB1, hc1⟩ := cstep hw hd hpt hP1
  obtain ⟨N, Z, kp, pf, bs, h, nm, ms, sc, sa, fo, br, kf1, nw1, fm, fs, fa, ff, rv, ad, S, V, hC, hw, hd, hpt⟩ := hB1
  refine lv_aload_n hx hb dL_law_485 rfl (lv_at hl 1 rfl) ?_
  refine lv_aload_n hx hb dL_law_486 rfl (lv_at hl 3 rfl) ?_
  refine lv_iload_n hx hb dL_law_487 rfl (lv_at hl 0 rfl) ?_
  refine lv_iconst (v := 1) hx hb dL_law_488 (by decide) ?_
  refine lv_iadd hx hb dL_law_489 ?_
  refine hs_ld hx hb hX hbl hbA hS (4 * i + 1) (add_n rfl rfl) (by omega) hL dL_law_490 ?_
  refine hp_ci (hp_runV (C := RX4) (T := TX4) (N := 24) (np := 1) (k := 1) (mc := 0) (ms := 0) (As := [.int (xs (4 * i + 1))]) (rest := [.int ((sCut σ (xs (4 * i + 1))).1)]) EE hm hS (c_X4_cut l g Mx2 y ad S V σ hw (xs (4 * i + 1))) ms_X4_cut wi_X4_cut ws_X4_cut wl_L_73 hw.1.1 rfl rfl hl.1 rfl (Nat.le_of_ble_eq_true rfl) dL_law_491 ⟨Nat.le_of_ble_eq_true rfl, Nat.le_of_ble_eq_true rfl⟩ ⟨(by show cells + 0 ≤ 600000; omega), (by show slots + 0 ≤ 7302250; omega)⟩) hS (fun r4 Mx5 H locs hq6 hm hS => ?_)
  obtain ⟨rfl, hP2⟩ := hq6
  have hB2 := rstep hC hd hpt hP2
  refine lv_icmp_eq (tgt := 578) hx hb dL_law_494 (by decide) (fun c_494 => ?_) (fun c_494 => ?_)
  · exact nxt Mx5 _ c1 _ _ H locs ls hB2 (by omega) (by omega) hm hS hl
  · exact absurd rfl c_494
set_option maxHeartbeats 4000000 in
set_option maxRecDepth 100000 in
theorem law_verify {p : Program} {e : Env} {s : State} {m : MethodId} {below : List Frame} {meth : Method} {c : Code} (l : Launch) {b L : Nat} {xs : Nat → Int32} (hL : L ≤ 2048) (C0 : lw_At p s m meth c b L xs) (g : hG) (EE : hE p c cL_law 4 s #[Value.ref b] m RL g) (hgB : gB g = s.heap.size) (x y : Nat) (i cells slots k : Nat) (M : hM) (σ : cSt) (H : Heap) (locs : List Loc) (ls : Array Slot) (hi4 : 4 * i + 4 ≤ L) (hB : BW g M x y σ σ k) (hce : cells + k ≤ 50 + 34 * i) (hsl : slots + 8 * k ≤ 41500 + 238 * i) (hm : hp g M H) (hS : va_S (hA g) s.heap H locs) (hl : lv_has ls 4 [(3, .int (nI (4 * i))), (2, .ref y), (1, .ref x), (0, .ref b)]) (nxt : ∀ (M1 : hM) (σ1 : cSt) (c1 cells1 slots1 : Nat) (H : Heap) (locs : List Loc) (ls : Array Slot), BW g M1 x y σ1 σ1 c1 → cells1 + c1 ≤ 50 + 34 * (i + 1) → slots1 + 8 * c1 ≤ 41500 + 238 * (i + 1) → hp g M1 H → va_S (hA g) s.heap H locs → lv_has ls 4 [(3, .int (nI (4 * i))), (2, .ref y), (1, .ref x), (0, .ref b)] → W p l e room_1 s m #[Value.ref b] below meth c H locs cells1 slots1 (lw_Z below #[Value.ref b] s) (F0 m 578 ls [])) : W p l e room_1 s m #[Value.ref b] below meth c H locs cells slots (lw_Z below #[Value.ref b] s) (F0 m 499 ls []) := by
  obtain ⟨hx, hb, hr, hml, hown, hts0, hX, hbl, hlocks, hgv⟩ := id C0
  have hbA : ¬ hA g b := by show ¬ gB g ≤ b; rw [hgB]; exact Nat.not_le.mpr hbl
  obtain ⟨N, Z, kp, pf, bs, h, nm, ms, sc, sa, fo, br, kf, nw, fm, fs, fa, ff, rv, ad, S, V, hC, hw, hd, hpt⟩ := id hB
  refine lv_aload_n hx hb dL_law_499 rfl (lv_at hl 2 rfl) ?_
  refine lv_aload_n hx hb dL_law_500 rfl (lv_at hl 3 rfl) ?_
  refine lv_iload_n hx hb dL_law_501 rfl (lv_at hl 0 rfl) ?_
  refine lv_iconst (v := 1) hx hb dL_law_502 (by decide) ?_
  refine lv_iadd hx hb dL_law_503 ?_
  refine hs_ld hx hb hX hbl hbA hS (4 * i + 1) (add_n rfl rfl) (by omega) hL dL_law_504 ?_
  refine lv_aload_n hx hb dL_law_505 rfl (lv_at hl 3 rfl) ?_
  refine lv_iload_n hx hb dL_law_506 rfl (lv_at hl 0 rfl) ?_
  refine lv_iconst (v := 2) hx hb dL_law_507 (by decide) ?_
  refine lv_iadd hx hb dL_law_508 ?_
  refine hs_ld hx hb hX hbl hbA hS (4 * i + 2) (add_n rfl rfl) (by omega) hL dL_law_509 ?_
  have hul := uVer_le hC (xs (4 * i + 1)) (xs (4 * i + 2))
  refine hp_ci (hp_runV (C := RX3) (T := TX3) (N := 6) (np := 2) (k := 22) (mc := uVer M kf nw σ (xs (4 * i + 1)) (xs (4 * i + 2))) (ms := 8 * (uVer M kf nw σ (xs (4 * i + 1)) (xs (4 * i + 2)))) (As := [.int (xs (4 * i + 1)), .int (xs (4 * i + 2))]) (rest := []) EE hm hS (c_X3_verify l g M N Z x kp pf bs h nm ms sc sa fo br kf nw fm fs fa ff rv σ hC (xs (4 * i + 1)) (xs (4 * i + 2))) ms_X3_verify wi_X3_verify ws_X3_verify wl_L_74 hC.2.2.1 rfl rfl hl.1 rfl (Nat.le_of_ble_eq_true rfl) dL_law_510 ⟨Nat.le_of_ble_eq_true rfl, Nat.le_of_ble_eq_true rfl⟩ ⟨(by show cells + uVer M kf nw σ (xs (4 * i + 1)) (xs (4 * i + 2)) ≤ 600000; omega), (by show slots + 8 * (uVer M kf nw σ (xs (4 * i + 1)) (xs (4 * i + 2))) ≤ 7302250; omega)⟩) hS (fun r1 Mx2 H locs hq3 hm hS => ?_)
  obtain ⟨rfl, hP1⟩ := hq3
  obtain ⟨c1, hB1, hc1⟩ := cstep hw hd hpt hP1
  obtain ⟨N, Z, kp, pf, bs, h, nm, ms, sc, sa, fo, br, kf1, nw1, fm, fs, fa, ff, rv, ad, S, V, hC, hw, hd, hpt⟩ := hB1
  refine lv_aload_n hx hb dL_law_513 rfl (lv_at hl 1 rfl) ?_
  refine lv_aload_n hx hb dL_law_514 rfl (lv_at hl 3 rfl) ?_
  refine lv_iload_n hx hb dL_law_515 rfl (lv_at hl 0 rfl) ?_
  refine lv_iconst (v := 1) hx hb dL_law_516 (by decide) ?_
  refine lv_iadd hx hb dL_law_517 ?_
  refine hs_ld hx hb hX hbl hbA hS (4 * i + 1) (add_n rfl rfl) (by omega) hL dL_law_518 ?_
  refine lv_aload_n hx hb dL_law_519 rfl (lv_at hl 3 rfl) ?_
  refine lv_iload_n hx hb dL_law_520 rfl (lv_at hl 0 rfl) ?_
  refine lv_iconst (v := 2) hx hb dL_law_521 (by decide) ?_
  refine lv_iadd hx hb dL_law_522 ?_
  refine hs_ld hx hb hX hbl hbA hS (4 * i + 2) (add_n rfl rfl) (by omega) hL dL_law_523 ?_
  refine hp_ci (hp_runV (C := RX4) (T := TX4) (N := 24) (np := 2) (k := 8) (mc := 0) (ms := 0) (As := [.int (xs (4 * i + 1)), .int (xs (4 * i + 2))]) (rest := [.int (rVer σ (xs (4 * i + 1)) (xs (4 * i + 2)))]) EE hm hS (c_X4_verify l g Mx2 y ad S V σ hw (xs (4 * i + 1)) (xs (4 * i + 2))) ms_X4_verify wi_X4_verify ws_X4_verify wl_L_77 hw.1.1 rfl rfl hl.1 rfl (Nat.le_of_ble_eq_true rfl) dL_law_524 ⟨Nat.le_of_ble_eq_true rfl, Nat.le_of_ble_eq_true rfl⟩ ⟨(by show cells + (uVer M kf nw σ (xs (4 * i + 1)) (xs (4 * i + 2))) + 0 ≤ 600000; omega), (by show slots + (8 * (uVer M kf nw σ (xs (4 * i + 1)) (xs (4 * i + 2)))) + 0 ≤ 7302250; omega)⟩) hS (fun r4 Mx5 H locs hq6 hm hS => ?_)
  obtain ⟨rfl, hP2⟩ := hq6
  have hB2 := rstep hC hd hpt hP2
  refine lv_icmp_eq (tgt := 578) hx hb dL_law_527 (by decide) (fun c_527 => ?_) (fun c_527 => ?_)
  · exact nxt Mx5 _ c1 _ _ H locs ls hB2 (by omega) (by omega) hm hS hl
  · exact absurd rfl c_527
set_option maxHeartbeats 4000000 in
set_option maxRecDepth 100000 in
theorem law_alike {p : Program} {e : Env} {s : State} {m : MethodId} {below : List Frame} {meth : Method} {c : Code} (l : Launch) {b L : Nat} {xs : Nat → Int32} (hL : L ≤ 2048) (C0 : lw_At p s m meth c b L xs) (g : hG) (EE : hE p c cL_law 4 s #[Value.ref b] m RL g) (hgB : gB g = s.heap.size) (x y : Nat) (i cells slots k : Nat) (M : hM) (σ : cSt) (H : Heap) (locs : List Loc) (ls : Array Slot) (hi4 : 4 * i + 4 ≤ L) (hB : BW g M x y σ σ k) (hce : cells + k ≤ 50 + 34 * i) (hsl : slots + 8 * k ≤ 41500 + 238 * i) (hm : hp g M H) (hS : va_S (hA g) s.heap H locs) (hl : lv_has ls 4 [(3, .int (nI (4 * i))), (2, .ref y), (1, .ref x), (0, .ref b)]) (nxt : ∀ (M1 : hM) (σ1 : cSt) (c1 cells1 slots1 : Nat) (H : Heap) (locs : List Loc) (ls : Array Slot), BW g M1 x y σ1 σ1 c1 → cells1 + c1 ≤ 50 + 34 * (i + 1) → slots1 + 8 * c1 ≤ 41500 + 238 * (i + 1) → hp g M1 H → va_S (hA g) s.heap H locs → lv_has ls 4 [(3, .int (nI (4 * i))), (2, .ref y), (1, .ref x), (0, .ref b)] → W p l e room_1 s m #[Value.ref b] below meth c H locs cells1 slots1 (lw_Z below #[Value.ref b] s) (F0 m 578 ls [])) : W p l e room_1 s m #[Value.ref b] below meth c H locs cells slots (lw_Z below #[Value.ref b] s) (F0 m 532 ls []) := by
  obtain ⟨hx, hb, hr, hml, hown, hts0, hX, hbl, hlocks, hgv⟩ := id C0
  have hbA : ¬ hA g b := by show ¬ gB g ≤ b; rw [hgB]; exact Nat.not_le.mpr hbl
  obtain ⟨N, Z, kp, pf, bs, h, nm, ms, sc, sa, fo, br, kf, nw, fm, fs, fa, ff, rv, ad, S, V, hC, hw, hd, hpt⟩ := id hB
  refine lv_aload_n hx hb dL_law_532 rfl (lv_at hl 2 rfl) ?_
  refine lv_aload_n hx hb dL_law_533 rfl (lv_at hl 3 rfl) ?_
  refine lv_iload_n hx hb dL_law_534 rfl (lv_at hl 0 rfl) ?_
  refine lv_iconst (v := 1) hx hb dL_law_535 (by decide) ?_
  refine lv_iadd hx hb dL_law_536 ?_
  refine hs_ld hx hb hX hbl hbA hS (4 * i + 1) (add_n rfl rfl) (by omega) hL dL_law_537 ?_
  refine lv_aload_n hx hb dL_law_538 rfl (lv_at hl 3 rfl) ?_
  refine lv_iload_n hx hb dL_law_539 rfl (lv_at hl 0 rfl) ?_
  refine lv_iconst (v := 2) hx hb dL_law_540 (by decide) ?_
  refine lv_iadd hx hb dL_law_541 ?_
  refine hs_ld hx hb hX hbl hbA hS (4 * i + 2) (add_n rfl rfl) (by omega) hL dL_law_542 ?_
  refine hp_ci (hp_runV (C := RX3) (T := TX3) (N := 6) (np := 2) (k := 3) (mc := 0) (ms := 0) (As := [.int (xs (4 * i + 1)), .int (xs (4 * i + 2))]) (rest := []) EE hm hS (c_X3_alike l g M x (xs (4 * i + 1)) (xs (4 * i + 2))) ms_X3_alike wi_X3_alike ws_X3_alike wl_L_78 hC.2.2.1 rfl rfl hl.1 rfl (Nat.le_of_ble_eq_true rfl) dL_law_543 ⟨Nat.le_of_ble_eq_true rfl, Nat.le_of_ble_eq_true rfl⟩ ⟨(by show cells + 0 ≤ 600000; omega), (by show slots + 0 ≤ 7302250; omega)⟩) hS (fun r1 Mx2 H locs hq3 hm hS => ?_)
  obtain ⟨rfl, h9⟩ := hq3
  rw [h9] at hm
  refine lv_aload_n hx hb dL_law_546 rfl (lv_at hl 1 rfl) ?_
  refine lv_aload_n hx hb dL_law_547 rfl (lv_at hl 3 rfl) ?_
  refine lv_iload_n hx hb dL_law_548 rfl (lv_at hl 0 rfl) ?_
  refine lv_iconst (v := 1) hx hb dL_law_549 (by decide) ?_
  refine lv_iadd hx hb dL_law_550 ?_
  refine hs_ld hx hb hX hbl hbA hS (4 * i + 1) (add_n rfl rfl) (by omega) hL dL_law_551 ?_
  refine lv_aload_n hx hb dL_law_552 rfl (lv_at hl 3 rfl) ?_
  refine lv_iload_n hx hb dL_law_553 rfl (lv_at hl 0 rfl) ?_
  refine lv_iconst (v := 2) hx hb dL_law_554 (by decide) ?_
  refine lv_iadd hx hb dL_law_555 ?_
  refine hs_ld hx hb hX hbl hbA hS (4 * i + 2) (add_n rfl rfl) (by omega) hL dL_law_556 ?_
  refine hp_ci (hp_runV (C := RX4) (T := TX4) (N := 24) (np := 2) (k := 3) (mc := 0) (ms := 0) (As := [.int (xs (4 * i + 1)), .int (xs (4 * i + 2))]) (rest := [.int (rAlike (xs (4 * i + 1)) (xs (4 * i + 2)))]) EE hm hS (c_X4_alike l g M y (xs (4 * i + 1)) (xs (4 * i + 2))) ms_X4_alike wi_X4_alike ws_X4_alike wl_L_81 hw.1.1 rfl rfl hl.1 rfl (Nat.le_of_ble_eq_true rfl) dL_law_557 ⟨Nat.le_of_ble_eq_true rfl, Nat.le_of_ble_eq_true rfl⟩ ⟨(by show cells + 0 ≤ 600000; omega), (by show slots + 0 ≤ 7302250; omega)⟩) hS (fun r4 Mx5 H locs hq6 hm hS => ?_)
  obtain ⟨rfl, h9⟩ := hq6
  rw [h9] at hm
  refine lv_icmp_eq (tgt := 578) hx hb dL_law_560 (by decide) (fun c_560 => ?_) (fun c_560 => ?_)
  · exact nxt M σ k _ _ H locs ls hB (by omega) (by omega) hm hS hl
  · exact absurd rfl c_560
set_option maxHeartbeats 4000000 in
set_option maxRecDepth 100000 in
theorem law_versions {p : Program} {e : Env} {s : State} {m : MethodId} {below : List Frame} {meth : Method} {c : Code} (l : Launch) {b L : Nat} {xs : Nat → Int32} (hL : L ≤ 2048) (C0 : lw_At p s m meth c b L xs) (g : hG) (EE : hE p c cL_law 4 s #[Value.ref b] m RL g) (hgB : gB g = s.heap.size) (x y : Nat) (i cells slots k : Nat) (M : hM) (σ : cSt) (H : Heap) (locs : List Loc) (ls : Array Slot) (hi4 : 4 * i + 4 ≤ L) (hB : BW g M x y σ σ k) (hce : cells + k ≤ 50 + 34 * i) (hsl : slots + 8 * k ≤ 41500 + 238 * i) (hm : hp g M H) (hS : va_S (hA g) s.heap H locs) (hl : lv_has ls 4 [(3, .int (nI (4 * i))), (2, .ref y), (1, .ref x), (0, .ref b)]) (nxt : ∀ (M1 : hM) (σ1 : cSt) (c1 cells1 slots1 : Nat) (H : Heap) (locs : List Loc) (ls : Array Slot), BW g M1 x y σ1 σ1 c1 → cells1 + c1 ≤ 50 + 34 * (i + 1) → slots1 + 8 * c1 ≤ 41500 + 238 * (i + 1) → hp g M1 H → va_S (hA g) s.heap H locs → lv_has ls 4 [(3, .int (nI (4 * i))), (2, .ref y), (1, .ref x), (0, .ref b)] → W p l e room_1 s m #[Value.ref b] below meth c H locs cells1 slots1 (lw_Z below #[Value.ref b] s) (F0 m 578 ls [])) : W p l e room_1 s m #[Value.ref b] below meth c H locs cells slots (lw_Z below #[Value.ref b] s) (F0 m 565 ls []) := by
  obtain ⟨hx, hb, hr, hml, hown, hts0, hX, hbl, hlocks, hgv⟩ := id C0
  have hbA : ¬ hA g b := by show ¬ gB g ≤ b; rw [hgB]; exact Nat.not_le.mpr hbl
  obtain ⟨N, Z, kp, pf, bs, h, nm, ms, sc, sa, fo, br, kf, nw, fm, fs, fa, ff, rv, ad, S, V, hC, hw, hd, hpt⟩ := id hB
  refine lv_aload_n hx hb dL_law_565 rfl (lv_at hl 2 rfl) ?_
  refine hp_ci (hp_runV (C := RX3) (T := TX3) (N := 6) (np := 0) (k := 1) (mc := 0) (ms := 0) (As := ([] : List Value)) (rest := []) EE hm hS (c_X3_versions l g M N Z x kp pf bs h nm ms sc sa fo br kf nw fm fs fa ff rv σ hC ) ms_X3_versions wi_X3_versions ws_X3_versions wl_L_82 hC.2.2.1 rfl rfl hl.1 rfl (Nat.le_of_ble_eq_true rfl) dL_law_566 ⟨Nat.le_of_ble_eq_true rfl, Nat.le_of_ble_eq_true rfl⟩ ⟨(by show cells + 0 ≤ 600000; omega), (by show slots + 0 ≤ 7302250; omega)⟩) hS (fun r1 Mx2 H locs hq3 hm hS => ?_)
  obtain ⟨rfl, h9⟩ := hq3
  rw [h9] at hm
  refine lv_aload_n hx hb dL_law_569 rfl (lv_at hl 1 rfl) ?_
  refine hp_ci (hp_runV (C := RX4) (T := TX4) (N := 24) (np := 0) (k := 1) (mc := 0) (ms := 0) (As := ([] : List Value)) (rest := [.int (nI (sKc σ))]) EE hm hS (c_X4_versions l g M y ad S V σ hw ) ms_X4_versions wi_X4_versions ws_X4_versions wl_L_85 hw.1.1 rfl rfl hl.1 rfl (Nat.le_of_ble_eq_true rfl) dL_law_570 ⟨Nat.le_of_ble_eq_true rfl, Nat.le_of_ble_eq_true rfl⟩ ⟨(by show cells + 0 ≤ 600000; omega), (by show slots + 0 ≤ 7302250; omega)⟩) hS (fun r4 Mx5 H locs hq6 hm hS => ?_)
  obtain ⟨rfl, h9⟩ := hq6
  rw [h9] at hm
  refine lv_icmp_eq (tgt := 578) hx hb dL_law_573 (by decide) (fun c_573 => ?_) (fun c_573 => ?_)
  · exact nxt M σ k _ _ H locs ls hB (by omega) (by omega) hm hS hl
  · exact absurd rfl c_573
set_option maxHeartbeats 4000000 in
set_option maxRecDepth 100000 in
theorem law_loop {p : Program} {e : Env} {s : State} {m : MethodId} {below : List Frame} {meth : Method} {c : Code} (l : Launch) {b L : Nat} {xs : Nat → Int32} (hL : L ≤ 2048) (C0 : lw_At p s m meth c b L xs) (g : hG) (EE : hE p c cL_law 4 s #[Value.ref b] m RL g) (hgB : gB g = s.heap.size) (x y : Nat) : ∀ (n i cells slots k : Nat) (M : hM) (σ : cSt) (H : Heap) (locs : List Loc) (ls : Array Slot), L + 4 ≤ 4 * (i + n) → 4 * i ≤ L → BW g M x y σ σ k → cells + k ≤ 50 + 34 * i → slots + 8 * k ≤ 41500 + 238 * i → hp g M H → va_S (hA g) s.heap H locs → lv_has ls 4 [(3, .int (nI (4 * i))), (2, .ref y), (1, .ref x), (0, .ref b)] → W p l e room_1 s m #[Value.ref b] below meth c H locs cells slots (lw_Z below #[Value.ref b] s) (F0 m 18 ls []) := by
  obtain ⟨hx, hb, hr, hml, hown, hts0, hX, hbl, hlocks, hgv⟩ := id C0
  have hbA : ¬ hA g b := by show ¬ gB g ≤ b; rw [hgB]; exact Nat.not_le.mpr hbl
  intro n
  induction n with
  | zero => intro i cells slots k M σ H locs ls hn hi; exact absurd hn (by omega)
  | succ n ih =>
    intro i cells slots k M σ H locs ls hn hi hB hce hsl hm hS hl
    refine lv_iload_n hx hb dL_law_18 rfl (lv_at hl 0 rfl) ?_
    refine lv_aload_n hx hb dL_law_19 rfl (lv_at hl 3 rfl) ?_
    refine va_slen hx hb hX hbl hbA hS dL_law_20 ?_
    refine lv_iconst (v := 4) hx hb dL_law_21 (by decide) ?_
    refine lv_isub hx hb dL_law_22 ?_
    refine lv_icmp_gt (tgt := 584) hx hb dL_law_23 (by decide) (fun c_23 => ?_) (fun c_23 => ?_)
    · refine lv_iconst (v := 1) hx hb dL_law_584 (by decide) ?_
      exact va_forget (fun q hq => by have := hS.2.2 q hq; have : gB g ≤ q.base := this; omega) (W.widen (by omega) (by omega) (lw_ret hx hb hr hlocks dL_law_585))
    · have hi4 : 4 * i + 4 ≤ L := by
        rcases Nat.lt_or_ge L (4 * i + 4) with q | q
        · exact absurd ((law_cmp hL hi).mpr q) c_23
        · exact q
      have nxt : ∀ (M1 : hM) (σ1 : cSt) (c1 cells1 slots1 : Nat) (H : Heap) (locs : List Loc) (ls : Array Slot), BW g M1 x y σ1 σ1 c1 → cells1 + c1 ≤ 50 + 34 * (i + 1) → slots1 + 8 * c1 ≤ 41500 + 238 * (i + 1) → hp g M1 H → va_S (hA g) s.heap H locs → lv_has ls 4 [(3, .int (nI (4 * i))), (2, .ref y), (1, .ref x), (0, .ref b)] → W p l e room_1 s m #[Value.ref b] below meth c H locs cells1 slots1 (lw_Z below #[Value.ref b] s) (F0 m 578 ls []) := by
        intro M1 σ1 c1 cells1 slots1 H locs ls hB hce hsl hm hS hl
        refine lv_iinc (v := nI (4 * (i + 1))) (lv' := [(3, .int (nI (4 * (i + 1)))), (2, .ref y), (1, .ref x), (0, .ref b)]) hx hb dL_law_578 hl (k := 0) rfl (add_n (b := 4) rfl rfl) (by decide) rfl (fun ls hl => ?_)
        refine lv_goto (tgt := 18) hx hb dL_law_581 (by decide) ?_
        exact ih (i + 1) cells1 slots1 c1 M1 σ1 H locs ls (by omega) (by omega) hB hce hsl hm hS hl
      refine lv_aload_n hx hb dL_law_26 rfl (lv_at hl 3 rfl) ?_
      refine lv_iload_n hx hb dL_law_27 rfl (lv_at hl 0 rfl) ?_
      refine hs_ld hx hb hX hbl hbA hS (4 * i) rfl (by omega) hL dL_law_28 ?_
      refine lv_bipush (v := 31) hx hb dL_law_29 (by decide) ?_
      refine lv_iand hx hb dL_law_31 ?_
      obtain ⟨j, hj, hje⟩ := pk_andE (xs (4 * i)) (m := 31) 5 (by decide)
      rw [hje]
      rcases (show j = 0 ∨ j = 1 ∨ j = 2 ∨ j = 3 ∨ j = 4 ∨ j = 5 ∨ j = 6 ∨ j = 7 ∨ j = 8 ∨ j = 9 ∨ j = 10 ∨ j = 11 ∨ j = 12 ∨ j = 13 ∨ j = 14 ∨ j = 15 ∨ j = 16 ∨ 17 ≤ j by omega) with rfl | rfl | rfl | rfl | rfl | rfl | rfl | rfl | rfl | rfl | rfl | rfl | rfl | rfl | rfl | rfl | rfl | hj17
      · refine lv_tableIn (off := 84) (tgt := 116) hx hb dL_law_32 (by decide) (by decide) (by decide) (by decide) ?_
        exact law_put l hL C0 g EE hgB x y i cells slots k M σ H locs ls hi4 hB hce hsl hm hS hl nxt
      · refine lv_tableIn (off := 117) (tgt := 149) hx hb dL_law_32 (by decide) (by decide) (by decide) (by decide) ?_
        exact law_remove l hL C0 g EE hgB x y i cells slots k M σ H locs ls hi4 hB hce hsl hm hS hl nxt
      · refine lv_tableIn (off := 140) (tgt := 172) hx hb dL_law_32 (by decide) (by decide) (by decide) (by decide) ?_
        exact law_get l hL C0 g EE hgB x y i cells slots k M σ H locs ls hi4 hB hce hsl hm hS hl nxt
      · refine lv_tableIn (off := 174) (tgt := 206) hx hb dL_law_32 (by decide) (by decide) (by decide) (by decide) ?_
        exact law_size l hL C0 g EE hgB x y i cells slots k M σ H locs ls hi4 hB hce hsl hm hS hl nxt
      · refine lv_tableIn (off := 197) (tgt := 229) hx hb dL_law_32 (by decide) (by decide) (by decide) (by decide) ?_
        exact law_commit l hL C0 g EE hgB x y i cells slots k M σ H locs ls hi4 hB hce hsl hm hS hl nxt
      · refine lv_tableIn (off := 210) (tgt := 242) hx hb dL_law_32 (by decide) (by decide) (by decide) (by decide) ?_
        exact law_back l hL C0 g EE hgB x y i cells slots k M σ H locs ls hi4 hB hce hsl hm hS hl nxt
      · refine lv_tableIn (off := 233) (tgt := 265) hx hb dL_law_32 (by decide) (by decide) (by decide) (by decide) ?_
        exact law_word l hL C0 g EE hgB x y i cells slots k M σ H locs ls hi4 hB hce hsl hm hS hl nxt
      · refine lv_tableIn (off := 266) (tgt := 298) hx hb dL_law_32 (by decide) (by decide) (by decide) (by decide) ?_
        exact law_prove l hL C0 g EE hgB x y i cells slots k M σ H locs ls hi4 hB hce hsl hm hS hl nxt
      · refine lv_tableIn (off := 299) (tgt := 331) hx hb dL_law_32 (by decide) (by decide) (by decide) (by decide) ?_
        exact law_siblings l hL C0 g EE hgB x y i cells slots k M σ H locs ls hi4 hB hce hsl hm hS hl nxt
      · refine lv_tableIn (off := 312) (tgt := 344) hx hb dL_law_32 (by decide) (by decide) (by decide) (by decide) ?_
        exact law_sibling l hL C0 g EE hgB x y i cells slots k M σ H locs ls hi4 hB hce hsl hm hS hl nxt
      · refine lv_tableIn (off := 345) (tgt := 377) hx hb dL_law_32 (by decide) (by decide) (by decide) (by decide) ?_
        exact law_end l hL C0 g EE hgB x y i cells slots k M σ H locs ls hi4 hB hce hsl hm hS hl nxt
      · refine lv_tableIn (off := 368) (tgt := 400) hx hb dL_law_32 (by decide) (by decide) (by decide) (by decide) ?_
        exact law_alter l hL C0 g EE hgB x y i cells slots k M σ H locs ls hi4 hB hce hsl hm hS hl nxt
      · refine lv_tableIn (off := 411) (tgt := 443) hx hb dL_law_32 (by decide) (by decide) (by decide) (by decide) ?_
        exact law_claim l hL C0 g EE hgB x y i cells slots k M σ H locs ls hi4 hB hce hsl hm hS hl nxt
      · refine lv_tableIn (off := 444) (tgt := 476) hx hb dL_law_32 (by decide) (by decide) (by decide) (by decide) ?_
        exact law_cut l hL C0 g EE hgB x y i cells slots k M σ H locs ls hi4 hB hce hsl hm hS hl nxt
      · refine lv_tableIn (off := 467) (tgt := 499) hx hb dL_law_32 (by decide) (by decide) (by decide) (by decide) ?_
        exact law_verify l hL C0 g EE hgB x y i cells slots k M σ H locs ls hi4 hB hce hsl hm hS hl nxt
      · refine lv_tableIn (off := 500) (tgt := 532) hx hb dL_law_32 (by decide) (by decide) (by decide) (by decide) ?_
        exact law_alike l hL C0 g EE hgB x y i cells slots k M σ H locs ls hi4 hB hce hsl hm hS hl nxt
      · refine lv_tableIn (off := 533) (tgt := 565) hx hb dL_law_32 (by decide) (by decide) (by decide) (by decide) ?_
        exact law_versions l hL C0 g EE hgB x y i cells slots k M σ H locs ls hi4 hB hce hsl hm hS hl nxt
      · refine lv_tableOut (tgt := 578) hx hb dL_law_32 (Or.inr (sw_out j (by omega) hj17)) (by decide) ?_
        exact nxt M σ k cells slots H locs ls hB (by omega) (by omega) hm hS hl
