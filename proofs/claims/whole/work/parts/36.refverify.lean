theorem alk_le : ∀ n a b, alk n a b ≤ n
  | 0, _, _ => Nat.le_refl 0
  | n + 1, a, b => by
    show (if a.testBit n = b.testBit n then alk n a b + 1 else 0) ≤ n + 1
    have := alk_le n a b
    by_cases h : a.testBit n = b.testBit n
    · rw [if_pos h]; omega
    · rw [if_neg h]; omega
theorem bI_nat (b : Bool) : bI b = nI b.toNat := by cases b <;> rfl
theorem eq8_iff {f f2 : Nat → Int32} {e : Bool} (h : e = true ↔ ∀ j, j < 8 → f j = f2 j) : eq8 f f2 = e := by
  cases e with
  | true => exact eq8_t (h.mp rfl)
  | false =>
    cases hq : eq8 f f2 with
    | false => rfl
    | true =>
      refine absurd (h.mpr (fun j hj => ?_)) (by decide)
      have := List.all_eq_true.mp hq j (List.mem_range.mpr hj)
      simpa using this
set_option maxHeartbeats 4000000 in
set_option maxRecDepth 100000 in
theorem c_X4_verify (l : Launch) (g : hG) (M : hM) (y : Nat) (ad : Nat → Nat) (S : Nat → Nat → Int32) (V : Nat → Int32) (σ : cSt) (hw : RW g M y ad S V σ) (v0 k0 : Int32) : Ci l g yX4_verify cX4_verify 6 .int 8 0 0 [.ref y, .int v0, .int k0] M (fun r M9 => r = rVer σ v0 k0 ∧ RP g M y ad M9 σ) := by
  obtain ⟨hRs, ⟨hkc, hvg, hgn, hpl, hpk⟩, hk0, hk1, hv6, hrows, hnow, hdv, ⟨kw, hv7, hdn⟩, hv19, hv21, hv22, hv23, hsb⟩ := id hw
  refine hp_startI (by decide) (by exact Nat.le_of_ble_eq_true rfl) ?_
  intro p e s m below meth c Q H locs ls EE hnm ret hm hS hl
  have hx := EE.1
  have hb := EE.2.1
  have hown := EE.2.2.2.1
  have hts := EE.2.2.2.2.1
  have hl : lv_has ls 6 [(0, .ref y), (1, .int v0), (2, .int k0)] := hl
  have hF : ∀ q, ¬ rO y ad q → M q = M q := fun _ _ => rfl
  refine lv_aload_n hx hb dX4_verify_0 rfl (lv_at hl 0 rfl) ?_
  refine lv_iload_n hx hb dX4_verify_1 rfl (lv_at hl 1 rfl) ?_
  refine hp_ci (hp_runV (C := RX4) (T := TX4) (N := 24) (np := 1) (k := 1) (mc := 0) (ms := 0) (As := [.int v0]) (rest := []) EE hm hS (c_X4_isVersion l g M y ad S V σ hw v0) ms_X4_isVersion wi_X4_isVersion ws_X4_isVersion wl_X4_193 hRs.1 rfl rfl hl.1 rfl (Nat.le_of_ble_eq_true rfl) dX4_verify_2 ⟨Nat.le_of_ble_eq_true rfl, Nat.le_of_ble_eq_true rfl⟩ ⟨(Nat.le_of_ble_eq_true rfl), (Nat.le_of_ble_eq_true rfl)⟩) hS (fun r1 Mx2 H locs hq3 hm hS => ?_)
  obtain ⟨rfl, h9⟩ := hq3
  rw [h9] at hm
  refine lv_if_eq (tgt := 15) hx hb dX4_verify_5 (by decide) (fun c_5 => ?_) (fun c_5 => ?_)
  · have c_5 := bI_f c_5
    refine lv_iconst (v := (-1)) hx hb dX4_verify_15 (by decide) ?_
    exact ret dX4_verify_16 na_i hm hS (Nat.le_of_ble_eq_true rfl) (Nat.le_of_ble_eq_true rfl) (⟨by unfold rVer; first | (rw [c_5]; rfl) | (rw [c_5, c_12]; rfl), RP.rf hw⟩)
  · have c_5 := bI_t c_5
    refine lv_iload_n hx hb dX4_verify_8 rfl (lv_at hl 2 rfl) ?_
    refine hp_ci (hp_runS (np := 1) (k := 1) (mc := 0) (ms := 0) (As := [.int k0]) (rest := []) EE hm hS (c_X4_isKey l g M k0) ms_X4_isKey wt_X4_isKey wl_X4_182 rfl hl.1 rfl (Nat.le_of_ble_eq_true rfl) dX4_verify_9 ⟨Nat.le_of_ble_eq_true rfl, Nat.le_of_ble_eq_true rfl⟩ ⟨(Nat.le_of_ble_eq_true rfl), (Nat.le_of_ble_eq_true rfl)⟩) hS (fun r4 Mx5 H locs hq6 hm hS => ?_)
    obtain ⟨rfl, h9⟩ := hq6
    rw [h9] at hm
    refine lv_if_ne (tgt := 17) hx hb dX4_verify_12 (by decide) (fun c_12 => ?_) (fun c_12 => ?_)
    · have c_12 := bI_t c_12
      obtain ⟨kn, hkn, hke⟩ := isK_nat c_12
      have hcl : k0.toNatClampNeg = kn := by rw [hke]; exact nI_clamp (by omega)
      have hl : lv_has ls 6 [(0, .ref y), (1, .int v0), (2, .int (nI kn))] := by rw [← hke]; exact hl
      obtain ⟨r0, hr0, hro, hrc⟩ := rowO_nat hkc c_5
      obtain ⟨E, hE⟩ : ∃ E, E = mapV σ v0 := ⟨_, rfl⟩
      rw [← hE] at hrc
      have tl : ∀ (H : Heap) (locs : List Loc) (ls : Array Slot), fitV σ kn = true → hp g M H → va_S (hA g) s.heap H locs → lv_has ls 6 [(0, .ref y), (1, .int v0), (2, .int (nI kn))] → W p l e (hR 8 0 0) s m [.ref y, .int v0, .int k0].toArray below meth c H locs 0 0 Q (F0 m 42 ls []) := by
        intro H locs ls hfit hm hS hl
        refine lv_aload_n hx hb dX4_verify_42 rfl (lv_at hl 0 rfl) ?_
        refine hp_cv (hp_runV (C := RX4) (T := TX4) (N := 24) (np := 0) (k := 7) (mc := 0) (ms := 0) (As := ([] : List Value)) (rest := []) EE hm hS (c_X4_know l g M y ad S V σ hw) ms_X4_know wi_X4_know ws_X4_know wl_X4_202 hRs.1 rfl rfl hl.1 rfl (Nat.le_of_ble_eq_true rfl) dX4_verify_43 ⟨Nat.le_of_ble_eq_true rfl, Nat.le_of_ble_eq_true rfl⟩ ⟨(Nat.le_of_ble_eq_true rfl), (Nat.le_of_ble_eq_true rfl)⟩) hS (fun Mx7 H locs hq8 hm hS => ?_)
        obtain ⟨Sk, Vk, hwk, hFk, h71⟩ := hq8
        obtain ⟨hRs, -, hk0k, hk1k, hv6k, hrowsk, hnowk, hdvk, ⟨kwk, hv7k, hdnk⟩, hv19k, hv21k, hv22k, hv23k, hsbk⟩ := id hwk
        have hdk : ∀ i, i < 8 → Sk 5 (8 * 60 + i) = dgF 16 (sNow σ) i := hdnk (bI_inj (b := true) (hv7k.symm.trans h71))
        have hF : ∀ q, ¬ rO y ad q → Mx7 q = M q := hFk
        refine lv_iconst (v := 0) hx hb dX4_verify_46 (by decide) ?_
        refine lv_istore_n (lv' := [(3, .int 0), (0, .ref y), (1, .int v0), (2, .int (nI kn))]) hx hb dX4_verify_47 rfl hl (by decide) rfl (fun ls hl => ?_)
        have lp0 : ∀ (n u : Nat) (M1 : hM) (S1 : Nat → Nat → Int32)   (H : Heap) (locs : List Loc) (ls : Array Slot), 9 ≤ u + n → u ≤ 8 → (∀ k9, k9 ≠ 10 → S1 k9 = Sk k9) → (∀ j, j < u → S1 10 j = 0) → RS g M1 y ad S1 Vk → (∀ q, ¬ rO y ad q → M1 q = M q) → hp g M1 H → va_S (hA g) s.heap H locs → lv_has ls 6 [(3, .int (nI u)), (0, .ref y), (1, .int v0), (2, .int (nI kn))] → W p l e (hR 8 0 0) s m [.ref y, .int v0, .int k0].toArray below meth c H locs 0 0 Q (F0 m 48 ls []) := by
          intro n
          induction n with
          | zero => intro u M1 S1 H locs ls hn0 hu0 hz0 hzd; exact absurd hn0 (by omega)
          | succ n ih0 =>
            intro u M1 S1 H locs ls hn0 hu0 hz0 hzd hRs hF hm hS hl
            refine lv_iload_n hx hb dX4_verify_48 rfl (lv_at hl 0 rfl) ?_
            refine lv_bipush (v := 8) hx hb dX4_verify_49 (by decide) ?_
            refine lv_icmp_ge (tgt := 67) hx hb dX4_verify_51 (by decide) (fun c_51 => ?_) (fun c_51 => ?_)
            · have c_51 : 8 ≤ u := (leN (a := 8) (b := u) rfl rfl (by decide) (by omega)).mp c_51
              refine lv_aload_n hx hb dX4_verify_67 rfl (lv_at hl 1 rfl) ?_
              refine hr_get EE hm hRs 21 (by decide) wf_X4_211 (v := .int (Vk 21)) rfl dX4_verify_68 ?_
              rw [hv21k]
              refine lv_if_eq (tgt := 86) hx hb dX4_verify_71 (by decide) (fun c_71 => ?_) (fun c_71 => ?_)
              · have c_71 := bI_f c_71
                have hO : ∀ k9, k9 ≠ 8 → k9 ≠ 9 → k9 ≠ 10 → S1 k9 = Sk k9 := fun k9 _ _ h9 => hz0 k9 h9
                have hEd : ∀ j, j < 8 → S1 10 j = endD σ j := fun j hj => by unfold endD; rw [c_71]; exact hzd j (by omega)
                refine lv_aload_n hx hb dX4_verify_86 rfl (lv_at hl 1 rfl) ?_
                refine hr_get EE hm hRs 19 (by decide) wf_X4_208 (v := .int (Vk 19)) rfl dX4_verify_87 ?_
                rw [hv19k]
                refine lv_iconst (v := 1) hx hb dX4_verify_90 (by decide) ?_
                refine lv_isub hx hb dX4_verify_91 ?_
                refine lv_istore_n (lv' := [(3, .int ((nI (sPl σ)) - 1)), (0, .ref y), (1, .int v0), (2, .int (nI kn))]) hx hb dX4_verify_92 rfl hl (by decide) rfl (fun ls hl => ?_)
                have lp : ∀ (n t : Nat) (M3 : hM) (S3 : Nat → Nat → Int32)   (H : Heap) (locs : List Loc) (ls : Array Slot), t + 1 ≤ n → t ≤ sPl σ → (∀ k9, k9 ≠ 8 → k9 ≠ 9 → k9 ≠ 10 → S3 k9 = Sk k9) → (∀ j, j < 8 → foldS (sSb σ) kn t (S3 10) j = foldS (sSb σ) kn (sPl σ) (endD σ) j) → RS g M3 y ad S3 Vk → (∀ q, ¬ rO y ad q → M3 q = M q) → hp g M3 H → va_S (hA g) s.heap H locs → lv_has ls 6 [(3, .int (nI t - 1)), (0, .ref y), (1, .int v0), (2, .int (nI kn))] → W p l e (hR 8 0 0) s m [.ref y, .int v0, .int k0].toArray below meth c H locs 0 0 Q (F0 m 93 ls []) := by
                  intro n
                  induction n with
                  | zero => intro t M3 S3 H locs ls hn ht hO3 hfo; exact absurd hn (by omega)
                  | succ n ih =>
                    intro t M3 S3 H locs ls hn ht hO3 hfo hRs hF hm hS hl
                    refine lv_iload_n hx hb dX4_verify_93 rfl (lv_at hl 0 rfl) ?_
                    refine lv_if_lt (tgt := 170) hx hb dX4_verify_94 (by decide) (fun c_94 => ?_) (fun c_94 => ?_)
                    · have ht0 : t = 0 := by
                        rcases Nat.eq_zero_or_pos t with q | q
                        · exact q
                        · obtain ⟨t1, rfl⟩ : ∃ t1, t = t1 + 1 := ⟨t - 1, by omega⟩
                          rw [nI_pred] at c_94
                          exact absurd c_94 (nI_pos (by omega))
                      subst ht0
                      have hfo : ∀ j, j < 8 → S3 10 j = foldS (sSb σ) kn (sPl σ) (endD σ) j := hfo
                      refine lv_iconst (v := 1) hx hb dX4_verify_170 (by decide) ?_
                      refine lv_istore_n (lv' := [(3, .int 1), (0, .ref y), (1, .int v0), (2, .int (nI kn))]) hx hb dX4_verify_171 rfl hl (by decide) rfl (fun ls hl => ?_)
                      refine lv_iconst (v := 0) hx hb dX4_verify_172 (by decide) ?_
                      refine lv_istore (lv' := [(4, .int 0), (3, .int 1), (0, .ref y), (1, .int v0), (2, .int (nI kn))]) hx hb dX4_verify_173 hl (by decide) rfl (fun ls hl => ?_)
                      have hdg : ∀ j, j < 8 → S3 5 (8 * r0 + j) = dgF 16 E j := fun j hj => by
                        rw [hO3 5 (by decide) (by decide) (by decide)]
                        rcases hrc with ⟨t1, t2⟩ | ⟨t1, t2⟩
                        · rw [t2, t1]; exact hdk j hj
                        · rw [t2]; exact hdvk r0 t1 j hj
                      have lp5 : ∀ (n u : Nat) (ee : Bool) (H : Heap) (locs : List Loc) (ls : Array Slot), 9 ≤ u + n → u ≤ 8 → (ee = true ↔ ∀ j, j < u → S3 10 j = dgF 16 E j) → hp g M3 H → va_S (hA g) s.heap H locs → lv_has ls 6 [(4, .int (nI u)), (3, .int (bI ee)), (0, .ref y), (1, .int v0), (2, .int (nI kn))] → W p l e (hR 8 0 0) s m [.ref y, .int v0, .int k0].toArray below meth c H locs 0 0 Q (F0 m 175 ls []) := by
                        intro n
                        induction n with
                        | zero => intro u ee H locs ls hn5 hu5 hee; exact absurd hn5 (by omega)
                        | succ n ih5 =>
                          intro u ee H locs ls hn5 hu5 hee hm hS hl
                          refine lv_iload hx hb dX4_verify_175 (lv_at hl 0 rfl) ?_
                          refine lv_bipush (v := 8) hx hb dX4_verify_177 (by decide) ?_
                          refine lv_icmp_ge (tgt := 223) hx hb dX4_verify_179 (by decide) (fun c_179 => ?_) (fun c_179 => ?_)
                          · have c_179 : 8 ≤ u := (leN (a := 8) (b := u) rfl rfl (by decide) (by omega)).mp c_179
                            have heq : eq8 (foldS (sSb σ) kn (sPl σ) (endD σ)) (dgF 16 (mapV σ v0)) = ee := by
                              rw [← hE]
                              exact eq8_iff (hee.trans ⟨fun h9 j hj => by rw [← hfo j hj]; exact h9 j (by omega), fun h9 j hj => by rw [hfo j (by omega)]; exact h9 j (by omega)⟩)
                            have hPP : RP g M y ad M3 σ := ⟨S3, Vk, hwk.re hRs (fun k hk => hO3 k (by omega) (by omega) (by omega)) rfl rfl hv19k hv21k hv22k hv23k hpl hpk (fun i hi j hj => by rw [hO3 20 (by decide) (by decide) (by decide)]; exact hsbk i hi j hj), hF⟩
                            refine lv_iload_n hx hb dX4_verify_223 rfl (lv_at hl 1 rfl) ?_
                            refine lv_if_ne (tgt := 232) hx hb dX4_verify_224 (by decide) (fun c_224 => ?_) (fun c_224 => ?_)
                            · have c_224 := bI_t c_224
                              refine lv_aload_n hx hb dX4_verify_232 rfl (lv_at hl 2 rfl) ?_
                              refine hr_get EE hm hRs 21 (by decide) wf_X4_211 (v := .int (Vk 21)) rfl dX4_verify_233 ?_
                              rw [hv21k]
                              refine lv_if_eq (tgt := 251) hx hb dX4_verify_236 (by decide) (fun c_236 => ?_) (fun c_236 => ?_)
                              · have c_236 := bI_f c_236
                                refine lv_iconst (v := 0) hx hb dX4_verify_251 (by decide) ?_
                                exact ret dX4_verify_252 na_i hm hS (Nat.le_of_ble_eq_true rfl) (Nat.le_of_ble_eq_true rfl) (⟨by unfold rVer; rw [c_5, c_12, hcl, hfit, heq, c_224]; first | rfl | (rw [c_236]; rfl) | (rw [c_236, hke, decide_eq_true c_244]; rfl) | (rw [c_236, hke, decide_eq_false c_244]; rfl), hPP⟩)
                              · have c_236 := bI_t c_236
                                refine lv_aload_n hx hb dX4_verify_239 rfl (lv_at hl 2 rfl) ?_
                                refine hr_get EE hm hRs 22 (by decide) wf_X4_214 (v := .int (Vk 22)) rfl dX4_verify_240 ?_
                                rw [hv22k]
                                refine lv_iload_n hx hb dX4_verify_243 rfl (lv_at hl 4 rfl) ?_
                                refine lv_icmp_ne (tgt := 251) hx hb dX4_verify_244 (by decide) (fun c_244 => ?_) (fun c_244 => ?_)
                                · refine lv_iconst (v := 0) hx hb dX4_verify_251 (by decide) ?_
                                  exact ret dX4_verify_252 na_i hm hS (Nat.le_of_ble_eq_true rfl) (Nat.le_of_ble_eq_true rfl) (⟨by unfold rVer; rw [c_5, c_12, hcl, hfit, heq, c_224]; first | rfl | (rw [c_236]; rfl) | (rw [c_236, hke, decide_eq_true c_244]; rfl) | (rw [c_236, hke, decide_eq_false c_244]; rfl), hPP⟩)
                                · refine lv_iconst (v := 1) hx hb dX4_verify_247 (by decide) ?_
                                  refine lv_goto (tgt := 252) hx hb dX4_verify_248 (by decide) ?_
                                  exact ret dX4_verify_252 na_i hm hS (Nat.le_of_ble_eq_true rfl) (Nat.le_of_ble_eq_true rfl) (⟨by unfold rVer; rw [c_5, c_12, hcl, hfit, heq, c_224]; first | rfl | (rw [c_236]; rfl) | (rw [c_236, hke, decide_eq_true c_244]; rfl) | (rw [c_236, hke, decide_eq_false c_244]; rfl), hPP⟩)
                            · have c_224 := bI_f c_224
                              refine lv_bipush (v := (-2)) hx hb dX4_verify_227 (by decide) ?_
                              refine lv_goto (tgt := 252) hx hb dX4_verify_229 (by decide) ?_
                              exact ret dX4_verify_252 na_i hm hS (Nat.le_of_ble_eq_true rfl) (Nat.le_of_ble_eq_true rfl) (⟨by unfold rVer; rw [c_5, c_12, hcl, hfit, heq, c_224]; first | rfl | (rw [c_236]; rfl) | (rw [c_236, hke, decide_eq_true c_244]; rfl) | (rw [c_236, hke, decide_eq_false c_244]; rfl), hPP⟩)
                          · have c_179 : ¬ 8 ≤ u := fun h9 => c_179 ((leN (a := 8) (b := u) rfl rfl (by decide) (by omega)).mpr h9)
                            refine lv_iload_n hx hb dX4_verify_182 rfl (lv_at hl 1 rfl) ?_
                            refine lv_if_eq (tgt := 215) hx hb dX4_verify_183 (by decide) (fun c_183 => ?_) (fun c_183 => ?_)
                            · have c_183 := bI_f c_183
                              refine lv_iconst (v := 0) hx hb dX4_verify_215 (by decide) ?_
                              refine lv_istore_n (lv' := [(3, .int 0), (4, .int (nI u)), (0, .ref y), (1, .int v0), (2, .int (nI kn))]) hx hb dX4_verify_216 rfl hl (by decide) rfl (fun ls hl => ?_)
                              refine lv_iinc (v := nI (u + 1)) (lv' := [(4, .int (nI (u + 1))), (3, .int 0), (0, .ref y), (1, .int v0), (2, .int (nI kn))]) hx hb dX4_verify_217 hl (k := 1) rfl (inc_n rfl) (by decide) rfl (fun ls hl => ?_)
                              refine lv_goto (tgt := 175) hx hb dX4_verify_220 (by decide) ?_
                              refine ih5 (u + 1) false H locs ls (by omega) (by omega) ?_ hm hS (lv_sub hl [0, 1, 2, 3, 4] rfl)
                              exact ⟨fun h9 => (by cases h9), fun h9 => by rw [hee.mpr (fun j hj => h9 j (by omega))] at c_183; cases c_183⟩
                            · have c_183 := bI_t c_183
                              refine lv_aload_n hx hb dX4_verify_186 rfl (lv_at hl 2 rfl) ?_
                              refine hr_get EE hm hRs 10 (by decide) wf_X4_106 (v := .ref (ad 10)) rfl dX4_verify_187 ?_
                              refine lv_iload hx hb dX4_verify_190 (lv_at hl 0 rfl) ?_
                              refine hr_ald EE hm hRs 10 u (by decide) rfl (by show u < 8; omega) (by decide) dX4_verify_192 ?_
                              refine lv_aload_n hx hb dX4_verify_193 rfl (lv_at hl 2 rfl) ?_
                              refine hr_get EE hm hRs 5 (by decide) wf_X4_97 (v := .ref (ad 5)) rfl dX4_verify_194 ?_
                              refine lv_bipush (v := 8) hx hb dX4_verify_197 (by decide) ?_
                              refine lv_iload_n hx hb dX4_verify_199 rfl (lv_at hl 3 rfl) ?_
                              refine hp_ci (hp_runS (np := 1) (k := 1) (mc := 0) (ms := 0) (As := [.int v0]) (rest := [.int 8, .ref (ad 5), .int (S3 10 u)]) EE hm hS (c_X4_rowOf l g M3 v0) ms_X4_rowOf wt_X4_rowOf wl_X4_198 rfl hl.1 rfl (Nat.le_of_ble_eq_true rfl) dX4_verify_200 ⟨Nat.le_of_ble_eq_true rfl, Nat.le_of_ble_eq_true rfl⟩ ⟨(Nat.le_of_ble_eq_true rfl), (Nat.le_of_ble_eq_true rfl)⟩) hS (fun r9 Mx10 H locs hq11 hm hS => ?_)
                              obtain ⟨rfl, h9⟩ := hq11
                              rw [h9] at hm
                              refine lv_imul hx hb dX4_verify_203 ?_
                              refine lv_iload hx hb dX4_verify_204 (lv_at hl 0 rfl) ?_
                              refine lv_iadd hx hb dX4_verify_206 ?_
                              refine hr_ald EE hm hRs 5 ((8 * r0) + u) (by decide) (add_n (mul_n rfl hro) rfl) (by show (8 * r0) + u < 488; omega) (by decide) dX4_verify_207 ?_
                              refine lv_icmp_ne (tgt := 215) hx hb dX4_verify_208 (by decide) (fun c_208 => ?_) (fun c_208 => ?_)
                              · refine lv_iconst (v := 0) hx hb dX4_verify_215 (by decide) ?_
                                refine lv_istore_n (lv' := [(3, .int 0), (4, .int (nI u)), (0, .ref y), (1, .int v0), (2, .int (nI kn))]) hx hb dX4_verify_216 rfl hl (by decide) rfl (fun ls hl => ?_)
                                refine lv_iinc (v := nI (u + 1)) (lv' := [(4, .int (nI (u + 1))), (3, .int 0), (0, .ref y), (1, .int v0), (2, .int (nI kn))]) hx hb dX4_verify_217 hl (k := 1) rfl (inc_n rfl) (by decide) rfl (fun ls hl => ?_)
                                refine lv_goto (tgt := 175) hx hb dX4_verify_220 (by decide) ?_
                                refine ih5 (u + 1) false H locs ls (by omega) (by omega) ?_ hm hS (lv_sub hl [0, 1, 2, 3, 4] rfl)
                                exact ⟨fun h9 => (by cases h9), fun h9 => absurd (by rw [hdg u (by omega)]; exact h9 u (by omega)) c_208⟩
                              · refine lv_iconst (v := 1) hx hb dX4_verify_211 (by decide) ?_
                                refine lv_goto (tgt := 216) hx hb dX4_verify_212 (by decide) ?_
                                refine lv_istore_n (lv' := [(3, .int 1), (4, .int (nI u)), (0, .ref y), (1, .int v0), (2, .int (nI kn))]) hx hb dX4_verify_216 rfl hl (by decide) rfl (fun ls hl => ?_)
                                refine lv_iinc (v := nI (u + 1)) (lv' := [(4, .int (nI (u + 1))), (3, .int 1), (0, .ref y), (1, .int v0), (2, .int (nI kn))]) hx hb dX4_verify_217 hl (k := 1) rfl (inc_n rfl) (by decide) rfl (fun ls hl => ?_)
                                refine lv_goto (tgt := 175) hx hb dX4_verify_220 (by decide) ?_
                                refine ih5 (u + 1) true H locs ls (by omega) (by omega) ?_ hm hS (lv_sub hl [0, 1, 2, 3, 4] rfl)
                                refine ⟨fun _ j hj => ?_, fun _ => rfl⟩
                                by_cases tt : j = u
                                · rw [tt, ← hdg u (by omega)]; exact c_208
                                · exact hee.mp c_183 j (by omega)
                      exact lp5 9 0 true H locs ls (by omega) (by omega) ⟨fun _ j h => absurd h (Nat.not_lt_zero j), fun _ => rfl⟩ hm hS (lv_sub hl [0, 1, 2, 3, 4] rfl)
                    · obtain ⟨t1, ht1⟩ : ∃ t1, t = t1 + 1 := by
                        rcases Nat.eq_zero_or_pos t with q | q
                        · rw [q] at c_94; exact absurd (by decide) c_94
                        · exact ⟨t - 1, by omega⟩
                      subst ht1
                      rw [nI_pred] at hl
                      have hl : lv_has ls 6 [(3, .int (nI t1)), (0, .ref y), (1, .int v0), (2, .int (nI kn))] := hl
                      obtain ⟨sd, hsd⟩ : ∃ sd, sd = (kn.testBit (15 - t1)).toNat := ⟨_, rfl⟩
                      have hsd2 : sd < 2 := by rw [hsd]; cases kn.testBit (15 - t1) <;> decide
                      have hdv9 : kn / 2 ^ (15 - t1) ≤ kn := Nat.div_le_self _ _
                      have hside : (nI (kn / 2 ^ (15 - t1)) &&& (1 : Int32)) = nI sd := by rw [pk_andN (m := 1) (by omega) 1 (by decide), bit_n, bI_nat, ← hsd]
                      refine lv_iload_n hx hb dX4_verify_97 rfl (lv_at hl 3 rfl) ?_
                      refine lv_bipush (v := 15) hx hb dX4_verify_98 (by decide) ?_
                      refine lv_iload_n hx hb dX4_verify_100 rfl (lv_at hl 0 rfl) ?_
                      refine lv_isub hx hb dX4_verify_101 ?_
                      refine lv_ishr hx hb dX4_verify_102 ?_
                      refine lv_iconst (v := 1) hx hb dX4_verify_103 (by decide) ?_
                      refine lv_iand hx hb dX4_verify_104 ?_
                      rw [show (15 : Int32) - nI t1 = nI (15 - t1) from sub_n (a := 15) rfl rfl (by omega), sshr_n (by omega) (by omega), hside]
                      refine lv_istore (lv' := [(4, .int (nI sd)), (3, .int (nI t1)), (0, .ref y), (1, .int v0), (2, .int (nI kn))]) hx hb dX4_verify_105 hl (by decide) rfl (fun ls hl => ?_)
                      refine lv_iconst (v := 0) hx hb dX4_verify_107 (by decide) ?_
                      refine lv_istore (lv' := [(5, .int 0), (4, .int (nI sd)), (3, .int (nI t1)), (0, .ref y), (1, .int v0), (2, .int (nI kn))]) hx hb dX4_verify_108 hl (by decide) rfl (fun ls hl => ?_)
                      have lp2 : ∀ (n u : Nat) (M4 : hM) (S4 : Nat → Nat → Int32)   (H : Heap) (locs : List Loc) (ls : Array Slot), 9 ≤ u + n → u ≤ 8 → (∀ k9, k9 ≠ 8 → S4 k9 = S3 k9) → (∀ i, i < u → ∀ k, k < 4 → S4 8 (1 + 32 * sd + 4 * i + k) = byt (S3 10 i) k) → (∀ i, i < u → ∀ k, k < 4 → S4 8 (1 + 32 * (1 - sd) + 4 * i + k) = byt (sSb σ t1 i) k) → RS g M4 y ad S4 Vk → (∀ q, ¬ rO y ad q → M4 q = M q) → hp g M4 H → va_S (hA g) s.heap H locs → lv_has ls 6 [(5, .int (nI u)), (4, .int (nI sd)), (3, .int (nI t1)), (0, .ref y), (1, .int v0), (2, .int (nI kn))] → W p l e (hR 8 0 0) s m [.ref y, .int v0, .int k0].toArray below meth c H locs 0 0 Q (F0 m 110 ls []) := by
                        intro n
                        induction n with
                        | zero => intro u M4 S4 H locs ls hn2 hu ho4 hp1 hp2; exact absurd hn2 (by omega)
                        | succ n ih2 =>
                          intro u M4 S4 H locs ls hn2 hu ho4 hp1 hp2 hRs hF hm hS hl
                          refine lv_iload hx hb dX4_verify_110 (lv_at hl 0 rfl) ?_
                          refine lv_bipush (v := 8) hx hb dX4_verify_112 (by decide) ?_
                          refine lv_icmp_ge (tgt := 160) hx hb dX4_verify_114 (by decide) (fun c_114 => ?_) (fun c_114 => ?_)
                          · have c_114 : 8 ≤ u := (leN (a := 8) (b := u) rfl rfl (by decide) (by omega)).mp c_114
                            obtain ⟨zz, oo, hzo, hz8, ho8⟩ : ∃ zz oo : Nat → Int32, hPair zz oo = (if kn.testBit (15 - t1) then hPair (sSb σ t1) (S3 10) else hPair (S3 10) (sSb σ t1)) ∧ (∀ i, i < 8 → ∀ k, k < 4 → S4 8 (1 + 32 * 0 + 4 * i + k) = byt (zz i) k) ∧ (∀ i, i < 8 → ∀ k, k < 4 → S4 8 (1 + 32 * 1 + 4 * i + k) = byt (oo i) k) := by
                              cases hbt : kn.testBit (15 - t1) with
                              | true =>
                                rw [hbt] at hsd
                                rw [show sd = 1 from hsd] at hp1 hp2
                                exact ⟨sSb σ t1, S3 10, rfl, fun i hi => hp2 i (by omega), fun i hi => hp1 i (by omega)⟩
                              | false =>
                                rw [hbt] at hsd
                                rw [show sd = 0 from hsd] at hp1 hp2
                                exact ⟨S3 10, sSb σ t1, rfl, fun i hi => hp1 i (by omega), fun i hi => hp2 i (by omega)⟩
                            refine lv_aload_n hx hb dX4_verify_160 rfl (lv_at hl 3 rfl) ?_
                            refine hp_cv (hp_runV (C := RX4) (T := TX4) (N := 24) (np := 0) (k := 4) (mc := 0) (ms := 0) (As := ([] : List Value)) (rest := []) EE hm hS (c_X4_join l g M4 y ad S4 Vk hRs (fun j hj => by rw [ho4 0 (by decide), hO3 0 (by decide) (by decide) (by decide)]; exact hk0k j hj) (fun j hj => by rw [ho4 1 (by decide), hO3 1 (by decide) (by decide) (by decide)]; exact hk1k j hj) zz oo hz8 ho8) ms_X4_join wi_X4_join ws_X4_join wl_X4_163 hRs.1 rfl rfl hl.1 rfl (Nat.le_of_ble_eq_true rfl) dX4_verify_161 ⟨Nat.le_of_ble_eq_true rfl, Nat.le_of_ble_eq_true rfl⟩ ⟨(Nat.le_of_ble_eq_true rfl), (Nat.le_of_ble_eq_true rfl)⟩) hS (fun Mx12 H locs hq13 hm hS => ?_)
                            obtain ⟨S8, hRs, hF8, hO8, hd8⟩ := hq13
                            have hF : ∀ q, ¬ rO y ad q → Mx12 q = M q := fun q hq => (hF8 q hq).trans (hF q hq)
                            refine lv_iinc (v := (nI t1) + (-1)) (lv' := [(3, .int ((nI t1) + (-1))), (5, .int (nI u)), (4, .int (nI sd)), (0, .ref y), (1, .int v0), (2, .int (nI kn))]) hx hb dX4_verify_164 hl (k := 2) rfl rfl (by decide) rfl (fun ls hl => ?_)
                            refine lv_goto (tgt := 93) hx hb dX4_verify_167 (by decide) ?_
                            refine ih t1 Mx12 S8 H locs ls (by omega) (by omega) (fun k9 h8 h9 h10 => by rw [hO8 k9 h8 h9 h10, ho4 k9 h8]; exact hO3 k9 h8 h9 h10) (fun j hj => ?_) hRs hF hm hS (lv_sub hl [0, 3, 4, 5] (by rw [m1_sub]; rfl))
                            rw [← hfo j hj]
                            show _ = foldS (sSb σ) kn t1 (if kn.testBit (15 - t1) then hPair (sSb σ t1) (S3 10) else hPair (S3 10) (sSb σ t1)) j
                            rw [← hzo]
                            exact foldS_w t1 (fun _ _ _ _ => rfl) hd8 j hj
                          · have c_114 : ¬ 8 ≤ u := fun h9 => c_114 ((leN (a := 8) (b := u) rfl rfl (by decide) (by omega)).mpr h9)
                            refine lv_aload_n hx hb dX4_verify_117 rfl (lv_at hl 3 rfl) ?_
                            refine lv_iload hx hb dX4_verify_118 (lv_at hl 1 rfl) ?_
                            refine lv_iload hx hb dX4_verify_120 (lv_at hl 0 rfl) ?_
                            refine lv_aload_n hx hb dX4_verify_122 rfl (lv_at hl 3 rfl) ?_
                            refine hr_get EE hm hRs 10 (by decide) wf_X4_106 (v := .ref (ad 10)) rfl dX4_verify_123 ?_
                            refine lv_iload hx hb dX4_verify_126 (lv_at hl 0 rfl) ?_
                            refine hr_ald EE hm hRs 10 u (by decide) rfl (by show u < 8; omega) (by decide) dX4_verify_128 ?_
                            rw [ho4 10 (by decide)]
                            refine hp_cv (hp_runV (C := RX4) (T := TX4) (N := 24) (np := 3) (k := 1) (mc := 0) (ms := 0) (As := [.int (nI sd), .int (nI u), .int (S3 10 u)]) (rest := []) EE hm hS (c_X4_half l g M4 y ad S4 Vk hRs sd u hsd2 (by omega) (S3 10 u)) ms_X4_half wi_X4_half ws_X4_half wl_X4_159 hRs.1 rfl rfl hl.1 rfl (Nat.le_of_ble_eq_true rfl) dX4_verify_129 ⟨Nat.le_of_ble_eq_true rfl, Nat.le_of_ble_eq_true rfl⟩ ⟨(Nat.le_of_ble_eq_true rfl), (Nat.le_of_ble_eq_true rfl)⟩) hS (fun Mx14 H locs hq15 hm hS => ?_)
                            obtain ⟨Sa, hRs, hFa, hoa, hna, hya⟩ := hq15
                            have hF : ∀ q, ¬ rO y ad q → Mx14 q = M q := fun q hq => (hFa q hq).trans (hF q hq)
                            refine lv_aload_n hx hb dX4_verify_132 rfl (lv_at hl 3 rfl) ?_
                            refine lv_iconst (v := 1) hx hb dX4_verify_133 (by decide) ?_
                            refine lv_iload hx hb dX4_verify_134 (lv_at hl 1 rfl) ?_
                            refine lv_isub hx hb dX4_verify_136 ?_
                            rw [show (1 : Int32) - nI sd = nI (1 - sd) from sub_n (a := 1) rfl rfl (by omega)]
                            refine lv_iload hx hb dX4_verify_137 (lv_at hl 0 rfl) ?_
                            refine lv_aload_n hx hb dX4_verify_139 rfl (lv_at hl 3 rfl) ?_
                            refine hr_get EE hm hRs 20 (by decide) wf_X4_130 (v := .ref (ad 20)) rfl dX4_verify_140 ?_
                            refine lv_bipush (v := 8) hx hb dX4_verify_143 (by decide) ?_
                            refine lv_iload_n hx hb dX4_verify_145 rfl (lv_at hl 2 rfl) ?_
                            refine lv_imul hx hb dX4_verify_146 ?_
                            refine lv_iload hx hb dX4_verify_147 (lv_at hl 0 rfl) ?_
                            refine lv_iadd hx hb dX4_verify_149 ?_
                            refine hr_ald EE hm hRs 20 ((8 * t1) + u) (by decide) (add_n (mul_n rfl rfl) rfl) (by show (8 * t1) + u < 128; omega) (by decide) dX4_verify_150 ?_
                            rw [show Sa 20 (8 * t1 + u) = sSb σ t1 u from by rw [hoa 20 (by decide), ho4 20 (by decide), hO3 20 (by decide) (by decide) (by decide)]; exact hsbk t1 (by omega) u (by omega)]
                            refine hp_cv (hp_runV (C := RX4) (T := TX4) (N := 24) (np := 3) (k := 1) (mc := 0) (ms := 0) (As := [.int (nI (1 - sd)), .int (nI u), .int (sSb σ t1 u)]) (rest := []) EE hm hS (c_X4_half l g Mx14 y ad Sa Vk hRs (1 - sd) u (by omega) (by omega) (sSb σ t1 u)) ms_X4_half wi_X4_half ws_X4_half wl_X4_159 hRs.1 rfl rfl hl.1 rfl (Nat.le_of_ble_eq_true rfl) dX4_verify_151 ⟨Nat.le_of_ble_eq_true rfl, Nat.le_of_ble_eq_true rfl⟩ ⟨(Nat.le_of_ble_eq_true rfl), (Nat.le_of_ble_eq_true rfl)⟩) hS (fun Mx16 H locs hq17 hm hS => ?_)
                            obtain ⟨Sb, hRs, hFb, hob, hnb, hyb⟩ := hq17
                            have hF : ∀ q, ¬ rO y ad q → Mx16 q = M q := fun q hq => (hFb q hq).trans (hF q hq)
                            refine lv_iinc (v := nI (u + 1)) (lv' := [(5, .int (nI (u + 1))), (4, .int (nI sd)), (3, .int (nI t1)), (0, .ref y), (1, .int v0), (2, .int (nI kn))]) hx hb dX4_verify_154 hl (k := 0) rfl (inc_n rfl) (by decide) rfl (fun ls hl => ?_)
                            refine lv_goto (tgt := 110) hx hb dX4_verify_157 (by decide) ?_
                            refine ih2 (u + 1) Mx16 Sb H locs ls (by omega) (by omega) (fun k9 hk9 => by rw [hob k9 hk9, hoa k9 hk9]; exact ho4 k9 hk9) (fun i hi k hk => ?_) (fun i hi k hk => ?_) hRs hF hm hS (lv_sub hl [0, 1, 2, 3, 4, 5] rfl)
                            · by_cases tt : i = u
                              · subst tt; rw [hnb _ (by omega)]; exact hya k hk
                              · rw [hnb _ (by omega), hna _ (by omega)]; exact hp1 i (by omega) k hk
                            · by_cases tt : i = u
                              · subst tt; exact hyb k hk
                              · rw [hnb _ (by omega), hna _ (by omega)]; exact hp2 i (by omega) k hk
                      exact lp2 9 0 M3 S3 H locs ls (by omega) (by omega) (fun _ _ => rfl) (fun i h => absurd h (Nat.not_lt_zero i)) (fun i h => absurd h (Nat.not_lt_zero i)) hRs hF hm hS (lv_sub hl [0, 1, 2, 3, 4, 5] rfl)
                exact lp (sPl σ + 1) (sPl σ) M1 S1 H locs ls (by omega) (by omega) hO (fun j hj => foldS_w _ (fun _ _ _ _ => rfl) hEd j hj) hRs hF hm hS (lv_sub hl [0, 1, 2, 3] rfl)
              · have c_71 := bI_t c_71
                obtain ⟨pk, hpk1, hpk2⟩ := hpk.1 c_71
                refine lv_aload_n hx hb dX4_verify_74 rfl (lv_at hl 1 rfl) ?_
                refine lv_aload_n hx hb dX4_verify_75 rfl (lv_at hl 1 rfl) ?_
                refine hr_get EE hm hRs 22 (by decide) wf_X4_214 (v := .int (Vk 22)) rfl dX4_verify_76 ?_
                rw [hv22k, hpk2]
                refine lv_aload_n hx hb dX4_verify_79 rfl (lv_at hl 1 rfl) ?_
                refine hr_get EE hm hRs 23 (by decide) wf_X4_217 (v := .int (Vk 23)) rfl dX4_verify_80 ?_
                rw [hv23k]
                refine hp_cv (hp_runV (C := RX4) (T := TX4) (N := 24) (np := 2) (k := 4) (mc := 0) (ms := 0) (As := [.int (nI pk), .int (sPv σ)]) (rest := []) EE hm hS (c_X4_leaf l g M1 y ad S1 Vk hRs (fun j hj => by rw [hz0 0 (by decide)]; exact hk0k j hj) (fun j hj => by rw [hz0 1 (by decide)]; exact hk1k j hj) pk hpk1 (sPv σ)) ms_X4_leaf wi_X4_leaf ws_X4_leaf wl_X4_152 hRs.1 rfl rfl hl.1 rfl (Nat.le_of_ble_eq_true rfl) dX4_verify_83 ⟨Nat.le_of_ble_eq_true rfl, Nat.le_of_ble_eq_true rfl⟩ ⟨(Nat.le_of_ble_eq_true rfl), (Nat.le_of_ble_eq_true rfl)⟩) hS (fun Mx18 H locs hq19 hm hS => ?_)
                obtain ⟨S7, hRs, hF7, ho7, hd7⟩ := hq19
                have hF : ∀ q, ¬ rO y ad q → Mx18 q = M q := fun q hq => (hF7 q hq).trans (hF q hq)
                have hO : ∀ k9, k9 ≠ 8 → k9 ≠ 9 → k9 ≠ 10 → S7 k9 = Sk k9 := fun k9 h8 h9 h10 => (ho7 k9 h8 h9 h10).trans (hz0 k9 h10)
                have hEd : ∀ j, j < 8 → S7 10 j = endD σ j := fun j hj => by unfold endD; rw [c_71, hpk2]; exact hd7 j hj
                refine lv_aload_n hx hb dX4_verify_86 rfl (lv_at hl 1 rfl) ?_
                refine hr_get EE hm hRs 19 (by decide) wf_X4_208 (v := .int (Vk 19)) rfl dX4_verify_87 ?_
                rw [hv19k]
                refine lv_iconst (v := 1) hx hb dX4_verify_90 (by decide) ?_
                refine lv_isub hx hb dX4_verify_91 ?_
                refine lv_istore_n (lv' := [(3, .int ((nI (sPl σ)) - 1)), (0, .ref y), (1, .int v0), (2, .int (nI kn))]) hx hb dX4_verify_92 rfl hl (by decide) rfl (fun ls hl => ?_)
                have lp : ∀ (n t : Nat) (M3 : hM) (S3 : Nat → Nat → Int32)   (H : Heap) (locs : List Loc) (ls : Array Slot), t + 1 ≤ n → t ≤ sPl σ → (∀ k9, k9 ≠ 8 → k9 ≠ 9 → k9 ≠ 10 → S3 k9 = Sk k9) → (∀ j, j < 8 → foldS (sSb σ) kn t (S3 10) j = foldS (sSb σ) kn (sPl σ) (endD σ) j) → RS g M3 y ad S3 Vk → (∀ q, ¬ rO y ad q → M3 q = M q) → hp g M3 H → va_S (hA g) s.heap H locs → lv_has ls 6 [(3, .int (nI t - 1)), (0, .ref y), (1, .int v0), (2, .int (nI kn))] → W p l e (hR 8 0 0) s m [.ref y, .int v0, .int k0].toArray below meth c H locs 0 0 Q (F0 m 93 ls []) := by
                  intro n
                  induction n with
                  | zero => intro t M3 S3 H locs ls hn ht hO3 hfo; exact absurd hn (by omega)
                  | succ n ih =>
                    intro t M3 S3 H locs ls hn ht hO3 hfo hRs hF hm hS hl
                    refine lv_iload_n hx hb dX4_verify_93 rfl (lv_at hl 0 rfl) ?_
                    refine lv_if_lt (tgt := 170) hx hb dX4_verify_94 (by decide) (fun c_94 => ?_) (fun c_94 => ?_)
                    · have ht0 : t = 0 := by
                        rcases Nat.eq_zero_or_pos t with q | q
                        · exact q
                        · obtain ⟨t1, rfl⟩ : ∃ t1, t = t1 + 1 := ⟨t - 1, by omega⟩
                          rw [nI_pred] at c_94
                          exact absurd c_94 (nI_pos (by omega))
                      subst ht0
                      have hfo : ∀ j, j < 8 → S3 10 j = foldS (sSb σ) kn (sPl σ) (endD σ) j := hfo
                      refine lv_iconst (v := 1) hx hb dX4_verify_170 (by decide) ?_
                      refine lv_istore_n (lv' := [(3, .int 1), (0, .ref y), (1, .int v0), (2, .int (nI kn))]) hx hb dX4_verify_171 rfl hl (by decide) rfl (fun ls hl => ?_)
                      refine lv_iconst (v := 0) hx hb dX4_verify_172 (by decide) ?_
                      refine lv_istore (lv' := [(4, .int 0), (3, .int 1), (0, .ref y), (1, .int v0), (2, .int (nI kn))]) hx hb dX4_verify_173 hl (by decide) rfl (fun ls hl => ?_)
                      have hdg : ∀ j, j < 8 → S3 5 (8 * r0 + j) = dgF 16 E j := fun j hj => by
                        rw [hO3 5 (by decide) (by decide) (by decide)]
                        rcases hrc with ⟨t1, t2⟩ | ⟨t1, t2⟩
                        · rw [t2, t1]; exact hdk j hj
                        · rw [t2]; exact hdvk r0 t1 j hj
                      have lp5 : ∀ (n u : Nat) (ee : Bool) (H : Heap) (locs : List Loc) (ls : Array Slot), 9 ≤ u + n → u ≤ 8 → (ee = true ↔ ∀ j, j < u → S3 10 j = dgF 16 E j) → hp g M3 H → va_S (hA g) s.heap H locs → lv_has ls 6 [(4, .int (nI u)), (3, .int (bI ee)), (0, .ref y), (1, .int v0), (2, .int (nI kn))] → W p l e (hR 8 0 0) s m [.ref y, .int v0, .int k0].toArray below meth c H locs 0 0 Q (F0 m 175 ls []) := by
                        intro n
                        induction n with
                        | zero => intro u ee H locs ls hn5 hu5 hee; exact absurd hn5 (by omega)
                        | succ n ih5 =>
                          intro u ee H locs ls hn5 hu5 hee hm hS hl
                          refine lv_iload hx hb dX4_verify_175 (lv_at hl 0 rfl) ?_
                          refine lv_bipush (v := 8) hx hb dX4_verify_177 (by decide) ?_
                          refine lv_icmp_ge (tgt := 223) hx hb dX4_verify_179 (by decide) (fun c_179 => ?_) (fun c_179 => ?_)
                          · have c_179 : 8 ≤ u := (leN (a := 8) (b := u) rfl rfl (by decide) (by omega)).mp c_179
                            have heq : eq8 (foldS (sSb σ) kn (sPl σ) (endD σ)) (dgF 16 (mapV σ v0)) = ee := by
                              rw [← hE]
                              exact eq8_iff (hee.trans ⟨fun h9 j hj => by rw [← hfo j hj]; exact h9 j (by omega), fun h9 j hj => by rw [hfo j (by omega)]; exact h9 j (by omega)⟩)
                            have hPP : RP g M y ad M3 σ := ⟨S3, Vk, hwk.re hRs (fun k hk => hO3 k (by omega) (by omega) (by omega)) rfl rfl hv19k hv21k hv22k hv23k hpl hpk (fun i hi j hj => by rw [hO3 20 (by decide) (by decide) (by decide)]; exact hsbk i hi j hj), hF⟩
                            refine lv_iload_n hx hb dX4_verify_223 rfl (lv_at hl 1 rfl) ?_
                            refine lv_if_ne (tgt := 232) hx hb dX4_verify_224 (by decide) (fun c_224 => ?_) (fun c_224 => ?_)
                            · have c_224 := bI_t c_224
                              refine lv_aload_n hx hb dX4_verify_232 rfl (lv_at hl 2 rfl) ?_
                              refine hr_get EE hm hRs 21 (by decide) wf_X4_211 (v := .int (Vk 21)) rfl dX4_verify_233 ?_
                              rw [hv21k]
                              refine lv_if_eq (tgt := 251) hx hb dX4_verify_236 (by decide) (fun c_236 => ?_) (fun c_236 => ?_)
                              · have c_236 := bI_f c_236
                                refine lv_iconst (v := 0) hx hb dX4_verify_251 (by decide) ?_
                                exact ret dX4_verify_252 na_i hm hS (Nat.le_of_ble_eq_true rfl) (Nat.le_of_ble_eq_true rfl) (⟨by unfold rVer; rw [c_5, c_12, hcl, hfit, heq, c_224]; first | rfl | (rw [c_236]; rfl) | (rw [c_236, hke, decide_eq_true c_244]; rfl) | (rw [c_236, hke, decide_eq_false c_244]; rfl), hPP⟩)
                              · have c_236 := bI_t c_236
                                refine lv_aload_n hx hb dX4_verify_239 rfl (lv_at hl 2 rfl) ?_
                                refine hr_get EE hm hRs 22 (by decide) wf_X4_214 (v := .int (Vk 22)) rfl dX4_verify_240 ?_
                                rw [hv22k]
                                refine lv_iload_n hx hb dX4_verify_243 rfl (lv_at hl 4 rfl) ?_
                                refine lv_icmp_ne (tgt := 251) hx hb dX4_verify_244 (by decide) (fun c_244 => ?_) (fun c_244 => ?_)
                                · refine lv_iconst (v := 0) hx hb dX4_verify_251 (by decide) ?_
                                  exact ret dX4_verify_252 na_i hm hS (Nat.le_of_ble_eq_true rfl) (Nat.le_of_ble_eq_true rfl) (⟨by unfold rVer; rw [c_5, c_12, hcl, hfit, heq, c_224]; first | rfl | (rw [c_236]; rfl) | (rw [c_236, hke, decide_eq_true c_244]; rfl) | (rw [c_236, hke, decide_eq_false c_244]; rfl), hPP⟩)
                                · refine lv_iconst (v := 1) hx hb dX4_verify_247 (by decide) ?_
                                  refine lv_goto (tgt := 252) hx hb dX4_verify_248 (by decide) ?_
                                  exact ret dX4_verify_252 na_i hm hS (Nat.le_of_ble_eq_true rfl) (Nat.le_of_ble_eq_true rfl) (⟨by unfold rVer; rw [c_5, c_12, hcl, hfit, heq, c_224]; first | rfl | (rw [c_236]; rfl) | (rw [c_236, hke, decide_eq_true c_244]; rfl) | (rw [c_236, hke, decide_eq_false c_244]; rfl), hPP⟩)
                            · have c_224 := bI_f c_224
                              refine lv_bipush (v := (-2)) hx hb dX4_verify_227 (by decide) ?_
                              refine lv_goto (tgt := 252) hx hb dX4_verify_229 (by decide) ?_
                              exact ret dX4_verify_252 na_i hm hS (Nat.le_of_ble_eq_true rfl) (Nat.le_of_ble_eq_true rfl) (⟨by unfold rVer; rw [c_5, c_12, hcl, hfit, heq, c_224]; first | rfl | (rw [c_236]; rfl) | (rw [c_236, hke, decide_eq_true c_244]; rfl) | (rw [c_236, hke, decide_eq_false c_244]; rfl), hPP⟩)
                          · have c_179 : ¬ 8 ≤ u := fun h9 => c_179 ((leN (a := 8) (b := u) rfl rfl (by decide) (by omega)).mpr h9)
                            refine lv_iload_n hx hb dX4_verify_182 rfl (lv_at hl 1 rfl) ?_
                            refine lv_if_eq (tgt := 215) hx hb dX4_verify_183 (by decide) (fun c_183 => ?_) (fun c_183 => ?_)
                            · have c_183 := bI_f c_183
                              refine lv_iconst (v := 0) hx hb dX4_verify_215 (by decide) ?_
                              refine lv_istore_n (lv' := [(3, .int 0), (4, .int (nI u)), (0, .ref y), (1, .int v0), (2, .int (nI kn))]) hx hb dX4_verify_216 rfl hl (by decide) rfl (fun ls hl => ?_)
                              refine lv_iinc (v := nI (u + 1)) (lv' := [(4, .int (nI (u + 1))), (3, .int 0), (0, .ref y), (1, .int v0), (2, .int (nI kn))]) hx hb dX4_verify_217 hl (k := 1) rfl (inc_n rfl) (by decide) rfl (fun ls hl => ?_)
                              refine lv_goto (tgt := 175) hx hb dX4_verify_220 (by decide) ?_
                              refine ih5 (u + 1) false H locs ls (by omega) (by omega) ?_ hm hS (lv_sub hl [0, 1, 2, 3, 4] rfl)
                              exact ⟨fun h9 => (by cases h9), fun h9 => by rw [hee.mpr (fun j hj => h9 j (by omega))] at c_183; cases c_183⟩
                            · have c_183 := bI_t c_183
                              refine lv_aload_n hx hb dX4_verify_186 rfl (lv_at hl 2 rfl) ?_
                              refine hr_get EE hm hRs 10 (by decide) wf_X4_106 (v := .ref (ad 10)) rfl dX4_verify_187 ?_
                              refine lv_iload hx hb dX4_verify_190 (lv_at hl 0 rfl) ?_
                              refine hr_ald EE hm hRs 10 u (by decide) rfl (by show u < 8; omega) (by decide) dX4_verify_192 ?_
                              refine lv_aload_n hx hb dX4_verify_193 rfl (lv_at hl 2 rfl) ?_
                              refine hr_get EE hm hRs 5 (by decide) wf_X4_97 (v := .ref (ad 5)) rfl dX4_verify_194 ?_
                              refine lv_bipush (v := 8) hx hb dX4_verify_197 (by decide) ?_
                              refine lv_iload_n hx hb dX4_verify_199 rfl (lv_at hl 3 rfl) ?_
                              refine hp_ci (hp_runS (np := 1) (k := 1) (mc := 0) (ms := 0) (As := [.int v0]) (rest := [.int 8, .ref (ad 5), .int (S3 10 u)]) EE hm hS (c_X4_rowOf l g M3 v0) ms_X4_rowOf wt_X4_rowOf wl_X4_198 rfl hl.1 rfl (Nat.le_of_ble_eq_true rfl) dX4_verify_200 ⟨Nat.le_of_ble_eq_true rfl, Nat.le_of_ble_eq_true rfl⟩ ⟨(Nat.le_of_ble_eq_true rfl), (Nat.le_of_ble_eq_true rfl)⟩) hS (fun r20 Mx21 H locs hq22 hm hS => ?_)
                              obtain ⟨rfl, h9⟩ := hq22
                              rw [h9] at hm
                              refine lv_imul hx hb dX4_verify_203 ?_
                              refine lv_iload hx hb dX4_verify_204 (lv_at hl 0 rfl) ?_
                              refine lv_iadd hx hb dX4_verify_206 ?_
                              refine hr_ald EE hm hRs 5 ((8 * r0) + u) (by decide) (add_n (mul_n rfl hro) rfl) (by show (8 * r0) + u < 488; omega) (by decide) dX4_verify_207 ?_
                              refine lv_icmp_ne (tgt := 215) hx hb dX4_verify_208 (by decide) (fun c_208 => ?_) (fun c_208 => ?_)
                              · refine lv_iconst (v := 0) hx hb dX4_verify_215 (by decide) ?_
                                refine lv_istore_n (lv' := [(3, .int 0), (4, .int (nI u)), (0, .ref y), (1, .int v0), (2, .int (nI kn))]) hx hb dX4_verify_216 rfl hl (by decide) rfl (fun ls hl => ?_)
                                refine lv_iinc (v := nI (u + 1)) (lv' := [(4, .int (nI (u + 1))), (3, .int 0), (0, .ref y), (1, .int v0), (2, .int (nI kn))]) hx hb dX4_verify_217 hl (k := 1) rfl (inc_n rfl) (by decide) rfl (fun ls hl => ?_)
                                refine lv_goto (tgt := 175) hx hb dX4_verify_220 (by decide) ?_
                                refine ih5 (u + 1) false H locs ls (by omega) (by omega) ?_ hm hS (lv_sub hl [0, 1, 2, 3, 4] rfl)
                                exact ⟨fun h9 => (by cases h9), fun h9 => absurd (by rw [hdg u (by omega)]; exact h9 u (by omega)) c_208⟩
                              · refine lv_iconst (v := 1) hx hb dX4_verify_211 (by decide) ?_
                                refine lv_goto (tgt := 216) hx hb dX4_verify_212 (by decide) ?_
                                refine lv_istore_n (lv' := [(3, .int 1), (4, .int (nI u)), (0, .ref y), (1, .int v0), (2, .int (nI kn))]) hx hb dX4_verify_216 rfl hl (by decide) rfl (fun ls hl => ?_)
                                refine lv_iinc (v := nI (u + 1)) (lv' := [(4, .int (nI (u + 1))), (3, .int 1), (0, .ref y), (1, .int v0), (2, .int (nI kn))]) hx hb dX4_verify_217 hl (k := 1) rfl (inc_n rfl) (by decide) rfl (fun ls hl => ?_)
                                refine lv_goto (tgt := 175) hx hb dX4_verify_220 (by decide) ?_
                                refine ih5 (u + 1) true H locs ls (by omega) (by omega) ?_ hm hS (lv_sub hl [0, 1, 2, 3, 4] rfl)
                                refine ⟨fun _ j hj => ?_, fun _ => rfl⟩
                                by_cases tt : j = u
                                · rw [tt, ← hdg u (by omega)]; exact c_208
                                · exact hee.mp c_183 j (by omega)
                      exact lp5 9 0 true H locs ls (by omega) (by omega) ⟨fun _ j h => absurd h (Nat.not_lt_zero j), fun _ => rfl⟩ hm hS (lv_sub hl [0, 1, 2, 3, 4] rfl)
                    · obtain ⟨t1, ht1⟩ : ∃ t1, t = t1 + 1 := by
                        rcases Nat.eq_zero_or_pos t with q | q
                        · rw [q] at c_94; exact absurd (by decide) c_94
                        · exact ⟨t - 1, by omega⟩
                      subst ht1
                      rw [nI_pred] at hl
                      have hl : lv_has ls 6 [(3, .int (nI t1)), (0, .ref y), (1, .int v0), (2, .int (nI kn))] := hl
                      obtain ⟨sd, hsd⟩ : ∃ sd, sd = (kn.testBit (15 - t1)).toNat := ⟨_, rfl⟩
                      have hsd2 : sd < 2 := by rw [hsd]; cases kn.testBit (15 - t1) <;> decide
                      have hdv9 : kn / 2 ^ (15 - t1) ≤ kn := Nat.div_le_self _ _
                      have hside : (nI (kn / 2 ^ (15 - t1)) &&& (1 : Int32)) = nI sd := by rw [pk_andN (m := 1) (by omega) 1 (by decide), bit_n, bI_nat, ← hsd]
                      refine lv_iload_n hx hb dX4_verify_97 rfl (lv_at hl 3 rfl) ?_
                      refine lv_bipush (v := 15) hx hb dX4_verify_98 (by decide) ?_
                      refine lv_iload_n hx hb dX4_verify_100 rfl (lv_at hl 0 rfl) ?_
                      refine lv_isub hx hb dX4_verify_101 ?_
                      refine lv_ishr hx hb dX4_verify_102 ?_
                      refine lv_iconst (v := 1) hx hb dX4_verify_103 (by decide) ?_
                      refine lv_iand hx hb dX4_verify_104 ?_
                      rw [show (15 : Int32) - nI t1 = nI (15 - t1) from sub_n (a := 15) rfl rfl (by omega), sshr_n (by omega) (by omega), hside]
                      refine lv_istore (lv' := [(4, .int (nI sd)), (3, .int (nI t1)), (0, .ref y), (1, .int v0), (2, .int (nI kn))]) hx hb dX4_verify_105 hl (by decide) rfl (fun ls hl => ?_)
                      refine lv_iconst (v := 0) hx hb dX4_verify_107 (by decide) ?_
                      refine lv_istore (lv' := [(5, .int 0), (4, .int (nI sd)), (3, .int (nI t1)), (0, .ref y), (1, .int v0), (2, .int (nI kn))]) hx hb dX4_verify_108 hl (by decide) rfl (fun ls hl => ?_)
                      have lp2 : ∀ (n u : Nat) (M4 : hM) (S4 : Nat → Nat → Int32)   (H : Heap) (locs : List Loc) (ls : Array Slot), 9 ≤ u + n → u ≤ 8 → (∀ k9, k9 ≠ 8 → S4 k9 = S3 k9) → (∀ i, i < u → ∀ k, k < 4 → S4 8 (1 + 32 * sd + 4 * i + k) = byt (S3 10 i) k) → (∀ i, i < u → ∀ k, k < 4 → S4 8 (1 + 32 * (1 - sd) + 4 * i + k) = byt (sSb σ t1 i) k) → RS g M4 y ad S4 Vk → (∀ q, ¬ rO y ad q → M4 q = M q) → hp g M4 H → va_S (hA g) s.heap H locs → lv_has ls 6 [(5, .int (nI u)), (4, .int (nI sd)), (3, .int (nI t1)), (0, .ref y), (1, .int v0), (2, .int (nI kn))] → W p l e (hR 8 0 0) s m [.ref y, .int v0, .int k0].toArray below meth c H locs 0 0 Q (F0 m 110 ls []) := by
                        intro n
                        induction n with
                        | zero => intro u M4 S4 H locs ls hn2 hu ho4 hp1 hp2; exact absurd hn2 (by omega)
                        | succ n ih2 =>
                          intro u M4 S4 H locs ls hn2 hu ho4 hp1 hp2 hRs hF hm hS hl
                          refine lv_iload hx hb dX4_verify_110 (lv_at hl 0 rfl) ?_
                          refine lv_bipush (v := 8) hx hb dX4_verify_112 (by decide) ?_
                          refine lv_icmp_ge (tgt := 160) hx hb dX4_verify_114 (by decide) (fun c_114 => ?_) (fun c_114 => ?_)
                          · have c_114 : 8 ≤ u := (leN (a := 8) (b := u) rfl rfl (by decide) (by omega)).mp c_114
                            obtain ⟨zz, oo, hzo, hz8, ho8⟩ : ∃ zz oo : Nat → Int32, hPair zz oo = (if kn.testBit (15 - t1) then hPair (sSb σ t1) (S3 10) else hPair (S3 10) (sSb σ t1)) ∧ (∀ i, i < 8 → ∀ k, k < 4 → S4 8 (1 + 32 * 0 + 4 * i + k) = byt (zz i) k) ∧ (∀ i, i < 8 → ∀ k, k < 4 → S4 8 (1 + 32 * 1 + 4 * i + k) = byt (oo i) k) := by
                              cases hbt : kn.testBit (15 - t1) with
                              | true =>
                                rw [hbt] at hsd
                                rw [show sd = 1 from hsd] at hp1 hp2
                                exact ⟨sSb σ t1, S3 10, rfl, fun i hi => hp2 i (by omega), fun i hi => hp1 i (by omega)⟩
                              | false =>
                                rw [hbt] at hsd
                                rw [show sd = 0 from hsd] at hp1 hp2
                                exact ⟨S3 10, sSb σ t1, rfl, fun i hi => hp1 i (by omega), fun i hi => hp2 i (by omega)⟩
                            refine lv_aload_n hx hb dX4_verify_160 rfl (lv_at hl 3 rfl) ?_
                            refine hp_cv (hp_runV (C := RX4) (T := TX4) (N := 24) (np := 0) (k := 4) (mc := 0) (ms := 0) (As := ([] : List Value)) (rest := []) EE hm hS (c_X4_join l g M4 y ad S4 Vk hRs (fun j hj => by rw [ho4 0 (by decide), hO3 0 (by decide) (by decide) (by decide)]; exact hk0k j hj) (fun j hj => by rw [ho4 1 (by decide), hO3 1 (by decide) (by decide) (by decide)]; exact hk1k j hj) zz oo hz8 ho8) ms_X4_join wi_X4_join ws_X4_join wl_X4_163 hRs.1 rfl rfl hl.1 rfl (Nat.le_of_ble_eq_true rfl) dX4_verify_161 ⟨Nat.le_of_ble_eq_true rfl, Nat.le_of_ble_eq_true rfl⟩ ⟨(Nat.le_of_ble_eq_true rfl), (Nat.le_of_ble_eq_true rfl)⟩) hS (fun Mx23 H locs hq24 hm hS => ?_)
                            obtain ⟨S8, hRs, hF8, hO8, hd8⟩ := hq24
                            have hF : ∀ q, ¬ rO y ad q → Mx23 q = M q := fun q hq => (hF8 q hq).trans (hF q hq)
                            refine lv_iinc (v := (nI t1) + (-1)) (lv' := [(3, .int ((nI t1) + (-1))), (5, .int (nI u)), (4, .int (nI sd)), (0, .ref y), (1, .int v0), (2, .int (nI kn))]) hx hb dX4_verify_164 hl (k := 2) rfl rfl (by decide) rfl (fun ls hl => ?_)
                            refine lv_goto (tgt := 93) hx hb dX4_verify_167 (by decide) ?_
                            refine ih t1 Mx23 S8 H locs ls (by omega) (by omega) (fun k9 h8 h9 h10 => by rw [hO8 k9 h8 h9 h10, ho4 k9 h8]; exact hO3 k9 h8 h9 h10) (fun j hj => ?_) hRs hF hm hS (lv_sub hl [0, 3, 4, 5] (by rw [m1_sub]; rfl))
                            rw [← hfo j hj]
                            show _ = foldS (sSb σ) kn t1 (if kn.testBit (15 - t1) then hPair (sSb σ t1) (S3 10) else hPair (S3 10) (sSb σ t1)) j
                            rw [← hzo]
                            exact foldS_w t1 (fun _ _ _ _ => rfl) hd8 j hj
                          · have c_114 : ¬ 8 ≤ u := fun h9 => c_114 ((leN (a := 8) (b := u) rfl rfl (by decide) (by omega)).mpr h9)
                            refine lv_aload_n hx hb dX4_verify_117 rfl (lv_at hl 3 rfl) ?_
                            refine lv_iload hx hb dX4_verify_118 (lv_at hl 1 rfl) ?_
                            refine lv_iload hx hb dX4_verify_120 (lv_at hl 0 rfl) ?_
                            refine lv_aload_n hx hb dX4_verify_122 rfl (lv_at hl 3 rfl) ?_
                            refine hr_get EE hm hRs 10 (by decide) wf_X4_106 (v := .ref (ad 10)) rfl dX4_verify_123 ?_
                            refine lv_iload hx hb dX4_verify_126 (lv_at hl 0 rfl) ?_
                            refine hr_ald EE hm hRs 10 u (by decide) rfl (by show u < 8; omega) (by decide) dX4_verify_128 ?_
                            rw [ho4 10 (by decide)]
                            refine hp_cv (hp_runV (C := RX4) (T := TX4) (N := 24) (np := 3) (k := 1) (mc := 0) (ms := 0) (As := [.int (nI sd), .int (nI u), .int (S3 10 u)]) (rest := []) EE hm hS (c_X4_half l g M4 y ad S4 Vk hRs sd u hsd2 (by omega) (S3 10 u)) ms_X4_half wi_X4_half ws_X4_half wl_X4_159 hRs.1 rfl rfl hl.1 rfl (Nat.le_of_ble_eq_true rfl) dX4_verify_129 ⟨Nat.le_of_ble_eq_true rfl, Nat.le_of_ble_eq_true rfl⟩ ⟨(Nat.le_of_ble_eq_true rfl), (Nat.le_of_ble_eq_true rfl)⟩) hS (fun Mx25 H locs hq26 hm hS => ?_)
                            obtain ⟨Sa, hRs, hFa, hoa, hna, hya⟩ := hq26
                            have hF : ∀ q, ¬ rO y ad q → Mx25 q = M q := fun q hq => (hFa q hq).trans (hF q hq)
                            refine lv_aload_n hx hb dX4_verify_132 rfl (lv_at hl 3 rfl) ?_
                            refine lv_iconst (v := 1) hx hb dX4_verify_133 (by decide) ?_
                            refine lv_iload hx hb dX4_verify_134 (lv_at hl 1 rfl) ?_
                            refine lv_isub hx hb dX4_verify_136 ?_
                            rw [show (1 : Int32) - nI sd = nI (1 - sd) from sub_n (a := 1) rfl rfl (by omega)]
                            refine lv_iload hx hb dX4_verify_137 (lv_at hl 0 rfl) ?_
                            refine lv_aload_n hx hb dX4_verify_139 rfl (lv_at hl 3 rfl) ?_
                            refine hr_get EE hm hRs 20 (by decide) wf_X4_130 (v := .ref (ad 20)) rfl dX4_verify_140 ?_
                            refine lv_bipush (v := 8) hx hb dX4_verify_143 (by decide) ?_
                            refine lv_iload_n hx hb dX4_verify_145 rfl (lv_at hl 2 rfl) ?_
                            refine lv_imul hx hb dX4_verify_146 ?_
                            refine lv_iload hx hb dX4_verify_147 (lv_at hl 0 rfl) ?_
                            refine lv_iadd hx hb dX4_verify_149 ?_
                            refine hr_ald EE hm hRs 20 ((8 * t1) + u) (by decide) (add_n (mul_n rfl rfl) rfl) (by show (8 * t1) + u < 128; omega) (by decide) dX4_verify_150 ?_
                            rw [show Sa 20 (8 * t1 + u) = sSb σ t1 u from by rw [hoa 20 (by decide), ho4 20 (by decide), hO3 20 (by decide) (by decide) (by decide)]; exact hsbk t1 (by omega) u (by omega)]
                            refine hp_cv (hp_runV (C := RX4) (T := TX4) (N := 24) (np := 3) (k := 1) (mc := 0) (ms := 0) (As := [.int (nI (1 - sd)), .int (nI u), .int (sSb σ t1 u)]) (rest := []) EE hm hS (c_X4_half l g Mx25 y ad Sa Vk hRs (1 - sd) u (by omega) (by omega) (sSb σ t1 u)) ms_X4_half wi_X4_half ws_X4_half wl_X4_159 hRs.1 rfl rfl hl.1 rfl (Nat.le_of_ble_eq_true rfl) dX4_verify_151 ⟨Nat.le_of_ble_eq_true rfl, Nat.le_of_ble_eq_true rfl⟩ ⟨(Nat.le_of_ble_eq_true rfl), (Nat.le_of_ble_eq_true rfl)⟩) hS (fun Mx27 H locs hq28 hm hS => ?_)
                            obtain ⟨Sb, hRs, hFb, hob, hnb, hyb⟩ := hq28
                            have hF : ∀ q, ¬ rO y ad q → Mx27 q = M q := fun q hq => (hFb q hq).trans (hF q hq)
                            refine lv_iinc (v := nI (u + 1)) (lv' := [(5, .int (nI (u + 1))), (4, .int (nI sd)), (3, .int (nI t1)), (0, .ref y), (1, .int v0), (2, .int (nI kn))]) hx hb dX4_verify_154 hl (k := 0) rfl (inc_n rfl) (by decide) rfl (fun ls hl => ?_)
                            refine lv_goto (tgt := 110) hx hb dX4_verify_157 (by decide) ?_
                            refine ih2 (u + 1) Mx27 Sb H locs ls (by omega) (by omega) (fun k9 hk9 => by rw [hob k9 hk9, hoa k9 hk9]; exact ho4 k9 hk9) (fun i hi k hk => ?_) (fun i hi k hk => ?_) hRs hF hm hS (lv_sub hl [0, 1, 2, 3, 4, 5] rfl)
                            · by_cases tt : i = u
                              · subst tt; rw [hnb _ (by omega)]; exact hya k hk
                              · rw [hnb _ (by omega), hna _ (by omega)]; exact hp1 i (by omega) k hk
                            · by_cases tt : i = u
                              · subst tt; exact hyb k hk
                              · rw [hnb _ (by omega), hna _ (by omega)]; exact hp2 i (by omega) k hk
                      exact lp2 9 0 M3 S3 H locs ls (by omega) (by omega) (fun _ _ => rfl) (fun i h => absurd h (Nat.not_lt_zero i)) (fun i h => absurd h (Nat.not_lt_zero i)) hRs hF hm hS (lv_sub hl [0, 1, 2, 3, 4, 5] rfl)
                exact lp (sPl σ + 1) (sPl σ) Mx18 S7 H locs ls (by omega) (by omega) hO (fun j hj => foldS_w _ (fun _ _ _ _ => rfl) hEd j hj) hRs hF hm hS (lv_sub hl [0, 1, 2, 3] rfl)
            · have c_51 : ¬ 8 ≤ u := fun h9 => c_51 ((leN (a := 8) (b := u) rfl rfl (by decide) (by omega)).mpr h9)
              refine lv_aload_n hx hb dX4_verify_54 rfl (lv_at hl 1 rfl) ?_
              refine hr_get EE hm hRs 10 (by decide) wf_X4_106 (v := .ref (ad 10)) rfl dX4_verify_55 ?_
              refine lv_iload_n hx hb dX4_verify_58 rfl (lv_at hl 0 rfl) ?_
              refine lv_iconst (v := 0) hx hb dX4_verify_59 (by decide) ?_
              refine hr_ast EE hm hS hRs hF 10 u (by decide) rfl (by show u < 8; omega) (by decide) dX4_verify_60 (fun H locs Mx29 hm hS hRs hF => ?_)
              obtain ⟨Sx30, hSx30⟩ : ∃ zz9, zz9 = sU S1 10 u 0 := ⟨_, rfl⟩
              rw [← hSx30] at hRs
              refine lv_iinc (v := nI (u + 1)) (lv' := [(3, .int (nI (u + 1))), (0, .ref y), (1, .int v0), (2, .int (nI kn))]) hx hb dX4_verify_61 hl (k := 0) rfl (inc_n rfl) (by decide) rfl (fun ls hl => ?_)
              refine lv_goto (tgt := 48) hx hb dX4_verify_64 (by decide) ?_
              refine ih0 (u + 1) Mx29 Sx30 H locs ls (by omega) (by omega) (fun k9 hk9 => by rw [hSx30, sU_o hk9]; exact hz0 k9 hk9) (fun j hj => ?_) hRs hF hm hS (lv_sub hl [0, 1, 2, 3] rfl)
              by_cases tt : j = u
              · subst tt; rw [hSx30, sU_i]
              · rw [hSx30, sU_n (by omega)]; exact hzd j (by omega)
        exact lp0 9 0 Mx7 Sk H locs ls (by omega) (by omega) (fun _ _ => rfl) (fun j h => absurd h (Nat.not_lt_zero j)) hRs hF hm hS (lv_sub hl [0, 1, 2, 3] rfl)
      refine lv_aload_n hx hb dX4_verify_17 rfl (lv_at hl 0 rfl) ?_
      refine hr_get EE hm hRs 21 (by decide) wf_X4_211 (v := .int (V 21)) rfl dX4_verify_18 ?_
      rw [hv21]
      refine lv_if_eq (tgt := 42) hx hb dX4_verify_21 (by decide) (fun c_21 => ?_) (fun c_21 => ?_)
      · have c_21 := bI_f c_21
        have hfit : fitV σ kn = true := by unfold fitV; rw [c_21]; rfl
        exact tl H locs ls hfit hm hS hl
      · have c_21 := bI_t c_21
        obtain ⟨pk, hpk1, hpk2⟩ := hpk.1 c_21
        have hpc : (sPk σ).toNatClampNeg = pk := by rw [hpk2]; exact nI_clamp (by omega)
        have hal := alk_le 16 pk kn
        refine lv_aload_n hx hb dX4_verify_24 rfl (lv_at hl 0 rfl) ?_
        refine hr_get EE hm hRs 22 (by decide) wf_X4_214 (v := .int (V 22)) rfl dX4_verify_25 ?_
        rw [hv22, hpk2]
        refine lv_iload_n hx hb dX4_verify_28 rfl (lv_at hl 2 rfl) ?_
        refine hp_ci (hp_runS (np := 2) (k := 1) (mc := 0) (ms := 0) (As := [.int (nI pk), .int (nI kn)]) (rest := []) EE hm hS (c_X4_bitsAlike l g M pk kn hpk1 hkn) ms_X4_bitsAlike wt_X4_bitsAlike wl_X4_224 rfl hl.1 rfl (Nat.le_of_ble_eq_true rfl) dX4_verify_29 ⟨Nat.le_of_ble_eq_true rfl, Nat.le_of_ble_eq_true rfl⟩ ⟨(Nat.le_of_ble_eq_true rfl), (Nat.le_of_ble_eq_true rfl)⟩) hS (fun r31 Mx32 H locs hq33 hm hS => ?_)
        obtain ⟨rfl, h9⟩ := hq33
        rw [h9] at hm
        refine lv_aload_n hx hb dX4_verify_32 rfl (lv_at hl 0 rfl) ?_
        refine hr_get EE hm hRs 19 (by decide) wf_X4_208 (v := .int (V 19)) rfl dX4_verify_33 ?_
        refine lv_icmp_ge (tgt := 42) hx hb dX4_verify_36 (by decide) (fun c_36 => ?_) (fun c_36 => ?_)
        · have c_36 : (sPl σ) ≤ (alk 16 pk kn) := (leN (a := sPl σ) (b := alk 16 pk kn) hv19 rfl (by omega) (by omega)).mp c_36
          have hfit : fitV σ kn = true := by unfold fitV; rw [c_21, hpc, decide_eq_false (fun q9 => absurd ((nI_ltI (by omega) (by omega)).mp q9) (by omega))]; rfl
          exact tl H locs ls hfit hm hS hl
        · have c_36 : ¬ (sPl σ) ≤ (alk 16 pk kn) := fun h9 => c_36 ((leN (a := sPl σ) (b := alk 16 pk kn) hv19 rfl (by omega) (by omega)).mpr h9)
          have hfit : fitV σ kn = false := by unfold fitV; rw [c_21, hpc, decide_eq_true ((nI_ltI (by omega) (by omega)).mpr (by omega))]; rfl
          refine lv_bipush (v := (-2)) hx hb dX4_verify_39 (by decide) ?_
          exact ret dX4_verify_41 na_i hm hS (Nat.le_of_ble_eq_true rfl) (Nat.le_of_ble_eq_true rfl) (⟨by unfold rVer; rw [c_5, c_12, hcl, hfit]; rfl, RP.rf hw⟩)
    · have c_12 := bI_f c_12
      refine lv_iconst (v := (-1)) hx hb dX4_verify_15 (by decide) ?_
      exact ret dX4_verify_16 na_i hm hS (Nat.le_of_ble_eq_true rfl) (Nat.le_of_ble_eq_true rfl) (⟨by unfold rVer; first | (rw [c_5]; rfl) | (rw [c_5, c_12]; rfl), RP.rf hw⟩)
