theorem xor1 (a : Nat) : a ^^^ 1 = if a % 2 = 1 then a - 1 else a + 1 := by
  apply Nat.eq_of_testBit_eq
  intro i
  rw [Nat.testBit_xor]
  cases i with
  | zero =>
    by_cases h : a % 2 = 1
    · rw [if_pos h, Nat.testBit_zero, Nat.testBit_zero, Nat.testBit_zero, decide_eq_true h, decide_eq_false (p := (a - 1) % 2 = 1) (by omega)]; rfl
    · rw [if_neg h, Nat.testBit_zero, Nat.testBit_zero, Nat.testBit_zero, decide_eq_false h, decide_eq_true (p := (a + 1) % 2 = 1) (by omega)]; rfl
  | succ i =>
    rw [show Nat.testBit 1 (i + 1) = false by rw [Nat.testBit_succ]; exact Nat.zero_testBit i, Bool.xor_false, Nat.testBit_succ, Nat.testBit_succ]
    by_cases h : a % 2 = 1
    · rw [if_pos h, show (a - 1) / 2 = a / 2 by omega]
    · rw [if_neg h, show (a + 1) / 2 = a / 2 by omega]
theorem div_s1 (z s : Nat) : z / 2 ^ (s + 1) = z / 2 ^ s / 2 := by rw [Nat.div_div_eq_div_mul, Nat.pow_succ]
theorem selE_spl (s kn : Nat) (E : En) : spl s (kn.testBit s) (selE (s + 1) (kn / 2 ^ (s + 1)) E) = selE s (kn / 2 ^ s) E := by
  unfold spl selE
  rw [List.filter_filter]
  congr 1
  funext z
  rw [bit_div, bit_div, div_s1, div_s1]
  generalize z.1 / 2 ^ s = a
  generalize kn / 2 ^ s = c
  apply Bool.eq_iff_iff.mpr
  rw [Bool.and_eq_true, beq_iff_eq, beq_iff_eq, beq_iff_eq, decide_eq_decide]
  omega
theorem selE_sib (s kn : Nat) (E : En) : spl s (!(kn.testBit s)) (selE (s + 1) (kn / 2 ^ (s + 1)) E) = selE s ((kn / 2 ^ s) ^^^ 1) E := by
  unfold spl selE
  rw [List.filter_filter]
  congr 1
  funext z
  rw [bit_div, bit_div, div_s1, div_s1, xor1]
  generalize z.1 / 2 ^ s = a
  generalize kn / 2 ^ s = c
  apply Bool.eq_iff_iff.mpr
  rw [Bool.and_eq_true, beq_iff_eq, beq_iff_eq, beq_iff_eq, ← decide_not, decide_eq_decide]
  by_cases h : c % 2 = 1
  · rw [if_pos h]; omega
  · rw [if_neg h]; omega
theorem selE_way {kn : Nat} {E : En} (hk : kn < 65536) (hE : ∀ x ∈ E, x.1 < 65536) : ∀ b, b ≤ 16 → selE (16 - b) (kn / 2 ^ (16 - b)) E = way kn E b := by
  intro b
  induction b with
  | zero =>
    intro _
    show selE 16 (kn / 2 ^ 16) E = E
    unfold selE
    exact List.filter_eq_self.mpr (fun z hz => by rw [Nat.div_eq_of_lt (hE z hz), Nat.div_eq_of_lt hk]; rfl)
  | succ b ih =>
    intro hb
    show _ = spl (15 - b) (kn.testBit (15 - b)) (way kn E b)
    rw [← ih (by omega), show 16 - b = 15 - b + 1 by omega, selE_spl, show 16 - (b + 1) = 15 - b by omega]
theorem selE_sb {kn : Nat} {E : En} (hk : kn < 65536) (hE : ∀ x ∈ E, x.1 < 65536) {b : Nat} (hb : b < 16) : dgF (16 - (b + 1)) (selE (16 - (b + 1)) ((kn / 2 ^ (16 - (b + 1))) ^^^ 1) E) = sibV kn E b := by
  unfold sibV
  rw [← selE_way hk hE b (by omega), show 16 - b = 15 - b + 1 by omega, selE_sib, show 16 - (b + 1) = 15 - b by omega]
theorem way_len {kn : Nat} {E : En} : ∀ b, (way kn E b).length ≤ E.length
  | 0 => Nat.le_refl _
  | b + 1 => Nat.le_trans (List.length_filter_le _ _) (way_len b)
theorem way_mem {kn : Nat} {E : En} {x : Nat × Int32} : ∀ b, x ∈ way kn E b → x ∈ E
  | 0, h => h
  | b + 1, h => way_mem b (spl_mem.mp h).1
theorem way_16 {kn : Nat} {E : En} (hk : kn < 65536) (hg : gE E) : (way kn E 16).length ≤ 1 := by
  rw [← selE_way hk hg.2.2 16 (Nat.le_refl _)]
  show (selE 0 (kn / 2 ^ 0) E).length ≤ 1
  have hp : pre 0 kn (selE 0 (kn / 2 ^ 0) E) := fun x hx => by
    have := (List.mem_filter.mp hx).2
    rw [beq_iff_eq] at this
    simpa using this
  rcases pre_0 hp (List.Pairwise.filter _ hg.1) with h | ⟨v, h⟩ <;> rw [h] <;> simp
set_option maxHeartbeats 4000000 in
set_option maxRecDepth 100000 in
theorem c_X4_prove (l : Launch) (g : hG) (M : hM) (y : Nat) (ad : Nat → Nat) (S : Nat → Nat → Int32) (V : Nat → Int32) (σ : cSt) (hw : RW g M y ad S V σ) (v0 k0 : Int32) : Ci l g yX4_prove cX4_prove 4 .int 8 0 0 [.ref y, .int v0, .int k0] M (fun r M9 => r = (sProve σ v0 k0).1 ∧ RP g M y ad M9 (sProve σ v0 k0).2) := by
  obtain ⟨hRs, ⟨hkc, hvg, hgn, hpl, hpk⟩, hk0, hk1, hv6, hrows, hnow, hdv, ⟨kw, hv7, hdn⟩, hv19, hv21, hv22, hv23, hsb⟩ := id hw
  refine hp_startI (by decide) (by exact Nat.le_of_ble_eq_true rfl) ?_
  intro p e s m below meth c Q H locs ls EE hnm ret hm hS hl
  have hx := EE.1
  have hb := EE.2.1
  have hown := EE.2.2.2.1
  have hts := EE.2.2.2.2.1
  have hl : lv_has ls 4 [(0, .ref y), (1, .int v0), (2, .int k0)] := hl
  have hF : ∀ q, ¬ rO y ad q → M q = M q := fun _ _ => rfl
  refine lv_aload_n hx hb dX4_prove_0 rfl (lv_at hl 0 rfl) ?_
  refine lv_iload_n hx hb dX4_prove_1 rfl (lv_at hl 1 rfl) ?_
  refine hp_ci (hp_runV (C := RX4) (T := TX4) (N := 24) (np := 1) (k := 1) (mc := 0) (ms := 0) (As := [.int v0]) (rest := []) EE hm hS (c_X4_isVersion l g M y ad S V σ hw v0) ms_X4_isVersion wi_X4_isVersion ws_X4_isVersion wl_X4_193 hRs.1 rfl rfl hl.1 rfl (Nat.le_of_ble_eq_true rfl) dX4_prove_2 ⟨Nat.le_of_ble_eq_true rfl, Nat.le_of_ble_eq_true rfl⟩ ⟨(Nat.le_of_ble_eq_true rfl), (Nat.le_of_ble_eq_true rfl)⟩) hS (fun r1 Mx2 H locs hq3 hm hS => ?_)
  obtain ⟨rfl, h9⟩ := hq3
  rw [h9] at hm
  refine lv_if_eq (tgt := 15) hx hb dX4_prove_5 (by decide) (fun c_5 => ?_) (fun c_5 => ?_)
  · have c_5 := bI_f c_5
    refine lv_iconst (v := (-1)) hx hb dX4_prove_15 (by decide) ?_
    exact ret dX4_prove_16 na_i hm hS (Nat.le_of_ble_eq_true rfl) (Nat.le_of_ble_eq_true rfl) (⟨by unfold sProve; first | (rw [c_5]; rfl) | (rw [c_5, c_12]; rfl), by unfold sProve; first | (rw [c_5]; exact RP.rf hw) | (rw [c_5, c_12]; exact RP.rf hw)⟩)
  · have c_5 := bI_t c_5
    refine lv_iload_n hx hb dX4_prove_8 rfl (lv_at hl 2 rfl) ?_
    refine hp_ci (hp_runS (np := 1) (k := 1) (mc := 0) (ms := 0) (As := [.int k0]) (rest := []) EE hm hS (c_X4_isKey l g M k0) ms_X4_isKey wt_X4_isKey wl_X4_182 rfl hl.1 rfl (Nat.le_of_ble_eq_true rfl) dX4_prove_9 ⟨Nat.le_of_ble_eq_true rfl, Nat.le_of_ble_eq_true rfl⟩ ⟨(Nat.le_of_ble_eq_true rfl), (Nat.le_of_ble_eq_true rfl)⟩) hS (fun r4 Mx5 H locs hq6 hm hS => ?_)
    obtain ⟨rfl, h9⟩ := hq6
    rw [h9] at hm
    refine lv_if_ne (tgt := 17) hx hb dX4_prove_12 (by decide) (fun c_12 => ?_) (fun c_12 => ?_)
    · have c_12 := bI_t c_12
      obtain ⟨kn, hkn, hke⟩ := isK_nat c_12
      have hcl : k0.toNatClampNeg = kn := by rw [hke]; exact nI_clamp (by omega)
      have hl : lv_has ls 4 [(0, .ref y), (1, .int v0), (2, .int (nI kn))] := by rw [← hke]; exact hl
      obtain ⟨r0, hr0, hro, hrc⟩ := rowO_nat hkc c_5
      have hrow := row_of hw hrc
      obtain ⟨E, hE⟩ : ∃ E, E = mapV σ v0 := ⟨_, rfl⟩
      rw [← hE] at hrow hrc
      have hg : gE E := by
        rcases hrc with ⟨-, t⟩ | ⟨t1, t⟩
        · rw [t]; exact hgn
        · rw [t]; exact hvg r0 t1
      have hgl := hg.2.1
      have hsp : sProve σ v0 k0 = (nI (prN 16 kn E), (sNow σ, sKc σ, sVs σ, prN 16 kn E, endPe (endE 16 kn E), endPk (endE 16 kn E), vaE (endE 16 kn E), sibV kn E)) := by unfold sProve; rw [c_5, c_12, hcl, hE]; exact if_pos rfl
      refine lv_aload_n hx hb dX4_prove_17 rfl (lv_at hl 0 rfl) ?_
      refine lv_iload_n hx hb dX4_prove_18 rfl (lv_at hl 1 rfl) ?_
      refine hp_ci (hp_runS (np := 1) (k := 1) (mc := 0) (ms := 0) (As := [.int v0]) (rest := [.ref y]) EE hm hS (c_X4_rowOf l g M v0) ms_X4_rowOf wt_X4_rowOf wl_X4_198 rfl hl.1 rfl (Nat.le_of_ble_eq_true rfl) dX4_prove_19 ⟨Nat.le_of_ble_eq_true rfl, Nat.le_of_ble_eq_true rfl⟩ ⟨(Nat.le_of_ble_eq_true rfl), (Nat.le_of_ble_eq_true rfl)⟩) hS (fun r7 Mx8 H locs hq9 hm hS => ?_)
      obtain ⟨rfl, h9⟩ := hq9
      rw [h9] at hm
      rw [hro]
      refine lv_iload_n hx hb dX4_prove_22 rfl (lv_at hl 2 rfl) ?_
      refine hp_cv (hp_runV (C := RX4) (T := TX4) (N := 24) (np := 2) (k := 6) (mc := 0) (ms := 0) (As := [.int (nI r0), .int (nI kn)]) (rest := []) EE hm hS (c_X4_work l g M y ad S V hRs hk0 hk1 r0 hr0 kn hkn E hg hrow kw hv7) ms_X4_work wi_X4_work ws_X4_work wl_X4_179 hRs.1 rfl rfl hl.1 rfl (Nat.le_of_ble_eq_true rfl) dX4_prove_23 ⟨Nat.le_of_ble_eq_true rfl, Nat.le_of_ble_eq_true rfl⟩ ⟨(Nat.le_of_ble_eq_true rfl), (Nat.le_of_ble_eq_true rfl)⟩) hS (fun Mx10 H locs hq11 hm hS => ?_)
      obtain ⟨Sw, Vw, hRs, hF9, ho9, h59, hd9, hv9, h79, hLE⟩ := hq11
      have hww := hw.wk hv7 hrc hRs ho9 h59 hd9 hv9 h79
      have hF : ∀ q, ¬ rO y ad q → Mx10 q = M q := hF9
      have hroww := row_of hww (v := v0) (by rw [← hE]; exact hrc)
      rw [← hE] at hroww
      refine lv_aload_n hx hb dX4_prove_26 rfl (lv_at hl 0 rfl) ?_
      refine lv_iconst (v := 0) hx hb dX4_prove_27 (by decide) ?_
      refine hr_put EE hm hS hRs hF (ty := .int) (vU Vw 19 0) 19 (by decide) wf_X4_208 rfl (by decide +kernel) rfl rfl rfl dX4_prove_28 (fun H locs Mx12 hm hS hRs hF => ?_)
      obtain ⟨Vx13, hVx13⟩ : ∃ zz9, zz9 = vU Vw 19 0 := ⟨_, rfl⟩
      rw [← hVx13] at hRs
      have lp : ∀ (n b : Nat) (M1 : hM) (S1 : Nat → Nat → Int32) (V1 : Nat → Int32)  (H : Heap) (locs : List Loc) (ls : Array Slot), 17 ≤ b + n → b ≤ 16 → V1 19 = nI b → (∀ k9, k9 ≠ 20 → S1 k9 = Sw k9) → (∀ k9, k9 ≠ 19 → V1 k9 = Vw k9) → (∀ i, i < b → ∀ j, j < 8 → S1 20 (8 * i + j) = sibV kn E i j) → endE (16 - b) kn (way kn E b) = endE 16 kn E → b + prN (16 - b) kn (way kn E b) = prN 16 kn E → RS g M1 y ad S1 V1 → (∀ q, ¬ rO y ad q → M1 q = M q) → hp g M1 H → va_S (hA g) s.heap H locs → lv_has ls 4 [(0, .ref y), (1, .int v0), (2, .int (nI kn))] → W p l e (hR 8 0 0) s m [.ref y, .int v0, .int k0].toArray below meth c H locs 0 0 Q (F0 m 31 ls []) := by
        intro n
        induction n with
        | zero => intro b M1 S1 V1 H locs ls hn hb16 hv9b hoth hvo hsd hen hpn; exact absurd hn (by omega)
        | succ n ih =>
          intro b M1 S1 V1 H locs ls hn hb16 hv9b hoth hvo hsd hen hpn hRs hF hm hS hl
          have hwl := way_len (kn := kn) (E := E) b
          have hS16 : S1 16 b = nI (way kn E b).length := by rw [hoth 16 (by decide), ← selE_way hkn hg.2.2 b hb16]; exact (hLE b hb16).1
          refine lv_aload_n hx hb dX4_prove_31 rfl (lv_at hl 0 rfl) ?_
          refine hr_get EE hm hRs 16 (by decide) wf_X4_121 (v := .ref (ad 16)) rfl dX4_prove_32 ?_
          refine lv_aload_n hx hb dX4_prove_35 rfl (lv_at hl 0 rfl) ?_
          refine hr_get EE hm hRs 19 (by decide) wf_X4_208 (v := .int (V1 19)) rfl dX4_prove_36 ?_
          refine hr_ald EE hm hRs 16 b (by decide) hv9b (by show b < 17; omega) (by decide) dX4_prove_39 ?_
          refine lv_iconst (v := 1) hx hb dX4_prove_40 (by decide) ?_
          refine lv_icmp_le (tgt := 102) hx hb dX4_prove_41 (by decide) (fun c_41 => ?_) (fun c_41 => ?_)
          · have c_41 : ((way kn E b).length) ≤ 1 := (leN (a := (way kn E b).length) (b := 1) hS16 rfl (by omega) (by decide)).mp c_41
            have hpz : prN (16 - b) kn (way kn E b) = 0 := prN_1 c_41
            have hez : endE (16 - b) kn (way kn E b) = way kn E b := endE_1 c_41
            have hdp : prN 16 kn E = b := by omega
            have hEe : endE 16 kn E = way kn E b := by rw [← hen, hez]
            refine lv_aload_n hx hb dX4_prove_102 rfl (lv_at hl 0 rfl) ?_
            refine lv_aload_n hx hb dX4_prove_103 rfl (lv_at hl 0 rfl) ?_
            refine hr_get EE hm hRs 16 (by decide) wf_X4_121 (v := .ref (ad 16)) rfl dX4_prove_104 ?_
            refine lv_aload_n hx hb dX4_prove_107 rfl (lv_at hl 0 rfl) ?_
            refine hr_get EE hm hRs 19 (by decide) wf_X4_208 (v := .int (V1 19)) rfl dX4_prove_108 ?_
            refine hr_ald EE hm hRs 16 b (by decide) hv9b (by show b < 17; omega) (by decide) dX4_prove_111 ?_
            refine lv_iconst (v := 1) hx hb dX4_prove_112 (by decide) ?_
            refine lv_icmp_ne (tgt := 120) hx hb dX4_prove_113 (by decide) (fun c_113 => ?_) (fun c_113 => ?_)
            · have c_113 : ¬ ((way kn E b).length) = 1 := fun h9 => c_113 ((eqN (a := (way kn E b).length) (b := 1) hS16 rfl (by omega) (by decide)).mpr h9)
              have hz : way kn E b = [] := by
                rcases hq9 : way kn E b with _ | ⟨z9, t9⟩
                · rfl
                · rw [hq9] at c_113 c_41
                  cases t9 with
                  | nil => exact absurd rfl c_113
                  | cons z8 t8 => simp at c_41
              refine lv_iconst (v := 0) hx hb dX4_prove_120 (by decide) ?_
              refine hr_put EE hm hS hRs hF (ty := .boolean) (vU V1 21 0) 21 (by decide) wf_X4_211 rfl (by decide +kernel) (by decide) (by decide) rfl dX4_prove_121 (fun H locs Mx14 hm hS hRs hF => ?_)
              obtain ⟨Vx15, hVx15⟩ : ∃ zz9, zz9 = vU V1 21 0 := ⟨_, rfl⟩
              rw [← hVx15] at hRs
              refine lv_aload_n hx hb dX4_prove_124 rfl (lv_at hl 0 rfl) ?_
              refine lv_aload_n hx hb dX4_prove_125 rfl (lv_at hl 0 rfl) ?_
              refine hr_get EE hm hRs 21 (by decide) wf_X4_211 (v := .int 0) (by rw [hVx15]; rfl) dX4_prove_126 ?_
              refine lv_if_eq (tgt := 149) hx hb dX4_prove_129 (by decide) (fun _ => ?_) (fun c_q => absurd rfl c_q)
              refine lv_iconst (v := 0) hx hb dX4_prove_149 (by decide) ?_
              refine hr_put EE hm hS hRs hF (ty := .int) (vU Vx15 22 0) 22 (by decide) wf_X4_214 rfl (by decide +kernel) rfl rfl rfl dX4_prove_150 (fun H locs Mx16 hm hS hRs hF => ?_)
              obtain ⟨Vx17, hVx17⟩ : ∃ zz9, zz9 = vU Vx15 22 0 := ⟨_, rfl⟩
              rw [← hVx17] at hRs
              refine lv_aload_n hx hb dX4_prove_153 rfl (lv_at hl 0 rfl) ?_
              refine lv_aload_n hx hb dX4_prove_154 rfl (lv_at hl 0 rfl) ?_
              refine hr_get EE hm hRs 21 (by decide) wf_X4_211 (v := .int 0) (by rw [hVx17, hVx15]; rfl) dX4_prove_155 ?_
              refine lv_if_eq (tgt := 178) hx hb dX4_prove_158 (by decide) (fun _ => ?_) (fun c_q => absurd rfl c_q)
              refine lv_iconst (v := 0) hx hb dX4_prove_178 (by decide) ?_
              refine hr_put EE hm hS hRs hF (ty := .int) (vU Vx17 23 0) 23 (by decide) wf_X4_217 rfl (by decide +kernel) rfl rfl rfl dX4_prove_179 (fun H locs Mx18 hm hS hRs hF => ?_)
              obtain ⟨Vx19, hVx19⟩ : ∃ zz9, zz9 = vU Vx17 23 0 := ⟨_, rfl⟩
              rw [← hVx19] at hRs
              refine lv_aload_n hx hb dX4_prove_182 rfl (lv_at hl 0 rfl) ?_
              refine hr_get EE hm hRs 19 (by decide) wf_X4_208 (v := .int (Vx19 19)) rfl dX4_prove_183 ?_
              exact ret dX4_prove_186 na_i hm hS (Nat.le_of_ble_eq_true rfl) (Nat.le_of_ble_eq_true rfl) (⟨by rw [hsp, hdp, hVx19, hVx17, hVx15]; exact hv9b, by
                rw [hsp, hdp, hEe, hz]
                exact ⟨S1, Vx19, hww.re hRs (fun k hk => hoth k (by omega)) (by rw [hVx19, hVx17, hVx15]; exact hvo 6 (by decide)) (by rw [hVx19, hVx17, hVx15]; exact hvo 7 (by decide)) (pl := b) (pe := false) (pk := 0) (pv := 0) (sb := sibV kn E) (by rw [hVx19, hVx17, hVx15]; exact hv9b) (by rw [hVx19, hVx17, hVx15]; rfl) (by rw [hVx19, hVx17, hVx15]; rfl) (by rw [hVx19, hVx17, hVx15]; rfl) hb16 ⟨fun q => (by cases q), fun _ => ⟨rfl, rfl⟩⟩ hsd, hF⟩⟩)
            · have c_113 : ((way kn E b).length) = 1 := (eqN (a := (way kn E b).length) (b := 1) hS16 rfl (by omega) (by decide)).mp c_113
              obtain ⟨z, hz⟩ := List.length_eq_one_iff.mp c_113
              obtain ⟨ix, h17, hEx, hix⟩ := (hLE b hb16).2.1 z [] (by rw [selE_way hkn hg.2.2 b hb16]; exact hz)
              have h17b : S1 17 b = nI (300 * r0 + ix) := by rw [hoth 17 (by decide)]; exact h17
              have hzz := hroww.q hEx
              have hzk : z.1 < 65536 := hg.2.2 z (way_mem b (by rw [hz]; exact List.mem_singleton.mpr rfl))
              refine lv_iconst (v := 1) hx hb dX4_prove_116 (by decide) ?_
              refine lv_goto (tgt := 121) hx hb dX4_prove_117 (by decide) ?_
              refine hr_put EE hm hS hRs hF (ty := .boolean) (vU V1 21 1) 21 (by decide) wf_X4_211 rfl (by decide +kernel) (by decide) (by decide) rfl dX4_prove_121 (fun H locs Mx20 hm hS hRs hF => ?_)
              obtain ⟨Vx21, hVx21⟩ : ∃ zz9, zz9 = vU V1 21 1 := ⟨_, rfl⟩
              rw [← hVx21] at hRs
              refine lv_aload_n hx hb dX4_prove_124 rfl (lv_at hl 0 rfl) ?_
              refine lv_aload_n hx hb dX4_prove_125 rfl (lv_at hl 0 rfl) ?_
              refine hr_get EE hm hRs 21 (by decide) wf_X4_211 (v := .int 1) (by rw [hVx21]; rfl) dX4_prove_126 ?_
              refine lv_if_eq (tgt := 149) hx hb dX4_prove_129 (by decide) (fun c_q => absurd c_q (by decide)) (fun _ => ?_)
              refine lv_aload_n hx hb dX4_prove_132 rfl (lv_at hl 0 rfl) ?_
              refine hr_get EE hm hRs 2 (by decide) wf_X4_88 (v := .ref (ad 2)) rfl dX4_prove_133 ?_
              refine lv_aload_n hx hb dX4_prove_136 rfl (lv_at hl 0 rfl) ?_
              refine hr_get EE hm hRs 17 (by decide) wf_X4_124 (v := .ref (ad 17)) rfl dX4_prove_137 ?_
              refine lv_aload_n hx hb dX4_prove_140 rfl (lv_at hl 0 rfl) ?_
              refine hr_get EE hm hRs 19 (by decide) wf_X4_208 (v := .int (Vx21 19)) rfl dX4_prove_141 ?_
              refine hr_ald EE hm hRs 17 b (by decide) (by rw [hVx21]; exact hv9b) (by show b < 17; omega) (by decide) dX4_prove_144 ?_
              refine hr_ald EE hm hRs 2 (300 * r0 + ix) (by decide) h17b (by show 300 * r0 + ix < 18300; omega) (by decide) dX4_prove_145 ?_
              refine lv_goto (tgt := 150) hx hb dX4_prove_146 (by decide) ?_
              refine hr_put EE hm hS hRs hF (ty := .int) (vU Vx21 22 (S1 2 (300 * r0 + ix))) 22 (by decide) wf_X4_214 rfl (by decide +kernel) rfl rfl rfl dX4_prove_150 (fun H locs Mx22 hm hS hRs hF => ?_)
              obtain ⟨Vx23, hVx23⟩ : ∃ zz9, zz9 = vU Vx21 22 (S1 2 (300 * r0 + ix)) := ⟨_, rfl⟩
              rw [← hVx23] at hRs
              refine lv_aload_n hx hb dX4_prove_153 rfl (lv_at hl 0 rfl) ?_
              refine lv_aload_n hx hb dX4_prove_154 rfl (lv_at hl 0 rfl) ?_
              refine hr_get EE hm hRs 21 (by decide) wf_X4_211 (v := .int 1) (by rw [hVx23, hVx21]; rfl) dX4_prove_155 ?_
              refine lv_if_eq (tgt := 178) hx hb dX4_prove_158 (by decide) (fun c_q => absurd c_q (by decide)) (fun _ => ?_)
              refine lv_aload_n hx hb dX4_prove_161 rfl (lv_at hl 0 rfl) ?_
              refine hr_get EE hm hRs 3 (by decide) wf_X4_91 (v := .ref (ad 3)) rfl dX4_prove_162 ?_
              refine lv_aload_n hx hb dX4_prove_165 rfl (lv_at hl 0 rfl) ?_
              refine hr_get EE hm hRs 17 (by decide) wf_X4_124 (v := .ref (ad 17)) rfl dX4_prove_166 ?_
              refine lv_aload_n hx hb dX4_prove_169 rfl (lv_at hl 0 rfl) ?_
              refine hr_get EE hm hRs 19 (by decide) wf_X4_208 (v := .int (Vx23 19)) rfl dX4_prove_170 ?_
              refine hr_ald EE hm hRs 17 b (by decide) (by rw [hVx23, hVx21]; exact hv9b) (by show b < 17; omega) (by decide) dX4_prove_173 ?_
              refine hr_ald EE hm hRs 3 (300 * r0 + ix) (by decide) h17b (by show 300 * r0 + ix < 18300; omega) (by decide) dX4_prove_174 ?_
              refine lv_goto (tgt := 179) hx hb dX4_prove_175 (by decide) ?_
              refine hr_put EE hm hS hRs hF (ty := .int) (vU Vx23 23 (S1 3 (300 * r0 + ix))) 23 (by decide) wf_X4_217 rfl (by decide +kernel) rfl rfl rfl dX4_prove_179 (fun H locs Mx24 hm hS hRs hF => ?_)
              obtain ⟨Vx25, hVx25⟩ : ∃ zz9, zz9 = vU Vx23 23 (S1 3 (300 * r0 + ix)) := ⟨_, rfl⟩
              rw [← hVx25] at hRs
              refine lv_aload_n hx hb dX4_prove_182 rfl (lv_at hl 0 rfl) ?_
              refine hr_get EE hm hRs 19 (by decide) wf_X4_208 (v := .int (Vx25 19)) rfl dX4_prove_183 ?_
              have hzz1 : S1 2 (300 * r0 + ix) = nI z.1 ∧ S1 3 (300 * r0 + ix) = z.2 := by rw [hoth 2 (by decide), hoth 3 (by decide)]; exact hzz
              exact ret dX4_prove_186 na_i hm hS (Nat.le_of_ble_eq_true rfl) (Nat.le_of_ble_eq_true rfl) (⟨by rw [hsp, hdp, hVx25, hVx23, hVx21]; exact hv9b, by
                rw [hsp, hdp, hEe, hz]
                exact ⟨S1, Vx25, hww.re hRs (fun k hk => hoth k (by omega)) (by rw [hVx25, hVx23, hVx21]; exact hvo 6 (by decide)) (by rw [hVx25, hVx23, hVx21]; exact hvo 7 (by decide)) (pl := b) (pe := true) (pk := nI z.1) (pv := z.2) (sb := sibV kn E) (by rw [hVx25, hVx23, hVx21]; exact hv9b) (by rw [hVx25, hVx23, hVx21]; rfl) (by rw [hVx25, hVx23, hVx21]; exact hzz1.1) (by rw [hVx25, hVx23, hVx21]; exact hzz1.2) hb16 ⟨fun _ => ⟨z.1, hzk, rfl⟩, fun q => (by cases q)⟩ hsd, hF⟩⟩)
          · have c_41 : ¬ ((way kn E b).length) ≤ 1 := fun h9 => c_41 ((leN (a := (way kn E b).length) (b := 1) hS16 rfl (by omega) (by decide)).mpr h9)
            have hb15 : b < 16 := by
              rcases Nat.lt_or_ge b 16 with q | q
              · exact q
              · rw [show b = 16 by omega] at c_41; exact absurd (way_16 hkn hg) c_41
            refine lv_aload_n hx hb dX4_prove_44 rfl (lv_at hl 0 rfl) ?_
            refine lv_dup hx hb dX4_prove_45 rfl ?_
            refine hr_get EE hm hRs 19 (by decide) wf_X4_208 (v := .int (V1 19)) rfl dX4_prove_46 ?_
            refine lv_iconst (v := 1) hx hb dX4_prove_49 (by decide) ?_
            refine lv_iadd hx hb dX4_prove_50 ?_
            refine hr_put EE hm hS hRs hF (ty := .int) (vU V1 19 ((V1 19) + 1)) 19 (by decide) wf_X4_208 rfl (by decide +kernel) rfl rfl rfl dX4_prove_51 (fun H locs Mx26 hm hS hRs hF => ?_)
            obtain ⟨Vx27, hVx27⟩ : ∃ zz9, zz9 = vU V1 19 ((V1 19) + 1) := ⟨_, rfl⟩
            rw [← hVx27] at hRs
            refine lv_iconst (v := 0) hx hb dX4_prove_54 (by decide) ?_
            refine lv_istore_n (lv' := [(3, .int 0), (0, .ref y), (1, .int v0), (2, .int (nI kn))]) hx hb dX4_prove_55 rfl hl (by decide) rfl (fun ls hl => ?_)
            have lp2 : ∀ (n u : Nat) (M2 : hM) (S2 : Nat → Nat → Int32)   (H : Heap) (locs : List Loc) (ls : Array Slot), 9 ≤ u + n → u ≤ 8 → (∀ k9, k9 ≠ 20 → S2 k9 = S1 k9) → (∀ i, i < b → ∀ j, j < 8 → S2 20 (8 * i + j) = sibV kn E i j) → (∀ j, j < u → S2 20 (8 * b + j) = sibV kn E b j) → RS g M2 y ad S2 Vx27 → (∀ q, ¬ rO y ad q → M2 q = M q) → hp g M2 H → va_S (hA g) s.heap H locs → lv_has ls 4 [(3, .int (nI u)), (0, .ref y), (1, .int v0), (2, .int (nI kn))] → W p l e (hR 8 0 0) s m [.ref y, .int v0, .int k0].toArray below meth c H locs 0 0 Q (F0 m 56 ls []) := by
              intro n
              induction n with
              | zero => intro u M2 S2 H locs ls hn2 hu ho2 hlo2 hd2; exact absurd hn2 (by omega)
              | succ n ih2 =>
                intro u M2 S2 H locs ls hn2 hu ho2 hlo2 hd2 hRs hF hm hS hl
                refine lv_iload_n hx hb dX4_prove_56 rfl (lv_at hl 0 rfl) ?_
                refine lv_bipush (v := 8) hx hb dX4_prove_57 (by decide) ?_
                refine lv_icmp_ge (tgt := 99) hx hb dX4_prove_59 (by decide) (fun c_59 => ?_) (fun c_59 => ?_)
                · have c_59 : 8 ≤ u := (leN (a := 8) (b := u) rfl rfl (by decide) (by omega)).mp c_59
                  refine lv_goto (tgt := 31) hx hb dX4_prove_99 (by decide) ?_
                  refine ih (b + 1) M2 S2 Vx27 H locs ls (by omega) (by omega) (by rw [hVx27, vU_s]; exact add_n hv9b rfl) (fun k9 h9 => by rw [ho2 k9 h9]; exact hoth k9 h9) (fun k9 h9 => by rw [hVx27, vU_o h9]; exact hvo k9 h9) (fun i hi j hj => ?_) ?_ ?_ hRs hF hm hS (lv_sub hl [1, 2, 3] rfl)
                  · by_cases tt : i = b
                    · rw [tt]; exact hd2 j (by omega)
                    · exact hlo2 i (by omega) j hj
                  · have h8 := endE_2 (n := 15 - b) (k := kn) (E := way kn E b) c_41
                    rw [show 15 - b + 1 = 16 - b by omega, hen] at h8
                    rw [show 16 - (b + 1) = 15 - b by omega]; exact h8.symm
                  · have h8 := prN_2 (n := 15 - b) (k := kn) (E := way kn E b) c_41
                    rw [show 15 - b + 1 = 16 - b by omega] at h8
                    rw [show 16 - (b + 1) = 15 - b by omega]
                    show b + 1 + prN (15 - b) kn (spl (15 - b) (kn.testBit (15 - b)) (way kn E b)) = _
                    omega
                · have c_59 : ¬ 8 ≤ u := fun h9 => c_59 ((leN (a := 8) (b := u) rfl rfl (by decide) (by omega)).mpr h9)
                  refine lv_aload_n hx hb dX4_prove_62 rfl (lv_at hl 1 rfl) ?_
                  refine hr_get EE hm hRs 20 (by decide) wf_X4_130 (v := .ref (ad 20)) rfl dX4_prove_63 ?_
                  refine lv_bipush (v := 8) hx hb dX4_prove_66 (by decide) ?_
                  refine lv_aload_n hx hb dX4_prove_68 rfl (lv_at hl 1 rfl) ?_
                  refine hr_get EE hm hRs 19 (by decide) wf_X4_208 (v := .int ((V1 19) + 1)) (by rw [hVx27]; rfl) dX4_prove_69 ?_
                  refine lv_imul hx hb dX4_prove_72 ?_
                  refine lv_bipush (v := 8) hx hb dX4_prove_73 (by decide) ?_
                  refine lv_isub hx hb dX4_prove_75 ?_
                  refine lv_iload_n hx hb dX4_prove_76 rfl (lv_at hl 0 rfl) ?_
                  refine lv_iadd hx hb dX4_prove_77 ?_
                  refine lv_aload_n hx hb dX4_prove_78 rfl (lv_at hl 1 rfl) ?_
                  refine hr_get EE hm hRs 18 (by decide) wf_X4_127 (v := .ref (ad 18)) rfl dX4_prove_79 ?_
                  refine lv_bipush (v := 8) hx hb dX4_prove_82 (by decide) ?_
                  refine lv_aload_n hx hb dX4_prove_84 rfl (lv_at hl 1 rfl) ?_
                  refine hr_get EE hm hRs 19 (by decide) wf_X4_208 (v := .int ((V1 19) + 1)) (by rw [hVx27]; rfl) dX4_prove_85 ?_
                  refine lv_imul hx hb dX4_prove_88 ?_
                  refine lv_iload_n hx hb dX4_prove_89 rfl (lv_at hl 0 rfl) ?_
                  refine lv_iadd hx hb dX4_prove_90 ?_
                  refine hr_ald EE hm hRs 18 ((8 * (b + 1)) + u) (by decide) (add_n (mul_n rfl (add_n hv9b rfl)) rfl) (by show (8 * (b + 1)) + u < 136; omega) (by decide) dX4_prove_91 ?_
                  refine hr_ast EE hm hS hRs hF 20 (((8 * (b + 1)) - 8) + u) (by decide) (add_n (sub_n (mul_n rfl (add_n hv9b rfl)) rfl (by omega)) rfl) (by show ((8 * (b + 1)) - 8) + u < 128; omega) (by decide) dX4_prove_92 (fun H locs Mx28 hm hS hRs hF => ?_)
                  obtain ⟨Sx29, hSx29⟩ : ∃ zz9, zz9 = sU S2 20 (((8 * (b + 1)) - 8) + u) (S2 18 ((8 * (b + 1)) + u)) := ⟨_, rfl⟩
                  rw [← hSx29] at hRs
                  refine lv_iinc (v := nI (u + 1)) (lv' := [(3, .int (nI (u + 1))), (0, .ref y), (1, .int v0), (2, .int (nI kn))]) hx hb dX4_prove_93 hl (k := 0) rfl (inc_n rfl) (by decide) rfl (fun ls hl => ?_)
                  refine lv_goto (tgt := 56) hx hb dX4_prove_96 (by decide) ?_
                  refine ih2 (u + 1) Mx28 Sx29 H locs ls (by omega) (by omega) (fun k9 hk9 => by rw [hSx29, sU_o hk9]; exact ho2 k9 hk9) (fun i hi j hj => by rw [hSx29, sU_n (by omega)]; exact hlo2 i hi j hj) (fun j hj => ?_) hRs hF hm hS (lv_sub hl [0, 1, 2, 3] rfl)
                  by_cases tt : j = u
                  · subst tt; rw [show 8 * b + j = 8 * (b + 1) - 8 + j by omega, hSx29, sU_i, ho2 18 (by decide), hoth 18 (by decide), ← selE_sb hkn hg.2.2 hb15]; exact (hLE (b + 1) (by omega)).2.2 (by omega) j (by omega)
                  · rw [hSx29, sU_n (by omega)]; exact hd2 j (by omega)
            exact lp2 9 0 Mx26 S1 H locs ls (by omega) (by omega) (fun _ _ => rfl) hsd (fun j h => absurd h (Nat.not_lt_zero j)) hRs hF hm hS (lv_sub hl [0, 1, 2, 3] rfl)
      exact lp 17 0 Mx12 Sw Vx13 H locs ls (by omega) (by omega) (by rw [hVx13]; rfl) (fun _ _ => rfl) (fun k9 h9 => by rw [hVx13, vU_o h9]) (fun i hi => absurd hi (Nat.not_lt_zero i)) rfl (Nat.zero_add _) hRs hF hm hS (lv_sub hl [0, 1, 2] rfl)
    · have c_12 := bI_f c_12
      refine lv_iconst (v := (-1)) hx hb dX4_prove_15 (by decide) ?_
      exact ret dX4_prove_16 na_i hm hS (Nat.le_of_ble_eq_true rfl) (Nat.le_of_ble_eq_true rfl) (⟨by unfold sProve; first | (rw [c_5]; rfl) | (rw [c_5, c_12]; rfl), by unfold sProve; first | (rw [c_5]; exact RP.rf hw) | (rw [c_5, c_12]; exact RP.rf hw)⟩)
