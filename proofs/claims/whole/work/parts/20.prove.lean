/-- the node on a key's way, behind i bits -/
def way (k : Nat) (E : En) : Nat → En
  | 0 => E
  | i + 1 => spl (15 - i) (k.testBit (15 - i)) (way k E i)
/-- the siblings of a proof, and how many -/
def sibV (k : Nat) (E : En) (i : Nat) : Nat → Int32 := dgF (15 - i) (spl (15 - i) (!(k.testBit (15 - i))) (way k E i))
def prN : Nat → Nat → En → Nat
  | 0, _, _ => 0
  | n + 1, k, E => if E.length ≤ 1 then 0 else prN n k (spl n (k.testBit n) E) + 1
theorem prN_le : ∀ (n k : Nat) (E : En), prN n k E ≤ n
  | 0, _, _ => Nat.le_refl 0
  | n + 1, k, E => by
    show (if E.length ≤ 1 then 0 else prN n k (spl n (k.testBit n) E) + 1) ≤ n + 1
    have := prN_le n k (spl n (k.testBit n) E)
    by_cases h : E.length ≤ 1
    · rw [if_pos h]; omega
    · rw [if_neg h]; omega
theorem prN_1 {n k : Nat} {E : En} (h : E.length ≤ 1) : prN n k E = 0 := by
  cases n with
  | zero => rfl
  | succ n => show (if E.length ≤ 1 then 0 else _) = 0; rw [if_pos h]
theorem prN_2 {n k : Nat} {E : En} (h : ¬ E.length ≤ 1) : prN (n + 1) k E = prN n k (spl n (k.testBit n) E) + 1 := by
  show (if E.length ≤ 1 then 0 else _) = _
  rw [if_neg h]
def endPe (E : En) : Bool := !E.isEmpty
def endPk (E : En) : Int32 := match E with
  | [] => 0
  | x :: _ => nI x.1
def sProve (σ : cSt) (v k : Int32) : Int32 × cSt := if isV σ v && isK k then (nI (prN 16 k.toNatClampNeg (mapV σ v)), (sNow σ, sKc σ, sVs σ, prN 16 k.toNatClampNeg (mapV σ v), endPe (endE 16 k.toNatClampNeg (mapV σ v)), endPk (endE 16 k.toNatClampNeg (mapV σ v)), vaE (endE 16 k.toNatClampNeg (mapV σ v)), sibV k.toNatClampNeg (mapV σ v))) else (-1, σ)
/-- the digests that a proof makes known -/
def lfB (M : hM) (a : Nat) (b : Bool) : Option Nat := if b then lf M a 4 else lf M a 3
def prU : Nat → hM → Option Nat → Nat → En → Nat
  | 0, _, _, _, _ => 0
  | n + 1, M, r, k, E => if E.length ≤ 1 then 0 else match r with
    | none => 0
    | some a => udT n M (lfB M a (!(k.testBit n))) + prU n M (lfB M a (k.testBit n)) k (spl n (k.testBit n) E)
theorem prU_1 {n k : Nat} {M : hM} {r : Option Nat} {E : En} (h : E.length ≤ 1) : prU n M r k E = 0 := by
  cases n with
  | zero => rfl
  | succ n => show (if E.length ≤ 1 then 0 else _) = 0; rw [if_pos h]
theorem prU_2 {n k a : Nat} {M : hM} {E : En} (h : ¬ E.length ≤ 1) : prU (n + 1) M (some a) k E = udT n M (lfB M a (!(k.testBit n))) + prU n M (lfB M a (k.testBit n)) k (spl n (k.testBit n) E) := by
  show (if E.length ≤ 1 then 0 else _) = _
  rw [if_neg h]
theorem lfB_same {M M9 : hM} {q : Nat} {b : Bool} (h : M9 q = M q) : lfB M9 q b = lfB M q b := by unfold lfB; rw [lf_same h, lf_same h]
theorem lfB_rt {g : hG} {M : hM} {N Z : gT} (hW : WF g M N Z) {a n : Nat} {E : En} (h : rt N (some a) (n + 1) E) (h2 : ¬ E.length ≤ 1) (b : Bool) : rt N (lfB M a b) n (spl n b E) := by
  obtain ⟨n', h1, -, h3⟩ := h
  obtain ⟨ky, vl, z, o, dg, e1, -, -, hc⟩ := hW.1 a n' E h1
  rcases hc with ⟨k, q1, -⟩ | ⟨m, q1, q2, q3, q4, q5⟩
  · rw [q1] at h2; exact absurd (Nat.le_refl 1) h2
  · have hm : m = n := by have := h3 q3; omega
    subst hm
    unfold lfB
    cases b with
    | true => rw [if_pos rfl, lf_4 e1]; exact q5
    | false => rw [if_neg (by decide), lf_3 e1]; exact q4
theorem prU_eq {g : hG} {M M9 : hM} {N Z : gT} (hW : WF g M N Z) (k : Nat) : ∀ (n : Nat) (r : Option Nat) (E : En), rt N r n E → (∀ q, under N n E q → M9 q = M q) → prU n M9 r k E = prU n M r k E := by
  intro n
  induction n with
  | zero => intro r E _ _; rfl
  | succ n ih =>
    intro r E hr hu
    by_cases h : E.length ≤ 1
    · rw [prU_1 h, prU_1 h]
    · cases r with
      | none => rw [show E = [] from hr] at h; exact absurd (Nat.zero_le 1) h
      | some a =>
        have ha : M9 a = M a := by
          obtain ⟨n', h1, -, h3⟩ := hr
          exact hu a ⟨n', E, h1, fun _ hx => hx, fun q => by rw [h3 q]; exact Nat.le_refl _⟩
        rw [prU_2 h, prU_2 h, lfB_same ha, lfB_same ha]
        have hs : ∀ b q, under N n (spl n b E) q → M9 q = M q := fun b q hq => hu q (hq.up (fun x hx => (spl_mem.mp hx).1) (Nat.le_succ n))
        rw [udT_eq hW n _ _ (lfB_rt hW hr h _) (hs _), ih _ _ (lfB_rt hW hr h _) (hs _)]
def uProve (M : hM) (kf : Nat → Option Nat) (nw : Option Nat) (σ : cSt) (v k : Int32) : Nat := if isV σ v && isK k then prU 16 M (rootR kf nw v) k.toNatClampNeg (mapV σ v) else 0
def setSb (σ : cSt) (sb : Nat → Nat → Int32) : cSt := (sNow σ, sKc σ, sVs σ, sPl σ, sPe σ, sPk σ, sPv σ, sb)
section CXE
variable {g : hG} {M M9 : hM} {N Z Z9 : gT} {x kp pf bs h nm ms sc sa fo : Nat} {br : Nat → Nat} {kf : Nat → Option Nat} {nw : Option Nat} {fm fs fa ff : Nat → Int32} {rv : Nat → Nat → Int32} {σ : cSt}
/-- a row of the proof is written, by its place; the state tells the rows as they are -/
theorem CX.row (hC : CX g M N Z x kp pf bs h nm ms sc sa fo br kf nw fm fs fa ff rv (setSb σ rv)) {i : Nat} (hi : i < 16) {f1 : Nat → Int32} (e : M9 (br i) = some (aI g 8 f1)) (hf : ∀ q, q ≠ br i → M9 q = M q) : CX g M9 N Z x kp pf bs h nm ms sc sa fo br kf nw fm fs fa ff (fun i1 => if i1 = i then f1 else rv i1) (setSb σ (fun i1 => if i1 = i then f1 else rv i1)) ∧ CR M N Z x kp pf ms sc sa fo br M9 Z 0 := by
  obtain ⟨hW, hH, e_x, e_kp, e_pf, e_bs, e_br, e_fo, hDA, hZn, hok, hvs, hnw, -⟩ := hC
  have hH0 := hH
  obtain ⟨q1, q2, q3, q4, ⟨fn, q5, q6⟩, q7⟩ := hH0
  have eb := e_br i hi
  have hd := hDA.2.2.2.2.1 i hi
  refine ⟨⟨hW.chg hf (N_arr hW eb) (hZn _ (Or.inr (Or.inr (Or.inr (Or.inr (Or.inr ⟨i, hi, rfl⟩)))))), hH.chg hf (ne_lk q1 eb (by simp)) (Ne.symm hd.1) (Ne.symm hd.2.1) (Ne.symm hd.2.2.1) (Ne.symm hd.2.2.2.1), (hf x (ne_lk e_x eb (by simp))).trans e_x, (hf kp (ne_lk e_kp eb ne_NI)).trans e_kp, (hf pf (ne_lk e_pf eb (by simp))).trans e_pf, (hf bs (ne_lk e_bs eb ne_RI)).trans e_bs, fun i1 hi1 => ?_, (hf fo (Ne.symm hd.2.2.2.2)).trans e_fo, hDA, hZn, hok, hvs, hnw, fun _ _ _ _ => rfl⟩, fun q e9 h9 hn => ⟨?_, hn⟩, fun c hc => ⟨c, hc.chg (und_arr e) hf, Nat.le_refl _⟩⟩
  · show M9 (br i1) = some (aI g 8 (if i1 = i then f1 else rv i1))
    by_cases t : i1 = i
    · rw [t, if_pos rfl]; exact e
    · rw [if_neg t, hf _ (fun z => t (hDA.2.2.2.2.2 i1 i hi1 hi z))]
      exact e_br i1 hi1
  · rw [hf q (fun t => hn (Or.inr (Or.inr (Or.inr (Or.inr (Or.inr (Or.inr (Or.inr (Or.inr ⟨i, hi, t⟩)))))))))]
    exact h9
theorem CX.rows (hC : CX g M N Z x kp pf bs h nm ms sc sa fo br kf nw fm fs fa ff rv σ) : CX g M N Z x kp pf bs h nm ms sc sa fo br kf nw fm fs fa ff rv (setSb σ rv) := by
  obtain ⟨hW, hH, e_x, e_kp, e_pf, e_bs, e_br, e_fo, hDA, hZn, hok, hvs, hnw, hsb⟩ := hC
  exact ⟨hW, hH, e_x, e_kp, e_pf, e_bs, e_br, e_fo, hDA, hZn, hok, hvs, hnw, fun _ _ _ _ => rfl⟩
/-- behind CR the world of a call -/
theorem CRtP {M1 : hM} {Z1 : gT} {u u2 k : Nat} {σ9 : cSt} (hR : CR M N Z x kp pf ms sc sa fo br M1 Z1 u) (hP : CP g M1 N Z1 x kp pf bs h nm ms sc sa fo br k u2 M9 σ9) : CP g M N Z x kp pf bs h nm ms sc sa fo br k (u + u2) M9 σ9 := by
  obtain ⟨N9, Z9, kf9, nw9, fm9, fs9, fa9, ff9, rv9, hC9, hF, hc⟩ := hP
  refine ⟨N9, Z9, kf9, nw9, fm9, fs9, fa9, ff9, rv9, hC9, fun q e he hn => hF q e (hR.1 q e he hn).1 (hR.1 q e he hn).2, fun c h0 => ?_⟩
  obtain ⟨c1, p1, e1⟩ := hR.2 c h0
  obtain ⟨c9, p9, e9⟩ := hc c1 p1
  exact ⟨c9, p9, by omega⟩
end CXE
set_option maxHeartbeats 4000000 in
set_option maxRecDepth 100000 in
theorem c_X3_half2 (l : Launch) (g : hG) (M : hM) (N Z : gT) (hW : WF g M N Z) (a n d : Nat) (b : Bool) (E : En) (hr : rt N (some a) (n + 1) E) (h2 : ¬ E.length ≤ 1) : Cq l g yX3_half cX3_half 3 ((.object "ProofMap$Node")) 2 0 0 [.ref a, .int (nI d), .int (bI b)] M (fun r M9 => r = lfB M a b ∧ M9 = M) := by
  have hr0 := hr
  obtain ⟨n0, hN, hne, hn2⟩ := hr
  obtain ⟨ky, vl, z, o, dg, e_a, hdg, hlen, hcase⟩ := hW.1 a n0 E hN
  have hrt := lfB_rt hW hr0 h2 b
  refine hp_startQ (by decide) (by exact Nat.le_of_ble_eq_true rfl) (by first | exact Or.inl ⟨_, rfl⟩ | exact Or.inr ⟨_, rfl⟩) ?_
  intro p e s m below meth c Q H locs ls EE hnm ret hm hS hl
  have hx := EE.1
  have hb := EE.2.1
  have hown := EE.2.2.2.1
  have hts := EE.2.2.2.2.1
  have hl : lv_has ls 3 [(0, .ref a), (1, .int (nI d)), (2, .int (bI b))] := hl
  refine lv_aload_n hx hb dX3_half_0 rfl (lv_at hl 0 rfl) ?_
  refine lv_ifnonnull (tgt := 6) hx hb dX3_half_1 (by decide) ?_
  refine lv_aload_n hx hb dX3_half_6 rfl (lv_at hl 0 rfl) ?_
  refine hp_get (C := RX1) (T := TX1) (N := 6) (v := .int (nI E.length)) EE hm e_a inh1 rfl 0 (by decide) wf_X3_132 rfl dX3_half_7 ?_
  refine lv_iconst (v := 1) hx hb dX3_half_10 (by decide) ?_
  refine lv_icmp_ne (tgt := 32) hx hb dX3_half_11 (by decide) (fun c_11 => ?_) (fun c_11 => ?_)
  · have c_11 : ¬ E.length = 1 := fun h9 => c_11 ((nI_eq (a := E.length) (b := 1) (by omega) (by decide)).mpr h9)
    refine lv_iload_n hx hb dX3_half_32 rfl (lv_at hl 2 rfl) ?_
    refine lv_if_ne (tgt := 43) hx hb dX3_half_33 (by decide) (fun c_33 => ?_) (fun c_33 => ?_)
    · have c_33 := bI_t c_33
      refine lv_aload_n hx hb dX3_half_43 rfl (lv_at hl 0 rfl) ?_
      refine hp_get (C := RX1) (T := TX1) (N := 6) (v := va_rf o) EE hm e_a inh1 rfl 4 (by decide) wf_X3_138 rfl dX3_half_44 ?_
      exact ret (v := o) dX3_half_47 hm hS (Nat.le_of_ble_eq_true rfl) (Nat.le_of_ble_eq_true rfl) (⟨by unfold lfB; cases b with
        | false => exact absurd c_33 (by decide)
        | true => rw [if_pos rfl, lf_4 e_a], rfl⟩)
    · have c_33 := bI_f c_33
      refine lv_aload_n hx hb dX3_half_36 rfl (lv_at hl 0 rfl) ?_
      refine hp_get (C := RX1) (T := TX1) (N := 6) (v := va_rf z) EE hm e_a inh1 rfl 3 (by decide) wf_X3_135 rfl dX3_half_37 ?_
      refine lv_goto (tgt := 47) hx hb dX3_half_40 (by decide) ?_
      exact ret (v := z) dX3_half_47 hm hS (Nat.le_of_ble_eq_true rfl) (Nat.le_of_ble_eq_true rfl) (⟨by unfold lfB; cases b with
        | false => rw [if_neg (by decide), lf_3 e_a]
        | true => exact absurd c_33 (by decide), rfl⟩)
  · have c_11 : E.length = 1 := (nI_eq (a := E.length) (b := 1) (by omega) (by decide)).mp c_11
    exact absurd c_11 (by omega)
set_option maxHeartbeats 4000000 in
set_option maxRecDepth 100000 in
theorem c_X3_prove (l : Launch) (g : hG) (M : hM) (N Z : gT) (x kp pf bs h nm ms sc sa fo : Nat) (br : Nat → Nat) (kf : Nat → Option Nat) (nw : Option Nat) (fm fs fa ff : Nat → Int32) (rv : Nat → Nat → Int32) (σ : cSt) (hC : CX g M N Z x kp pf bs h nm ms sc sa fo br kf nw fm fs fa ff rv σ) (v0 k0 : Int32) : Ci l g yX3_prove cX3_prove 6 .int 22 (uProve M kf nw σ v0 k0) (8 * (uProve M kf nw σ v0 k0)) [.ref x, .int v0, .int k0] M (fun r M9 => r = (sProve σ v0 k0).1 ∧ CP g M N Z x kp pf bs h nm ms sc sa fo br 0 (uProve M kf nw σ v0 k0) M9 ((sProve σ v0 k0).2)) := by
  have hC0 := hC
  obtain ⟨hW, hH, e_x, e_kp, e_pf, e_bs, e_br, e_fo, hDA, hZn, hok, hvs, hnw, hsb⟩ := hC
  have hok0 := hok
  obtain ⟨hkc, hvg, hgn, hpl, hpk⟩ := hok
  refine hp_startI (by decide) (by exact Nat.le_of_ble_eq_true rfl) ?_
  intro p e s m below meth c Q H locs ls EE hnm ret hm hS hl
  have hx := EE.1
  have hb := EE.2.1
  have hown := EE.2.2.2.1
  have hts := EE.2.2.2.2.1
  have hl : lv_has ls 6 [(0, .ref x), (1, .int v0), (2, .int k0)] := hl
  refine lv_aload_n hx hb dX3_prove_0 rfl (lv_at hl 0 rfl) ?_
  refine lv_iload_n hx hb dX3_prove_1 rfl (lv_at hl 1 rfl) ?_
  refine hp_ci (hp_runV (C := RX3) (T := TX3) (N := 6) (np := 1) (k := 1) (mc := 0) (ms := 0) (As := [.int v0]) (rest := []) EE hm hS (c_X3_isVersion l g M N Z x kp pf bs h nm ms sc sa fo br kf nw fm fs fa ff rv σ hC0 v0) ms_X3_isVersion wi_X3_isVersion ws_X3_isVersion wl_X3_64 e_x rfl rfl hl.1 rfl (Nat.le_of_ble_eq_true rfl) dX3_prove_2 ⟨Nat.le_of_ble_eq_true rfl, Nat.le_of_ble_eq_true rfl⟩ ⟨(by show 0 + 0 ≤ uProve M kf nw σ v0 k0; omega), (by show 0 + 0 ≤ 8 * (uProve M kf nw σ v0 k0); omega)⟩) hS (fun r1 Mx2 H locs hq3 hm hS => ?_)
  obtain ⟨rfl, h9⟩ := hq3
  rw [h9] at hm
  refine lv_if_eq (tgt := 15) hx hb dX3_prove_5 (by decide) (fun c_5 => ?_) (fun c_5 => ?_)
  · have c_5 := bI_f c_5
    refine lv_iconst (v := (-1)) hx hb dX3_prove_15 (by decide) ?_
    exact ret dX3_prove_16 na_i hm hS (by omega) (by omega) (⟨by unfold sProve; first | (rw [c_5]; rfl) | (rw [c_5, c_12]; rfl), by unfold uProve sProve; first | (rw [c_5]; exact CP.rf hC0) | (rw [c_5, c_12]; exact CP.rf hC0)⟩)
  · have c_5 := bI_t c_5
    refine lv_iload_n hx hb dX3_prove_8 rfl (lv_at hl 2 rfl) ?_
    refine hp_ci (hp_runS (np := 1) (k := 1) (mc := 0) (ms := 0) (As := [.int k0]) (rest := []) EE hm hS (c_X3_isKey l g M k0) ms_X3_isKey wt_X3_isKey wl_X3_41 rfl hl.1 rfl (Nat.le_of_ble_eq_true rfl) dX3_prove_9 ⟨Nat.le_of_ble_eq_true rfl, Nat.le_of_ble_eq_true rfl⟩ ⟨(by show 0 + 0 ≤ uProve M kf nw σ v0 k0; omega), (by show 0 + 0 ≤ 8 * (uProve M kf nw σ v0 k0); omega)⟩) hS (fun r4 Mx5 H locs hq6 hm hS => ?_)
    obtain ⟨rfl, h9⟩ := hq6
    rw [h9] at hm
    refine lv_if_ne (tgt := 17) hx hb dX3_prove_12 (by decide) (fun c_12 => ?_) (fun c_12 => ?_)
    · have c_12 := bI_t c_12
      obtain ⟨kn, hkn, hke⟩ := isK_nat c_12
      have hcl : k0.toNatClampNeg = kn := by rw [hke]; exact nI_clamp (by omega)
      have hl : lv_has ls 6 [(0, .ref x), (1, .int v0), (2, .int (nI kn))] := by rw [← hke]; exact hl
      have hut : uProve M kf nw σ v0 k0 = prU 16 M (rootR kf nw v0) kn (mapV σ v0) := by unfold uProve; rw [c_5, c_12, hcl]; exact if_pos rfl
      refine lv_aload_n hx hb dX3_prove_17 rfl (lv_at hl 0 rfl) ?_
      refine lv_iload_n hx hb dX3_prove_18 rfl (lv_at hl 1 rfl) ?_
      refine hp_cq (hp_runV (C := RX3) (T := TX3) (N := 6) (np := 1) (k := 1) (mc := 0) (ms := 0) (As := [.int v0]) (rest := []) EE hm hS (c_X3_rootOf l g M N Z x kp pf bs h nm ms sc sa fo br kf nw fm fs fa ff rv σ hC0 v0) ms_X3_rootOf wi_X3_rootOf ws_X3_rootOf wl_X3_69 e_x rfl rfl hl.1 rfl (Nat.le_of_ble_eq_true rfl) dX3_prove_19 ⟨Nat.le_of_ble_eq_true rfl, Nat.le_of_ble_eq_true rfl⟩ ⟨(by show 0 + 0 ≤ uProve M kf nw σ v0 k0; omega), (by show 0 + 0 ≤ 8 * (uProve M kf nw σ v0 k0); omega)⟩) hS (fun r7 Mx8 H locs hq9 hm hS => ?_)
      obtain ⟨hro, h9⟩ := hq9
      rw [h9] at hm
      have hrt := rootR_rt hkc hvs hnw c_5
      rw [← hro] at hrt
      have hgm := mapV_g ⟨hkc, hvg, hgn, hpl, hpk⟩ c_5
      refine hq_astore_n (lv' := [(3, va_rf r7), (0, .ref x), (1, .int v0), (2, .int (nI kn))]) hx hb dX3_prove_22 rfl hl (by decide) rfl (fun ls hl => ?_)
      refine lv_iconst (v := 0) hx hb dX3_prove_23 (by decide) ?_
      refine lv_istore (lv' := [(4, .int 0), (3, va_rf r7), (0, .ref x), (1, .int v0), (2, .int (nI kn))]) hx hb dX3_prove_24 hl (by decide) (by cases r7 <;> rfl) (fun ls hl => ?_)
      have lp : ∀ (n d : Nat) (nn : Nat) (M1 : hM) (Z1 : gT) (fm1 fs1 fa1 : Nat → Int32) (rv1 : Nat → Nat → Int32) (r1 : Option Nat) (E1 : En) (H : Heap) (locs : List Loc) (ls : Array Slot), 17 ≤ d + n → d + nn = 16 → CX g M1 N Z1 x kp pf bs h nm ms sc sa fo br kf nw fm1 fs1 fa1 ff rv1 (setSb σ rv1) → rt N r1 nn E1 → prU nn M1 r1 kn E1 ≤ uProve M kf nw σ v0 k0 → CR M N Z x kp pf ms sc sa fo br M1 Z1 (uProve M kf nw σ v0 k0 - prU nn M1 r1 kn E1) → E1 = way kn (mapV σ v0) d → (∀ i, i < d → ∀ j, j < 8 → rv1 i j = sibV kn (mapV σ v0) i j) → endE nn kn E1 = endE 16 kn (mapV σ v0) → d + prN nn kn E1 = prN 16 kn (mapV σ v0) → hp g M1 H → va_S (hA g) s.heap H locs → lv_has ls 6 [(4, .int (nI d)), (3, va_rf r1), (0, .ref x), (1, .int v0), (2, .int (nI kn))] → W p l e (hR 22 (uProve M kf nw σ v0 k0) (8 * (uProve M kf nw σ v0 k0))) s m [.ref x, .int v0, .int k0].toArray below meth c H locs (uProve M kf nw σ v0 k0 - prU nn M1 r1 kn E1) (8 * (uProve M kf nw σ v0 k0 - prU nn M1 r1 kn E1)) Q (F0 m 26 ls []) := by
        intro n
        induction n with
        | zero => intro d nn M1 Z1 fm1 fs1 fa1 rv1 r1 E1 H locs ls hn hd hC1 hr1 hpu hR1 hwy hrow hen hpn; exact absurd hn (by omega)
        | succ n ih =>
          intro d nn M1 Z1 fm1 fs1 fa1 rv1 r1 E1 H locs ls hn hd hC1 hr1 hpu hR1 hwy hrow hen hpn hm hS hl
          obtain ⟨hW1, hH1, e_x, e_kp, e_pf, e_bs, e_br, e_fo, -, hZn1, -, hvs1, hnw1, -⟩ := id hC1
          have hlen := rt_len hW1 hr1
          refine lv_iload hx hb dX3_prove_26 (lv_at hl 0 rfl) ?_
          refine lv_bipush (v := 16) hx hb dX3_prove_28 (by decide) ?_
          refine lv_icmp_ge (tgt := 98) hx hb dX3_prove_30 (by decide) (fun c_30 => ?_) (fun c_30 => ?_)
          · have c_30 : 16 ≤ d := (nI_leI (a := 16) (b := d) (by decide) (by omega)).mp c_30
            have hn0 : nn = 0 := by omega
            subst hn0
            have hprz : prU 0 M1 r1 kn E1 = 0 := rfl
            have hpnz : prN 0 kn E1 = 0 := rfl
            have henz : endE 0 kn E1 = E1 := rfl
            refine W.widen (k := uProve M kf nw σ v0 k0) (n := 8 * (uProve M kf nw σ v0 k0)) (by omega) (by omega) ?_
            have hdp : d = prN 16 kn (mapV σ v0) := by omega
            have hEe : E1 = endE 16 kn (mapV σ v0) := by rw [← hen, henz]
            have hRe : CR M N Z x kp pf ms sc sa fo br M1 Z1 (uProve M kf nw σ v0 k0) := by rw [hprz] at hR1; exact hR1
            refine lv_aload_n hx hb dX3_prove_98 rfl (lv_at hl 2 rfl) ?_
            refine hp_get (C := RX3) (T := TX3) (N := 6) (v := .ref pf) EE hm e_x inh3 rfl 3 (by decide) wf_X3_26 rfl dX3_prove_99 ?_
            refine lv_iload hx hb dX3_prove_102 (lv_at hl 0 rfl) ?_
            have e_pf0 := e_pf
            refine hp_put (C := RX2) (T := TX2) (N := 5) (v := .int (nI d)) (ty := .int) EE hm hS e_pf inh2 tyX2 tyX2_ok nmX2 rfl 1 (by decide) wf_X3_99 rfl (by decide +kernel) rfl rfl (Nat.le_of_ble_eq_true rfl) dX3_prove_104 (fun H locs hm hS => ?_)
            obtain ⟨Mx10, hMx10⟩ : ∃ Mz, Mz = hm_up M1 pf (.inr (2, [.ref bs, .int (nI d), .int (bI (sPe σ)), .int (sPk σ), .int (sPv σ)])) := ⟨_, rfl⟩
            have hm : hp g Mx10 H := by rw [hMx10]; exact hm
            have e_x : Mx10 x = some (.inr (3, [.ref kp, .int (nI (sKc σ)), va_rf nw, .ref pf, .ref h, .ref fo])) := by rw [hMx10]; exact up_at (ne_lk e_x e_pf (by simp)) e_x
            have e_bs : Mx10 bs = some (aR g 16 (fun i => some (br i))) := by rw [hMx10]; exact up_at (ne_lk e_bs e_pf (by simp)) e_bs
            have e_pf : Mx10 pf = some (.inr (2, [.ref bs, .int (nI d), .int (bI (sPe σ)), .int (sPk σ), .int (sPv σ)])) := by rw [hMx10]; exact up_eq
            refine hq_aload_n hx hb dX3_prove_107 rfl (lv_at hl 1 rfl) ?_
            refine hq_ifnonnull (tgt := 121) hx hb dX3_prove_108 (by decide) (fun a hn108 => ?_) (fun hn108 => ?_)
            · subst hn108
              have hl : lv_has ls 6 [(4, .int (nI d)), (3, .ref a), (0, .ref x), (1, .int v0), (2, .int (nI kn))] := hl
              obtain ⟨n0, hN, hne, hn2⟩ := id hr1
              obtain ⟨ky, vl, z, o, dg, e_a, hdg, hlen2, hcase⟩ := hW1.1 a n0 E1 hN
              obtain ⟨k9, hE9, hky, hk9, -, -⟩ : ∃ k9, E1 = [(k9, vl)] ∧ ky = nI k9 ∧ k9 < 65536 ∧ z = none ∧ o = none := by
                rcases hcase with h8 | ⟨n9, h81, -, h8, -⟩
                · exact h8
                · first | (exact absurd (hn2 h8) (by omega)) | omega
              have e_a : Mx10 a = some (.inr (1, [.int (nI E1.length), .int ky, .int vl, va_rf z, va_rf o, va_rf dg])) := by rw [hMx10, up_ne (ne_lk e_a e_pf0 (by simp))]; exact e_a
              refine lv_aload_n hx hb dX3_prove_121 rfl (lv_at hl 2 rfl) ?_
              refine hp_get (C := RX3) (T := TX3) (N := 6) (v := .ref pf) EE hm e_x inh3 rfl 3 (by decide) wf_X3_26 rfl dX3_prove_122 ?_
              refine lv_aload_n hx hb dX3_prove_125 rfl (lv_at hl 1 rfl) ?_
              refine hp_get (C := RX1) (T := TX1) (N := 6) (v := .int ky) EE hm e_a inh1 rfl 1 (by decide) wf_X3_105 rfl dX3_prove_126 ?_
              refine lv_aload_n hx hb dX3_prove_129 rfl (lv_at hl 1 rfl) ?_
              refine hp_get (C := RX1) (T := TX1) (N := 6) (v := .int vl) EE hm e_a inh1 rfl 2 (by decide) wf_X3_73 rfl dX3_prove_130 ?_
              refine hp_cv (hp_runV (C := RX2) (T := TX2) (N := 5) (np := 2) (k := 1) (mc := 0) (ms := 0) (As := [.int ky, .int vl]) (rest := []) EE hm hS (c_X2_endWithEntry l g Mx10 pf bs _ _ _ _ e_pf ky vl) ms_X2_endWithEntry wi_X2_endWithEntry ws_X2_endWithEntry wl_X3_108 e_pf rfl rfl hl.1 rfl (Nat.le_of_ble_eq_true rfl) dX3_prove_133 ⟨Nat.le_of_ble_eq_true rfl, Nat.le_of_ble_eq_true rfl⟩ ⟨(by show uProve M kf nw σ v0 k0 + 0 ≤ uProve M kf nw σ v0 k0; omega), (by show 8 * (uProve M kf nw σ v0 k0) + 0 ≤ 8 * (uProve M kf nw σ v0 k0); omega)⟩) hS (fun Mx11 H locs hq12 hm hS => ?_)
              obtain ⟨e_9, hf9⟩ := hq12
              refine lv_iload hx hb dX3_prove_136 (lv_at hl 0 rfl) ?_
              rw [hky] at e_9
              exact ret dX3_prove_138 na_i hm hS (by omega) (by omega) (⟨by unfold sProve; rw [c_5, c_12, hcl, ← hdp]; rfl, by
                unfold sProve
                rw [c_5, c_12, hcl, if_pos (show (true && true) = true from rfl), ← hdp, ← hEe, hE9]
                exact CRtP hRe (CX.cpf hC1 (pl := d) (pe := true) e_9 (fun q hq => by rw [hf9 q hq, hMx10, up_ne hq]) (by omega) ⟨fun _ => ⟨k9, hk9, rfl⟩, fun q => (by cases q)⟩ hrow)⟩)
            · subst hn108
              have hl : lv_has ls 6 [(4, .int (nI d)), (3, .null), (0, .ref x), (1, .int v0), (2, .int (nI kn))] := hl
              have hE0 : E1 = [] := hr1
              refine lv_aload_n hx hb dX3_prove_111 rfl (lv_at hl 2 rfl) ?_
              refine hp_get (C := RX3) (T := TX3) (N := 6) (v := .ref pf) EE hm e_x inh3 rfl 3 (by decide) wf_X3_26 rfl dX3_prove_112 ?_
              refine hp_cv (hp_runV (C := RX2) (T := TX2) (N := 5) (np := 0) (k := 1) (mc := 0) (ms := 0) (As := ([] : List Value)) (rest := []) EE hm hS (c_X2_endWithNothing l g Mx10 pf bs _ _ _ _ e_pf) ms_X2_endWithNothing wi_X2_endWithNothing ws_X2_endWithNothing wl_X3_102 e_pf rfl rfl hl.1 rfl (Nat.le_of_ble_eq_true rfl) dX3_prove_115 ⟨Nat.le_of_ble_eq_true rfl, Nat.le_of_ble_eq_true rfl⟩ ⟨(by show uProve M kf nw σ v0 k0 + 0 ≤ uProve M kf nw σ v0 k0; omega), (by show 8 * (uProve M kf nw σ v0 k0) + 0 ≤ 8 * (uProve M kf nw σ v0 k0); omega)⟩) hS (fun Mx13 H locs hq14 hm hS => ?_)
              obtain ⟨e_9, hf9⟩ := hq14
              refine lv_goto (tgt := 136) hx hb dX3_prove_118 (by decide) ?_
              refine lv_iload hx hb dX3_prove_136 (lv_at hl 0 rfl) ?_
              exact ret dX3_prove_138 na_i hm hS (by omega) (by omega) (⟨by unfold sProve; rw [c_5, c_12, hcl, ← hdp]; rfl, by
                unfold sProve
                rw [c_5, c_12, hcl, if_pos (show (true && true) = true from rfl), ← hdp, ← hEe, hE0]
                exact CRtP hRe (CX.cpf hC1 (pl := d) (pe := false) e_9 (fun q hq => by rw [hf9 q hq, hMx10, up_ne hq]) (by omega) ⟨fun q => (by cases q), fun _ => ⟨rfl, rfl⟩⟩ hrow)⟩)
          · have c_30 : ¬ 16 ≤ d := fun h9 => c_30 ((nI_leI (a := 16) (b := d) (by decide) (by omega)).mpr h9)
            obtain ⟨n1, hn1⟩ : ∃ n1, nn = n1 + 1 := ⟨nn - 1, by omega⟩
            subst hn1
            refine hq_aload_n hx hb dX3_prove_33 rfl (lv_at hl 1 rfl) ?_
            refine hp_ci (hp_runS (np := 1) (k := 1) (mc := 0) (ms := 0) (As := [va_rf r1]) (rest := []) EE hm hS (c_X3_countOf l g M1 N Z1 hW1 r1 _ E1 hr1) ms_X3_countOf wt_X3_countOf wl_X3_53 rfl hl.1 rfl (Nat.le_of_ble_eq_true rfl) dX3_prove_34 ⟨Nat.le_of_ble_eq_true rfl, Nat.le_of_ble_eq_true rfl⟩ ⟨(by show uProve M kf nw σ v0 k0 - prU (n1 + 1) M1 r1 kn E1 + 0 ≤ uProve M kf nw σ v0 k0; omega), (by show 8 * (uProve M kf nw σ v0 k0 - prU (n1 + 1) M1 r1 kn E1) + 0 ≤ 8 * (uProve M kf nw σ v0 k0); omega)⟩) hS (fun r15 Mx16 H locs hq17 hm hS => ?_)
            obtain ⟨rfl, h9⟩ := hq17
            rw [h9] at hm
            refine lv_iconst (v := 1) hx hb dX3_prove_37 (by decide) ?_
            refine lv_icmp_le (tgt := 98) hx hb dX3_prove_38 (by decide) (fun c_38 => ?_) (fun c_38 => ?_)
            · have c_38 : E1.length ≤ 1 := (nI_leI (a := E1.length) (b := 1) (by omega) (by decide)).mp c_38
              have hprz : prU (n1 + 1) M1 r1 kn E1 = 0 := prU_1 (by omega)
              have hpnz : prN (n1 + 1) kn E1 = 0 := prN_1 (by omega)
              have henz : endE (n1 + 1) kn E1 = E1 := endE_1 (by omega)
              refine W.widen (k := uProve M kf nw σ v0 k0) (n := 8 * (uProve M kf nw σ v0 k0)) (by omega) (by omega) ?_
              have hdp : d = prN 16 kn (mapV σ v0) := by omega
              have hEe : E1 = endE 16 kn (mapV σ v0) := by rw [← hen, henz]
              have hRe : CR M N Z x kp pf ms sc sa fo br M1 Z1 (uProve M kf nw σ v0 k0) := by rw [hprz] at hR1; exact hR1
              refine lv_aload_n hx hb dX3_prove_98 rfl (lv_at hl 2 rfl) ?_
              refine hp_get (C := RX3) (T := TX3) (N := 6) (v := .ref pf) EE hm e_x inh3 rfl 3 (by decide) wf_X3_26 rfl dX3_prove_99 ?_
              refine lv_iload hx hb dX3_prove_102 (lv_at hl 0 rfl) ?_
              have e_pf0 := e_pf
              refine hp_put (C := RX2) (T := TX2) (N := 5) (v := .int (nI d)) (ty := .int) EE hm hS e_pf inh2 tyX2 tyX2_ok nmX2 rfl 1 (by decide) wf_X3_99 rfl (by decide +kernel) rfl rfl (Nat.le_of_ble_eq_true rfl) dX3_prove_104 (fun H locs hm hS => ?_)
              obtain ⟨Mx18, hMx18⟩ : ∃ Mz, Mz = hm_up M1 pf (.inr (2, [.ref bs, .int (nI d), .int (bI (sPe σ)), .int (sPk σ), .int (sPv σ)])) := ⟨_, rfl⟩
              have hm : hp g Mx18 H := by rw [hMx18]; exact hm
              have e_x : Mx18 x = some (.inr (3, [.ref kp, .int (nI (sKc σ)), va_rf nw, .ref pf, .ref h, .ref fo])) := by rw [hMx18]; exact up_at (ne_lk e_x e_pf (by simp)) e_x
              have e_bs : Mx18 bs = some (aR g 16 (fun i => some (br i))) := by rw [hMx18]; exact up_at (ne_lk e_bs e_pf (by simp)) e_bs
              have e_pf : Mx18 pf = some (.inr (2, [.ref bs, .int (nI d), .int (bI (sPe σ)), .int (sPk σ), .int (sPv σ)])) := by rw [hMx18]; exact up_eq
              refine hq_aload_n hx hb dX3_prove_107 rfl (lv_at hl 1 rfl) ?_
              refine hq_ifnonnull (tgt := 121) hx hb dX3_prove_108 (by decide) (fun a hn108 => ?_) (fun hn108 => ?_)
              · subst hn108
                have hl : lv_has ls 6 [(4, .int (nI d)), (3, .ref a), (0, .ref x), (1, .int v0), (2, .int (nI kn))] := hl
                obtain ⟨n0, hN, hne, hn2⟩ := id hr1
                obtain ⟨ky, vl, z, o, dg, e_a, hdg, hlen2, hcase⟩ := hW1.1 a n0 E1 hN
                obtain ⟨k9, hE9, hky, hk9, -, -⟩ : ∃ k9, E1 = [(k9, vl)] ∧ ky = nI k9 ∧ k9 < 65536 ∧ z = none ∧ o = none := by
                  rcases hcase with h8 | ⟨n9, h81, -, h8, -⟩
                  · exact h8
                  · first | (exact absurd (hn2 h8) (by omega)) | omega
                have e_a : Mx18 a = some (.inr (1, [.int (nI E1.length), .int ky, .int vl, va_rf z, va_rf o, va_rf dg])) := by rw [hMx18, up_ne (ne_lk e_a e_pf0 (by simp))]; exact e_a
                refine lv_aload_n hx hb dX3_prove_121 rfl (lv_at hl 2 rfl) ?_
                refine hp_get (C := RX3) (T := TX3) (N := 6) (v := .ref pf) EE hm e_x inh3 rfl 3 (by decide) wf_X3_26 rfl dX3_prove_122 ?_
                refine lv_aload_n hx hb dX3_prove_125 rfl (lv_at hl 1 rfl) ?_
                refine hp_get (C := RX1) (T := TX1) (N := 6) (v := .int ky) EE hm e_a inh1 rfl 1 (by decide) wf_X3_105 rfl dX3_prove_126 ?_
                refine lv_aload_n hx hb dX3_prove_129 rfl (lv_at hl 1 rfl) ?_
                refine hp_get (C := RX1) (T := TX1) (N := 6) (v := .int vl) EE hm e_a inh1 rfl 2 (by decide) wf_X3_73 rfl dX3_prove_130 ?_
                refine hp_cv (hp_runV (C := RX2) (T := TX2) (N := 5) (np := 2) (k := 1) (mc := 0) (ms := 0) (As := [.int ky, .int vl]) (rest := []) EE hm hS (c_X2_endWithEntry l g Mx18 pf bs _ _ _ _ e_pf ky vl) ms_X2_endWithEntry wi_X2_endWithEntry ws_X2_endWithEntry wl_X3_108 e_pf rfl rfl hl.1 rfl (Nat.le_of_ble_eq_true rfl) dX3_prove_133 ⟨Nat.le_of_ble_eq_true rfl, Nat.le_of_ble_eq_true rfl⟩ ⟨(by show uProve M kf nw σ v0 k0 + 0 ≤ uProve M kf nw σ v0 k0; omega), (by show 8 * (uProve M kf nw σ v0 k0) + 0 ≤ 8 * (uProve M kf nw σ v0 k0); omega)⟩) hS (fun Mx19 H locs hq20 hm hS => ?_)
                obtain ⟨e_9, hf9⟩ := hq20
                refine lv_iload hx hb dX3_prove_136 (lv_at hl 0 rfl) ?_
                rw [hky] at e_9
                exact ret dX3_prove_138 na_i hm hS (by omega) (by omega) (⟨by unfold sProve; rw [c_5, c_12, hcl, ← hdp]; rfl, by
                  unfold sProve
                  rw [c_5, c_12, hcl, if_pos (show (true && true) = true from rfl), ← hdp, ← hEe, hE9]
                  exact CRtP hRe (CX.cpf hC1 (pl := d) (pe := true) e_9 (fun q hq => by rw [hf9 q hq, hMx18, up_ne hq]) (by omega) ⟨fun _ => ⟨k9, hk9, rfl⟩, fun q => (by cases q)⟩ hrow)⟩)
              · subst hn108
                have hl : lv_has ls 6 [(4, .int (nI d)), (3, .null), (0, .ref x), (1, .int v0), (2, .int (nI kn))] := hl
                have hE0 : E1 = [] := hr1
                refine lv_aload_n hx hb dX3_prove_111 rfl (lv_at hl 2 rfl) ?_
                refine hp_get (C := RX3) (T := TX3) (N := 6) (v := .ref pf) EE hm e_x inh3 rfl 3 (by decide) wf_X3_26 rfl dX3_prove_112 ?_
                refine hp_cv (hp_runV (C := RX2) (T := TX2) (N := 5) (np := 0) (k := 1) (mc := 0) (ms := 0) (As := ([] : List Value)) (rest := []) EE hm hS (c_X2_endWithNothing l g Mx18 pf bs _ _ _ _ e_pf) ms_X2_endWithNothing wi_X2_endWithNothing ws_X2_endWithNothing wl_X3_102 e_pf rfl rfl hl.1 rfl (Nat.le_of_ble_eq_true rfl) dX3_prove_115 ⟨Nat.le_of_ble_eq_true rfl, Nat.le_of_ble_eq_true rfl⟩ ⟨(by show uProve M kf nw σ v0 k0 + 0 ≤ uProve M kf nw σ v0 k0; omega), (by show 8 * (uProve M kf nw σ v0 k0) + 0 ≤ 8 * (uProve M kf nw σ v0 k0); omega)⟩) hS (fun Mx21 H locs hq22 hm hS => ?_)
                obtain ⟨e_9, hf9⟩ := hq22
                refine lv_goto (tgt := 136) hx hb dX3_prove_118 (by decide) ?_
                refine lv_iload hx hb dX3_prove_136 (lv_at hl 0 rfl) ?_
                exact ret dX3_prove_138 na_i hm hS (by omega) (by omega) (⟨by unfold sProve; rw [c_5, c_12, hcl, ← hdp]; rfl, by
                  unfold sProve
                  rw [c_5, c_12, hcl, if_pos (show (true && true) = true from rfl), ← hdp, ← hEe, hE0]
                  exact CRtP hRe (CX.cpf hC1 (pl := d) (pe := false) e_9 (fun q hq => by rw [hf9 q hq, hMx18, up_ne hq]) (by omega) ⟨fun q => (by cases q), fun _ => ⟨rfl, rfl⟩⟩ hrow)⟩)
            · have c_38 : ¬ E1.length ≤ 1 := fun h9 => c_38 ((nI_leI (a := E1.length) (b := 1) (by omega) (by decide)).mpr h9)
              obtain ⟨a, hra⟩ : ∃ a, r1 = some a := by
                cases r1 with
                | none => rw [show E1 = [] from hr1] at c_38; exact absurd (Nat.zero_le 1) c_38
                | some a => exact ⟨a, rfl⟩
              subst hra
              have hl : lv_has ls 6 [(4, .int (nI d)), (3, .ref a), (0, .ref x), (1, .int v0), (2, .int (nI kn))] := hl
              have hp2 := prU_2 (n := n1) (k := kn) (a := a) (M := M1) (E := E1) c_38
              refine lv_iload_n hx hb dX3_prove_41 rfl (lv_at hl 4 rfl) ?_
              refine lv_iload hx hb dX3_prove_42 (lv_at hl 0 rfl) ?_
              refine hp_ci (hp_runS (np := 2) (k := 1) (mc := 0) (ms := 0) (As := [.int (nI kn), .int (nI d)]) (rest := []) EE hm hS (c_X3_bitAt l g M1 (nI kn) (nI d)) ms_X3_bitAt wt_X3_bitAt wl_X3_83 rfl hl.1 rfl (Nat.le_of_ble_eq_true rfl) dX3_prove_44 ⟨Nat.le_of_ble_eq_true rfl, Nat.le_of_ble_eq_true rfl⟩ ⟨(by show uProve M kf nw σ v0 k0 - prU (n1 + 1) M1 (some a) kn E1 + 0 ≤ uProve M kf nw σ v0 k0; omega), (by show 8 * (uProve M kf nw σ v0 k0 - prU (n1 + 1) M1 (some a) kn E1) + 0 ≤ 8 * (uProve M kf nw σ v0 k0); omega)⟩) hS (fun r23 Mx24 H locs hq25 hm hS => ?_)
              obtain ⟨hr9, h9⟩ := hq25
              rw [h9] at hm
              rw [bitA_n hkn (show d + n1 = 15 by omega)] at hr9
              subst hr9
              refine lv_istore (lv' := [(5, .int (bI (kn.testBit n1))), (4, .int (nI d)), (3, .ref a), (0, .ref x), (1, .int v0), (2, .int (nI kn))]) hx hb dX3_prove_47 hl (by decide) rfl (fun ls hl => ?_)
              refine lv_aload_n hx hb dX3_prove_49 rfl (lv_at hl 2 rfl) ?_
              refine lv_iload hx hb dX3_prove_50 (lv_at hl 1 rfl) ?_
              refine lv_iconst (v := 1) hx hb dX3_prove_52 (by decide) ?_
              refine lv_iload hx hb dX3_prove_53 (lv_at hl 0 rfl) ?_
              refine lv_isub hx hb dX3_prove_55 ?_
              rw [bI_not]
              refine hp_cq (hp_runS (np := 3) (k := 2) (mc := 0) (ms := 0) (As := [.ref a, .int (nI d), .int (bI (!(kn.testBit n1)))]) (rest := []) EE hm hS (c_X3_half2 l g M1 N Z1 hW1 a n1 d (!(kn.testBit n1)) E1 hr1 c_38) ms_X3_half wt_X3_half wl_X3_87 rfl hl.1 rfl (Nat.le_of_ble_eq_true rfl) dX3_prove_56 ⟨Nat.le_of_ble_eq_true rfl, Nat.le_of_ble_eq_true rfl⟩ ⟨(by show uProve M kf nw σ v0 k0 - prU (n1 + 1) M1 (some a) kn E1 + 0 ≤ uProve M kf nw σ v0 k0; omega), (by show 8 * (uProve M kf nw σ v0 k0 - prU (n1 + 1) M1 (some a) kn E1) + 0 ≤ 8 * (uProve M kf nw σ v0 k0); omega)⟩) hS (fun r26 Mx27 H locs hq28 hm hS => ?_)
              obtain ⟨hh9, h9⟩ := hq28
              rw [h9] at hm
              subst hh9
              refine lv_iload hx hb dX3_prove_59 (lv_at hl 1 rfl) ?_
              refine lv_iconst (v := 1) hx hb dX3_prove_61 (by decide) ?_
              refine lv_iadd hx hb dX3_prove_62 ?_
              rw [nI_1 d]
              refine lv_aload_n hx hb dX3_prove_63 rfl (lv_at hl 3 rfl) ?_
              refine hp_get (C := RX3) (T := TX3) (N := 6) (v := .ref h) EE hm e_x inh3 rfl 4 (by decide) wf_X3_33 rfl dX3_prove_64 ?_
              refine hp_cq (hp_runS (np := 3) (k := 5 + n1) (mc := udT n1 M1 (lfB M1 a (!(kn.testBit n1)))) (ms := 8 * (udT n1 M1 (lfB M1 a (!(kn.testBit n1))))) (As := [va_rf (lfB M1 a (!(kn.testBit n1))), .int (nI (d + 1)), .ref h]) (rest := []) EE hm hS (c_X3_digestOf l g N h nm ms sc sa n1 M1 Z1 fm1 fs1 fa1 (lfB M1 a (!(kn.testBit n1))) _ (d + 1) hW1 hH1 (hZn1 ms (Or.inr (Or.inl rfl))) (hZn1 sc (Or.inr (Or.inr (Or.inl rfl)))) (hZn1 sa (Or.inr (Or.inr (Or.inr (Or.inl rfl))))) (lfB_rt hW1 hr1 c_38 _) (by omega)) ms_X3_digestOf wt_X3_digestOf wl_X3_79 rfl hl.1 rfl (Nat.le_of_ble_eq_true rfl) dX3_prove_67 ⟨by show 5 + n1 + 1 ≤ 22; omega, by show 8 + (6 + 11) + 100 * (5 + n1) ≤ 100 * (22); omega⟩ ⟨(by show uProve M kf nw σ v0 k0 - prU (n1 + 1) M1 (some a) kn E1 + udT n1 M1 (lfB M1 a (!(kn.testBit n1))) ≤ uProve M kf nw σ v0 k0; omega), (by show 8 * (uProve M kf nw σ v0 k0 - prU (n1 + 1) M1 (some a) kn E1) + 8 * (udT n1 M1 (lfB M1 a (!(kn.testBit n1)))) ≤ 8 * (uProve M kf nw σ v0 k0); omega)⟩) hS (fun r29 Mx30 H locs hq31 hm hS => ?_)
              obtain ⟨Z2, fm2, fs2, fa2, b2, f2, hb2, hW2, hH2, e_b2, hf2, hbz, hD2⟩ := hq31
              subst hb2
              have hD20 := hD2
              obtain ⟨hC2, hR2⟩ := CX.dg hC1 hW2 hH2 hD2
              obtain ⟨-, -, e_x, e_kp, e_pf, e_bs, e_br, e_fo, hDA2, hZn2, -, hvs2, hnw2, -⟩ := id hC2
              have hna : ¬ under N n1 (spl n1 (!(kn.testBit n1)) E1) a := fun ⟨n8, E8, h81, h82, h83⟩ => by
                obtain ⟨n7, h71, h72, h73⟩ := hr1
                rw [h71] at h81; cases h81
                have h74 := h73 (by omega)
                have h75 := h83 (by omega)
                omega
              have hMa : Mx30 a = M1 a := by
                obtain ⟨n7, h71, h72, h73⟩ := id hr1
                obtain ⟨ky, vl, z, o, dg, q1, -⟩ := hW1.1 a _ _ h71
                rw [q1]
                exact hD20.2.2.1 a _ q1 (nd_ne hW1 h71 hH1.2.1) (nd_ne hW1 h71 hH1.2.2.1) (nd_ne hW1 h71 hH1.2.2.2.1) hna
              have hlfB : lfB Mx30 a (kn.testBit n1) = lfB M1 a (kn.testBit n1) := lfB_same hMa
              have hrB := lfB_rt hW1 hr1 c_38 (kn.testBit n1)
              have hprE : prU n1 Mx30 (lfB M1 a (kn.testBit n1)) kn (spl n1 (kn.testBit n1) E1) = prU n1 M1 (lfB M1 a (kn.testBit n1)) kn (spl n1 (kn.testBit n1) E1) := prU_eq hW1 kn n1 _ _ hrB (fun q8 hq8 => by
                obtain ⟨n8, E8, h81, h82, h83⟩ := hq8
                obtain ⟨ky8, vl8, z8, o8, dg8, h84, -, -, h85⟩ := hW1.1 q8 n8 E8 h81
                have hne8 : E8 ≠ [] := by rcases h85 with ⟨k8, h86, -⟩ | ⟨m8, -, -, h86, -⟩ <;> intro h87 <;> rw [h87] at h86 <;> simp at h86
                rw [hD20.2.2.1 q8 _ h84 (nd_ne hW1 h81 hH1.2.1) (nd_ne hW1 h81 hH1.2.2.1) (nd_ne hW1 h81 hH1.2.2.2.1) (fun ⟨n7, E7, h71, h72, _⟩ => by
                  rw [h81] at h71; cases h71
                  obtain ⟨x8, hx8⟩ := List.exists_mem_of_ne_nil E8 hne8
                  have h91 := (spl_mem.mp (h72 x8 hx8)).2
                  rw [(spl_mem.mp (h82 x8 hx8)).2] at h91
                  cases hb91 : kn.testBit n1 <;> rw [hb91] at h91 <;> cases h91), h84])
              refine lv_aload_n hx hb dX3_prove_70 rfl (lv_at hl 3 rfl) ?_
              refine hp_get (C := RX3) (T := TX3) (N := 6) (v := .ref pf) EE hm e_x inh3 rfl 3 (by decide) wf_X3_26 rfl dX3_prove_71 ?_
              refine hp_get (C := RX2) (T := TX2) (N := 5) (v := .ref bs) EE hm e_pf inh2 rfl 0 (by decide) wf_X3_91 rfl dX3_prove_74 ?_
              have e_b := e_br d (by omega)
              refine lv_iload hx hb dX3_prove_77 (lv_at hl 1 rfl) ?_
              refine hp_aaldRN EE hm e_bs d rfl (by omega) (by decide) dX3_prove_79 ?_
              refine hp_cv (hp_runS (np := 2) (k := 1) (mc := 0) (ms := 0) (As := [.ref b2, .ref (br d)]) (rest := []) EE hm hS (c_X3_copyWords l g Mx30 b2 (br d) f2 (rv1 d) e_b2 e_b (fun t => hbz.elim (fun h6 => (hDA.2.2.2.2.1 d (by omega)).1 (t ▸ h6)) (fun h6 => h6 (by rw [t]; exact hZn2 _ (Or.inr (Or.inr (Or.inr (Or.inr (Or.inr ⟨d, by omega, rfl⟩)))))))) ) ms_X3_copyWords wt_X3_copyWords wl_X3_95 rfl hl.1 rfl (Nat.le_of_ble_eq_true rfl) dX3_prove_80 ⟨Nat.le_of_ble_eq_true rfl, Nat.le_of_ble_eq_true rfl⟩ ⟨(by show uProve M kf nw σ v0 k0 - prU (n1 + 1) M1 (some a) kn E1 + (udT n1 M1 (lfB M1 a (!(kn.testBit n1)))) + 0 ≤ uProve M kf nw σ v0 k0; omega), (by show 8 * (uProve M kf nw σ v0 k0 - prU (n1 + 1) M1 (some a) kn E1) + (8 * (udT n1 M1 (lfB M1 a (!(kn.testBit n1))))) + 0 ≤ 8 * (uProve M kf nw σ v0 k0); omega)⟩) hS (fun Mx32 H locs hq33 hm hS => ?_)
              obtain ⟨f3, e_3, hfr3, hf3⟩ := hq33
              obtain ⟨hC4, hR4⟩ := CX.row hC2 (by omega) e_3 hfr3
              obtain ⟨hW4, -, e_x, e_kp, e_pf, e_bs, e_br, e_fo, -, -, -, -, -, -⟩ := id hC4
              have hnb : ∀ q y, N q = some y → q ≠ br d := fun q y hy => nd_ne hW2 hy e_b
              have hlfB : lfB Mx32 a (kn.testBit n1) = lfB M1 a (kn.testBit n1) := by
                obtain ⟨n7, h71, -⟩ := id hr1
                exact lfB_same ((hfr3 a (hnb a _ h71)).trans hMa)
              have hprF : prU n1 Mx32 (lfB M1 a (kn.testBit n1)) kn (spl n1 (kn.testBit n1) E1) = prU n1 Mx30 (lfB M1 a (kn.testBit n1)) kn (spl n1 (kn.testBit n1) E1) := prU_eq hW2 kn n1 _ _ hrB (fun q8 hq8 => by
                obtain ⟨n8, E8, h81, -⟩ := hq8
                exact hfr3 q8 (hnb q8 _ h81))
              refine lv_aload_n hx hb dX3_prove_83 rfl (lv_at hl 2 rfl) ?_
              refine lv_iload hx hb dX3_prove_84 (lv_at hl 1 rfl) ?_
              refine lv_iload hx hb dX3_prove_86 (lv_at hl 0 rfl) ?_
              refine hp_cq (hp_runS (np := 3) (k := 2) (mc := 0) (ms := 0) (As := [.ref a, .int (nI d), .int (bI (kn.testBit n1))]) (rest := []) EE hm hS (c_X3_half2 l g Mx32 N Z2 hW4 a n1 d (kn.testBit n1) E1 hr1 c_38) ms_X3_half wt_X3_half wl_X3_87 rfl hl.1 rfl (Nat.le_of_ble_eq_true rfl) dX3_prove_88 ⟨Nat.le_of_ble_eq_true rfl, Nat.le_of_ble_eq_true rfl⟩ ⟨(by show uProve M kf nw σ v0 k0 - prU (n1 + 1) M1 (some a) kn E1 + (udT n1 M1 (lfB M1 a (!(kn.testBit n1)))) + 0 ≤ uProve M kf nw σ v0 k0; omega), (by show 8 * (uProve M kf nw σ v0 k0 - prU (n1 + 1) M1 (some a) kn E1) + (8 * (udT n1 M1 (lfB M1 a (!(kn.testBit n1))))) + 0 ≤ 8 * (uProve M kf nw σ v0 k0); omega)⟩) hS (fun r34 Mx35 H locs hq36 hm hS => ?_)
              obtain ⟨hh9, h9⟩ := hq36
              rw [h9] at hm
              subst hh9
              rw [hlfB]
              refine hq_astore_n (lv' := [(3, va_rf (lfB M1 a (kn.testBit n1))), (5, .int (bI (kn.testBit n1))), (4, .int (nI d)), (0, .ref x), (1, .int v0), (2, .int (nI kn))]) hx hb dX3_prove_91 rfl hl (by decide) rfl (fun ls hl => ?_)
              refine lv_iinc (v := nI (d + 1)) (lv' := [(4, .int (nI (d + 1))), (3, va_rf (lfB M1 a (kn.testBit n1))), (5, .int (bI (kn.testBit n1))), (0, .ref x), (1, .int v0), (2, .int (nI kn))]) hx hb dX3_prove_92 hl (k := 2) rfl (nI_1 _) (by decide) (by simp [cat_rf]) (fun ls hl => ?_)
              refine lv_goto (tgt := 26) hx hb dX3_prove_95 (by decide) ?_
              refine W.widen (k := uProve M kf nw σ v0 k0 - prU n1 Mx32 (lfB M1 a (kn.testBit n1)) kn (spl n1 (kn.testBit n1) E1)) (n := 8 * (uProve M kf nw σ v0 k0 - prU n1 Mx32 (lfB M1 a (kn.testBit n1)) kn (spl n1 (kn.testBit n1) E1))) (by omega) (by omega) ?_
              refine ih (d + 1) n1 _ Z2 fm2 fs2 fa2 _ _ _ H locs ls (by omega) (by omega) hC4 hrB (by omega) (hR1.tr (hR2.tr hR4 (Nat.le_refl _)) (by omega)) (by show _ = spl (15 - d) (kn.testBit (15 - d)) (way kn (mapV σ v0) d); rw [show 15 - d = n1 by omega, ← hwy]) (fun i hi j hj => ?_) (by rw [← hen, endE_2 (by omega)]) (by have h8 := prN_2 (n := n1) (k := kn) (E := E1) (by omega); omega) hm hS (lv_sub hl [0, 1, 3, 4, 5] rfl)
              show (if i = d then f3 else rv1 i) j = _
              by_cases t : i = d
              · rw [if_pos t, hf3 j hj, hf2 j hj, t]; unfold sibV; rw [show 15 - d = n1 by omega, ← hwy]
              · rw [if_neg t]; exact hrow i (by omega) j hj
      have hpu0 : prU 16 M r7 kn (mapV σ v0) = uProve M kf nw σ v0 k0 := by rw [hut, hro]
      refine W.widen (k := uProve M kf nw σ v0 k0 - prU 16 M r7 kn (mapV σ v0)) (n := 8 * (uProve M kf nw σ v0 k0 - prU 16 M r7 kn (mapV σ v0))) (Nat.zero_le _) (Nat.zero_le _) ?_
      exact lp 17 0 16 M Z fm fs fa rv r7 (mapV σ v0) H locs ls (by omega) (by omega) (CX.rows hC0) hrt (by omega) (by rw [hpu0, Nat.sub_self]; exact CR.rf) rfl (fun i hi => absurd hi (Nat.not_lt_zero i)) rfl (by omega) hm hS (lv_sub hl [0, 1, 2, 3, 4] rfl)
    · have c_12 := bI_f c_12
      refine lv_iconst (v := (-1)) hx hb dX3_prove_15 (by decide) ?_
      exact ret dX3_prove_16 na_i hm hS (by omega) (by omega) (⟨by unfold sProve; first | (rw [c_5]; rfl) | (rw [c_5, c_12]; rfl), by unfold uProve sProve; first | (rw [c_5]; exact CP.rf hC0) | (rw [c_5, c_12]; exact CP.rf hC0)⟩)
