section HB
variable {p : Program} {l : Launch} {e : Env} {R : Room} {s : State} {m : MethodId} {args : Array Value} {below : List Frame} {meth : Method} {c : Code} {H : Heap} {locs : List Loc} {cells slots : Nat} {Q : State → Prop}
variable {cc : ByteArray} {pc : Nat} {ls : Array Slot} {rest : List Value} {a : Nat} {g : hG} {M : hM} {own : String} {nL : Nat}
/-- aastore of a node, or null, into a Node[] -/
theorem hp_aastN (E : hE p c cc nL s args m own g) (hm : hp g M H) (hS : va_S (hA g) s.heap H locs) {n : Nat} {f : Nat → Option Nat} (he : M a = some (aN g n f)) {r : Option Nat} (hr : ∀ v, r = some v → ∃ fs, M v = some (.inr (1, fs))) {x : Int32} (i : Nat) (hi : x = nI i) (hlt : i < n) (hn : n < 2 ^ 31) (hdg : decode cc pc = .ok (.aastore, 1))
    (kk : ∀ (H1 : Heap) (locs1 : List Loc), hp g (hm_up M a (aN g n (va_up f i r))) H1 → va_S (hA g) s.heap H1 locs1 → W p l e R s m args below meth c H1 locs1 cells slots Q (F0 m (pc + 1) ls rest)) : W p l e R s m args below meth c H locs cells slots Q (F0 m pc ls (va_rf r :: .int x :: .ref a :: rest)) := by
  subst hi
  obtain ⟨hx, hb, -, hown, hts, hG⟩ := E
  have hat : H[a]? = some (vp_cell (gN g) (n, .inr (.inr (.inr (.inr f))))) := (hm _ _ he).2
  have hin : vp_in (nI i) n := vp_in_nI hlt hn
  have hcl : (nI i).toNatClampNeg = i := nI_clamp (by omega)
  have fin : ∀ (H1 : Heap) (k : Nat) (z : H1.size = H.size) (oq : ∀ q, q ≠ a → H1[q]? = H[q]?) (e1 : H1[a]? = some ((vp_cell (gN g) (n, .inr (.inr (.inr (.inr f))))).setSlot i (va_rf r))), W p l e R s m args below meth c H1 (locs ++ [⟨a, k⟩]) cells slots Q (F0 m (pc + 1) ls rest) := by
    intro H1 k z oq e1
    refine kk H1 _ (fun b eb hb => ?_) (hS.put z oq (hm _ _ he).1)
    by_cases hba : b = a
    · subst hba
      rw [up_eq] at hb
      cases hb
      refine ⟨(hm _ _ he).1, ?_⟩
      show H1[b]? = some (vp_cell _ _)
      rw [e1]
      rw [vp_cell_q, vp_cell_q, arrV_store]
      congr 2
      funext q
      by_cases hq : q = i
      · subst hq
        simp [updV, va_up]
      · simp [updV, va_up, hq]
    · rw [up_ne hba] at hb
      exact ⟨(hm _ _ hb).1, (hm _ _ hb).2.kept (oq _ hba)⟩
  cases r with
  | none =>
    refine va_WaastN (C := "ProofMap$Node") hx hb hat ((hG.1.2 1 (gN g, .object "ProofMap$Node") rfl).1 n (fun j => va_rf (f j))) (fun h => by cases h) (by show ¬ (nI i < 0 ∨ (arrV _ _ _).slots.size ≤ _); rw [arrV_size]; exact hin) rfl rfl hdg fun H1 e1 z oq => ?_
    rw [hcl] at e1 ⊢
    exact fin H1 _ z oq e1
  | some v =>
    obtain ⟨fs, hv⟩ := hr v rfl
    obtain ⟨-, r', hr', cellV, g1, g2, g3, -⟩ := hm _ _ hv
    have hcls := (hG.1.1 1 (RX1, TX1, 6) rfl).2
    obtain ⟨kA, comp, k1, k2, k3, -⟩ := (hG.1.2 1 (gN g, .object "ProofMap$Node") rfl).2
    have hcomp : comp = (gD g).1 1 := Option.some.inj (k3.symm.trans hcls.1)
    subst hcomp
    obtain ⟨kC, hkC, hkk⟩ := hcls.2
    have hcls : ClassAt s RX1 ((gD g).1 1) := ⟨hcls.1, kC, hkC, hkk⟩
    refine W.aast hx hb hat (fun q h => by cases h) (fun h => by cases h) k1 k2 rfl hkC ⟨fun q => hin (Or.inl q), by show _ < (arrV _ _ _).slots.size; rw [arrV_size, hcl]; exact hlt⟩ g1 (fun q h => by rw [g3] at h; cases h) (by rw [g2]; exact hkC) (by rw [g2]; exact va_assign hcls) rfl rfl hdg fun H1 e1 z oq => ?_
    rw [hcl] at e1 ⊢
    exact fin H1 _ z oq e1
end HB
/-- which cells are the class's to change -/
def ow (N : gT) (x kp pf ms sc sa fo : Nat) (br : Nat → Nat) (q : Nat) : Prop := N q ≠ none ∨ q = x ∨ q = kp ∨ q = pf ∨ q = ms ∨ q = sc ∨ q = sa ∨ q = fo ∨ ∃ i, i < 16 ∧ q = br i
/-- nodes and digests' rows together -/
def nz (N Z : gT) : gT := fun q => match N q with
  | some x => some x
  | none => Z q
theorem nz_n {N Z : gT} {q : Nat} (h : N q = none) : nz N Z q = Z q := by unfold nz; rw [h]
theorem nz_s {N Z : gT} {q : Nat} (h : N q ≠ none) : nz N Z q ≠ none := by
  unfold nz
  cases hq : N q with
  | none => exact absurd hq h
  | some x => exact fun z => by cases z
theorem nz_0 {N Z : gT} {q : Nat} (h : nz N Z q = none) : N q = none ∧ Z q = none := by
  cases hq : N q with
  | none => rw [nz_n hq] at h; exact ⟨rfl, h⟩
  | some x => exact absurd h (nz_s (by rw [hq]; exact fun z => by cases z))
/-- behind a call: the class's world with the state σ9; nothing else has changed; at most k nodes more without digest, u cells made for digests -/
def CP (g : hG) (M : hM) (N Z : gT) (x kp pf bs h nm ms sc sa fo : Nat) (br : Nat → Nat) (k u : Nat) (M9 : hM) (σ9 : cSt) : Prop :=
  ∃ N9 Z9 kf9 nw9 fm9 fs9 fa9 ff9 rv9, CX g M9 N9 Z9 x kp pf bs h nm ms sc sa fo br kf9 nw9 fm9 fs9 fa9 ff9 rv9 σ9 ∧ (∀ q e, M q = some e → ¬ ow (nz N Z) x kp pf ms sc sa fo br q → M9 q = some e ∧ ¬ ow (nz N9 Z9) x kp pf ms sc sa fo br q) ∧ ∀ c, pt M c → ∃ c9, pt M9 c9 ∧ c9 + u ≤ c + k
theorem und_obj {M : hM} {q c : Nat} {fs : List Value} (h : M q = some (.inr (c, fs))) (hc : c ≠ 1) : und M q = false := by
  unfold und
  rw [h]
  match c, hc with
  | 0, _ => rfl
  | c + 2, _ => rfl
theorem pt.chg {M M9 : hM} {c a : Nat} (h : pt M c) (ha : und M9 a = false) (hf : ∀ q, q ≠ a → M9 q = M q) : pt M9 c := h.same (fun q hq => by
  by_cases t : q = a
  · rw [t, ha] at hq; cases hq
  · rw [← und_same (hf q t)]; exact hq)
theorem WF.frame {g : hG} {M M9 : hM} {N Z : gT} (hW : WF g M N Z) (h1 : ∀ q x, N q = some x → M9 q = M q) (h2 : ∀ q x, Z q = some x → M9 q = M q) : WF g M9 N Z := by
  refine ⟨fun a n E h => ?_, fun b n E h => ?_⟩
  · obtain ⟨ky, vl, z, o, dg, q1, q2⟩ := hW.1 a n E h
    exact ⟨ky, vl, z, o, dg, (h1 a _ h).trans q1, q2⟩
  · obtain ⟨f, q1, q2⟩ := hW.2 b n E h
    exact ⟨f, (h2 b _ h).trans q1, q2⟩
/-- a cell changes that is neither a node nor a digest's row -/
theorem WF.chg {g : hG} {M M9 : hM} {N Z : gT} {a : Nat} (hW : WF g M N Z) (hf : ∀ q, q ≠ a → M9 q = M q) (hN : N a = none) (hZ : Z a = none) : WF g M9 N Z :=
  hW.frame (fun q x h => hf q (fun t => by rw [t, hN] at h; cases h)) (fun q x h => hf q (fun t => by rw [t, hZ] at h; cases h))
theorem N_obj {g : hG} {M : hM} {N Z : gT} (hW : WF g M N Z) {q c : Nat} {fs : List Value} (h : M q = some (.inr (c, fs))) (hc : c ≠ 1) : N q = none := by
  cases hn : N q with
  | none => rfl
  | some x =>
    obtain ⟨ky, vl, z, o, dg, q1, -⟩ := hW.1 q x.1 x.2 hn
    rw [h] at q1
    exact absurd (Prod.mk.inj (Sum.inr.inj (Option.some.inj q1))).1 hc
theorem N_arr {g : hG} {M : hM} {N Z : gT} (hW : WF g M N Z) {q : Nat} {v : ClassId × vp_A} (h : M q = some (.inl v)) : N q = none := by
  cases hn : N q with
  | none => rfl
  | some x => exact absurd rfl (nd_ne hW hn h)
theorem Z_obj {g : hG} {M : hM} {N Z : gT} (hW : WF g M N Z) {q c : Nat} {fs : List Value} (h : M q = some (.inr (c, fs))) : Z q = none := by
  cases hn : Z q with
  | none => rfl
  | some x =>
    obtain ⟨f, q1, -⟩ := hW.2 q x.1 x.2 hn
    rw [h] at q1; cases q1
theorem Z_arN {g : hG} {M : hM} {N Z : gT} (hW : WF g M N Z) {q n : Nat} {f : Nat → Option Nat} {cA : ClassId} (h : M q = some (.inl (cA, n, .inr (.inr (.inr (.inr f)))))) : Z q = none := by
  cases hn : Z q with
  | none => rfl
  | some x =>
    obtain ⟨f1, q1, -⟩ := hW.2 q x.1 x.2 hn
    rw [h] at q1
    have := (Prod.mk.inj (Sum.inl.inj (Option.some.inj q1))).2
    have := (Prod.mk.inj this).2
    cases this
theorem HS.chg {g : hG} {M M9 : hM} {h nm ms sc sa a : Nat} {fm fs fa : Nat → Int32} (hH : HS g M h nm ms sc sa fm fs fa) (hf : ∀ q, q ≠ a → M9 q = M q) (h1 : h ≠ a) (h2 : nm ≠ a) (h3 : ms ≠ a) (h4 : sc ≠ a) (h5 : sa ≠ a) : HS g M9 h nm ms sc sa fm fs fa := by
  obtain ⟨q1, q2, q3, q4, ⟨fn, q5, q6⟩, q7⟩ := hH
  exact ⟨(hf h h1).trans q1, (hf ms h3).trans q2, (hf sc h4).trans q3, (hf sa h5).trans q4, ⟨fn, (hf nm h2).trans q5, q6⟩, q7⟩
section CXC
variable {g : hG} {M M9 : hM} {N Z : gT} {x kp pf bs h nm ms sc sa fo : Nat} {br : Nat → Nat} {kf : Nat → Option Nat} {nw : Option Nat} {fm fs fa ff : Nat → Int32} {rv : Nat → Nat → Int32} {σ : cSt}
/-- the proof's own cell changes -/
theorem CX.cpf (hC : CX g M N Z x kp pf bs h nm ms sc sa fo br kf nw fm fs fa ff rv σ) {pl : Nat} {pe : Bool} {pk pv : Int32} {sb : Nat → Nat → Int32} (e : M9 pf = some (.inr (2, [.ref bs, .int (nI pl), .int (bI pe), .int pk, .int pv]))) (hf : ∀ q, q ≠ pf → M9 q = M q) (hpl : pl ≤ 16) (hpk : pOK (sNow σ, sKc σ, sVs σ, pl, pe, pk, pv, sb)) (hsb : ∀ i, i < pl → ∀ j, j < 8 → rv i j = sb i j) : CP g M N Z x kp pf bs h nm ms sc sa fo br 0 0 M9 (sNow σ, sKc σ, sVs σ, pl, pe, pk, pv, sb) := by
  obtain ⟨hW, hH, e_x, e_kp, e_pf, e_bs, e_br, e_fo, hDA, hZn, hok, hvs, hnw, -⟩ := hC
  obtain ⟨k1, k2, k3, -, -⟩ := hok
  have hH0 := hH
  obtain ⟨q1, q2, q3, q4, ⟨fn, q5, q6⟩, q7⟩ := hH0
  refine ⟨N, Z, kf, nw, fm, fs, fa, ff, rv, ⟨hW.chg hf (N_obj hW e_pf (by decide)) (Z_obj hW e_pf), hH.chg hf (ne_lk q1 e_pf (by simp)) (ne_lk q5 e_pf (by simp)) (ne_lk q2 e_pf (by simp)) (ne_lk q3 e_pf (by simp)) (ne_lk q4 e_pf (by simp)), (hf x (ne_lk e_x e_pf (by simp))).trans e_x, (hf kp (ne_lk e_kp e_pf (by simp))).trans e_kp, e, (hf bs (ne_lk e_bs e_pf (by simp))).trans e_bs, fun i hi => (hf _ (ne_lk (e_br i hi) e_pf (by simp))).trans (e_br i hi), (hf fo (ne_lk e_fo e_pf (by simp))).trans e_fo, hDA, hZn, ⟨k1, k2, k3, hpl, hpk⟩, hvs, hnw, hsb⟩, fun q e9 h9 hn => ⟨?_, hn⟩, fun c hc => ⟨c, hc.chg (und_obj e (by decide)) hf, Nat.le_refl _⟩⟩
  rw [hf q (fun t => hn (Or.inr (Or.inr (Or.inr (Or.inl t)))))]
  exact h9
/-- the object's own cell changes -/
theorem CX.cob (hC : CX g M N Z x kp pf bs h nm ms sc sa fo br kf nw fm fs fa ff rv σ) {kc : Nat} {nw1 : Option Nat} {E1 : En} {vs : Nat → En} (e : M9 x = some (.inr (3, [.ref kp, .int (nI kc), va_rf nw1, .ref pf, .ref h, .ref fo]))) (hf : ∀ q, q ≠ x → M9 q = M q) (hkc : kc ≤ 60) (hv : ∀ j, j < kc → gE (vs j)) (hg : gE E1) (hvs : ∀ j, j < kc → rt N (kf j) 16 (vs j)) (hnw : rt N nw1 16 E1) : CP g M N Z x kp pf bs h nm ms sc sa fo br 0 0 M9 (E1, kc, vs, sPl σ, sPe σ, sPk σ, sPv σ, sSb σ) := by
  obtain ⟨hW, hH, e_x, e_kp, e_pf, e_bs, e_br, e_fo, hDA, hZn, hok, -, -, hsb⟩ := hC
  obtain ⟨-, -, -, k4, k5⟩ := hok
  have hH0 := hH
  obtain ⟨q1, q2, q3, q4, ⟨fn, q5, q6⟩, q7⟩ := hH0
  refine ⟨N, Z, kf, nw1, fm, fs, fa, ff, rv, ⟨hW.chg hf (N_obj hW e_x (by decide)) (Z_obj hW e_x), hH.chg hf (ne_lk q1 e_x (by simp)) (ne_lk q5 e_x (by simp)) (ne_lk q2 e_x (by simp)) (ne_lk q3 e_x (by simp)) (ne_lk q4 e_x (by simp)), e, (hf kp (ne_lk e_kp e_x (by simp))).trans e_kp, (hf pf (ne_lk e_pf e_x (by simp))).trans e_pf, (hf bs (ne_lk e_bs e_x (by simp))).trans e_bs, fun i hi => (hf _ (ne_lk (e_br i hi) e_x (by simp))).trans (e_br i hi), (hf fo (ne_lk e_fo e_x (by simp))).trans e_fo, hDA, hZn, ⟨hkc, hv, hg, k4, k5⟩, hvs, hnw, hsb⟩, fun q e9 h9 hn => ⟨?_, hn⟩, fun c hc => ⟨c, hc.chg (und_obj e (by decide)) hf, Nat.le_refl _⟩⟩
  rw [hf q (fun t => hn (Or.inr (Or.inl t)))]
  exact h9
theorem ne_NI {n m : Nat} {f : Nat → Option Nat} {f' : Nat → Int32} : aN g n f ≠ aI g m f' := by
  intro q
  have := (Prod.mk.inj (Prod.mk.inj (Sum.inl.inj q)).2).2
  cases this
theorem ne_RI {n m : Nat} {f : Nat → Option Nat} {f' : Nat → Int32} : aR g n f ≠ aI g m f' := by
  intro q
  have := (Prod.mk.inj (Prod.mk.inj (Sum.inl.inj q)).2).2
  cases this
/-- a row of the proof changes -/
theorem CX.cbr (hC : CX g M N Z x kp pf bs h nm ms sc sa fo br kf nw fm fs fa ff rv σ) {i : Nat} (hi : i < 16) {f1 : Nat → Int32} {sb : Nat → Nat → Int32} (e : M9 (br i) = some (aI g 8 f1)) (hf : ∀ q, q ≠ br i → M9 q = M q) (hsb : ∀ i1, i1 < sPl σ → ∀ j, j < 8 → (if i1 = i then f1 else rv i1) j = sb i1 j) : CP g M N Z x kp pf bs h nm ms sc sa fo br 0 0 M9 (sNow σ, sKc σ, sVs σ, sPl σ, sPe σ, sPk σ, sPv σ, sb) := by
  obtain ⟨hW, hH, e_x, e_kp, e_pf, e_bs, e_br, e_fo, hDA, hZn, hok, hvs, hnw, -⟩ := hC
  have hH0 := hH
  obtain ⟨q1, q2, q3, q4, ⟨fn, q5, q6⟩, q7⟩ := hH0
  have eb := e_br i hi
  have hd := hDA.2.2.2.2.1 i hi
  refine ⟨N, Z, kf, nw, fm, fs, fa, ff, fun i1 => if i1 = i then f1 else rv i1, ⟨hW.chg hf (N_arr hW eb) (hZn _ (Or.inr (Or.inr (Or.inr (Or.inr (Or.inr ⟨i, hi, rfl⟩)))))), hH.chg hf (ne_lk q1 eb (by simp)) (Ne.symm hd.1) (Ne.symm hd.2.1) (Ne.symm hd.2.2.1) (Ne.symm hd.2.2.2.1), (hf x (ne_lk e_x eb (by simp))).trans e_x, (hf kp (ne_lk e_kp eb ne_NI)).trans e_kp, (hf pf (ne_lk e_pf eb (by simp))).trans e_pf, (hf bs (ne_lk e_bs eb ne_RI)).trans e_bs, fun i1 hi1 => ?_, (hf fo (Ne.symm hd.2.2.2.2)).trans e_fo, hDA, hZn, hok, hvs, hnw, hsb⟩, fun q e9 h9 hn => ⟨?_, hn⟩, fun c hc => ⟨c, hc.chg (und_arr e) hf, Nat.le_refl _⟩⟩
  · show M9 (br i1) = some (aI g 8 (if i1 = i then f1 else rv i1))
    by_cases t : i1 = i
    · rw [t, if_pos rfl]; exact e
    · rw [if_neg t, hf _ (fun z => t (hDA.2.2.2.2.2 i1 i hi1 hi z))]
      exact e_br i1 hi1
  · rw [hf q (fun t => hn (Or.inr (Or.inr (Or.inr (Or.inr (Or.inr (Or.inr (Or.inr (Or.inr ⟨i, hi, t⟩)))))))))]
    exact h9
/-- the versions' row changes -/
theorem CX.ckp (hC : CX g M N Z x kp pf bs h nm ms sc sa fo br kf nw fm fs fa ff rv σ) {kf1 : Nat → Option Nat} (e : M9 kp = some (aN g 60 kf1)) (hf : ∀ q, q ≠ kp → M9 q = M q) (hvs1 : ∀ j, j < sKc σ → kf1 j = kf j) : CX g M9 N Z x kp pf bs h nm ms sc sa fo br kf1 nw fm fs fa ff rv σ := by
  obtain ⟨hW, hH, e_x, e_kp, e_pf, e_bs, e_br, e_fo, hDA, hZn, hok, hvs, hnw, hsb⟩ := hC
  have hH0 := hH
  obtain ⟨q1, q2, q3, q4, ⟨fn, q5, q6⟩, q7⟩ := hH0
  refine ⟨hW.chg hf (N_arr hW e_kp) (Z_arN hW e_kp), hH.chg hf (ne_lk q1 e_kp (by simp)) (ne_lk q5 e_kp (Ne.symm ne_NI)) (ne_lk q2 e_kp (Ne.symm ne_NI)) (ne_lk q3 e_kp (Ne.symm ne_NI)) (ne_lk q4 e_kp (Ne.symm ne_NI)), (hf x (ne_lk e_x e_kp (by simp))).trans e_x, e, (hf pf (ne_lk e_pf e_kp (by simp))).trans e_pf, (hf bs (fun t => ?_)).trans e_bs, fun i hi => (hf _ (ne_lk (e_br i hi) e_kp (Ne.symm ne_NI))).trans (e_br i hi), (hf fo (ne_lk e_fo e_kp (Ne.symm ne_NI))).trans e_fo, hDA, hZn, hok, fun j hj => by rw [hvs1 j hj]; exact hvs j hj, hnw, hsb⟩
  rw [t, e_kp] at e_bs
  have := (Prod.mk.inj (Prod.mk.inj (Sum.inl.inj (Option.some.inj e_bs))).2).1
  exact absurd this (by decide)
/-- the world grows -/
theorem CX.gr {M1 : hM} {N1 : gT} {k : Nat} (hC : CX g M N Z x kp pf bs h nm ms sc sa fo br kf nw fm fs fa ff rv σ) (hW1 : WF g M1 N1 Z) (hg : gr M N M1 N1 k) : CX g M1 N1 Z x kp pf bs h nm ms sc sa fo br kf nw fm fs fa ff rv σ := by
  obtain ⟨hW, ⟨q1, q2, q3, q4, ⟨fn, q5, q6⟩, q7⟩, e_x, e_kp, e_pf, e_bs, e_br, e_fo, hDA, hZn, hok, hvs, hnw, hsb⟩ := hC
  obtain ⟨g1, g2, g3, -⟩ := hg
  exact ⟨hW1, ⟨g3 _ _ q1, g3 _ _ q2, g3 _ _ q3, g3 _ _ q4, ⟨fn, g3 _ _ q5, q6⟩, q7⟩, g3 _ _ e_x, g3 _ _ e_kp, g3 _ _ e_pf, g3 _ _ e_bs, fun i hi => g3 _ _ (e_br i hi), g3 _ _ e_fo, hDA, hZn, hok, fun j hj => (hvs j hj).mono g1, hnw.mono g1, hsb⟩
/-- a growth, then a call's end -/
theorem CP.gr {M1 : hM} {N1 : gT} {k k1 k2 u : Nat} {σ9 : cSt} (hg : gr M N M1 N1 k1) (hP : CP g M1 N1 Z x kp pf bs h nm ms sc sa fo br k2 u M9 σ9) (hk : k1 + k2 ≤ k) : CP g M N Z x kp pf bs h nm ms sc sa fo br k u M9 σ9 := by
  obtain ⟨N9, Z9, kf9, nw9, fm9, fs9, fa9, ff9, rv9, hC9, hF, hc⟩ := hP
  have hg0 := hg
  obtain ⟨g1, g2, g3, -⟩ := hg0
  refine ⟨N9, Z9, kf9, nw9, fm9, fs9, fa9, ff9, rv9, hC9, fun q e h9 hn => hF q e (g3 q e h9) (fun t => hn ?_), fun c h0 => ?_⟩
  · rcases t with t | t
    · refine Or.inl (fun z => ?_)
      obtain ⟨z1, z2⟩ := nz_0 z
      rw [g2 q (fun z3 => t (by rw [nz_n z3]; exact z2)) z1] at h9
      cases h9
    · exact Or.inr t
  · obtain ⟨c9, p9, e9⟩ := hc (c + k1) (hg.pt h0)
    exact ⟨c9, p9, by omega⟩
end CXC
theorem CP.rf {g : hG} {M : hM} {N Z : gT} {x kp pf bs h nm ms sc sa fo : Nat} {br : Nat → Nat} {kf : Nat → Option Nat} {nw : Option Nat} {fm fs fa ff : Nat → Int32} {rv : Nat → Nat → Int32} {σ : cSt} {k : Nat} (hC : CX g M N Z x kp pf bs h nm ms sc sa fo br kf nw fm fs fa ff rv σ) : CP g M N Z x kp pf bs h nm ms sc sa fo br k 0 M σ := ⟨N, Z, kf, nw, fm, fs, fa, ff, rv, hC, fun _ _ h9 hn => ⟨h9, hn⟩, fun c hc => ⟨c, hc, Nat.le_add_right _ _⟩⟩
/-- the answers and the states behind the calls that change -/
def sCut (σ : cSt) (n : Int32) : Int32 × cSt := if decide (0 ≤ n) && decide (n ≤ nI (sPl σ)) then (1, (sNow σ, sKc σ, sVs σ, n.toNatClampNeg, sPe σ, sPk σ, sPv σ, sSb σ)) else (-1, σ)
def sClaim (σ : cSt) (k v : Int32) : Int32 × cSt := if k = -1 then (1, (sNow σ, sKc σ, sVs σ, sPl σ, false, 0, 0, sSb σ)) else if isK k then (1, (sNow σ, sKc σ, sVs σ, sPl σ, true, k, v, sSb σ)) else (-1, σ)
def sb1 (sb : Nat → Nat → Int32) (i j : Nat) (x : Int32) : Nat → Nat → Int32 := fun a b => if a = i ∧ b = j then x else sb a b
def sAlter (σ : cSt) (k i x : Int32) : Int32 × cSt := if isS σ k && isW i then (1, (sNow σ, sKc σ, sVs σ, sPl σ, sPe σ, sPk σ, sPv σ, sb1 (sSb σ) k.toNatClampNeg i.toNatClampNeg (sSb σ k.toNatClampNeg i.toNatClampNeg ^^^ x))) else (-1, σ)
def sCommit (σ : cSt) : Int32 × cSt := if sKc σ = 60 then (-3, σ) else (nI (sKc σ), (sNow σ, sKc σ + 1, fun j => if j = sKc σ then sNow σ else sVs σ j, sPl σ, sPe σ, sPk σ, sPv σ, sSb σ))
def sBack (σ : cSt) (v : Int32) : Int32 × cSt := if isV σ v && decide (0 ≤ v) then (nI (mapV σ v).length, (mapV σ v, sKc σ, sVs σ, sPl σ, sPe σ, sPk σ, sPv σ, sSb σ)) else (-1, σ)
def hasE (E : En) (k : Nat) : Bool := (lkE E k).isSome
def setN (σ : cSt) (E : En) : cSt := (E, sKc σ, sVs σ, sPl σ, sPe σ, sPk σ, sPv σ, sSb σ)
def sPut (σ : cSt) (k v : Int32) : Int32 × cSt := if isK k then (if hasE (sNow σ) k.toNatClampNeg then (0, setN σ (putL k.toNatClampNeg v (sNow σ))) else if (sNow σ).length = 300 then (-3, σ) else (1, setN σ (putL k.toNatClampNeg v (sNow σ)))) else (-1, σ)
def sRem (σ : cSt) (k : Int32) : Int32 × cSt := if isK k then (if hasE (sNow σ) k.toNatClampNeg then (1, setN σ (remL k.toNatClampNeg (sNow σ))) else (0, σ)) else (-1, σ)
set_option maxHeartbeats 4000000 in
set_option maxRecDepth 100000 in
theorem c_X2_endWithNothing (l : Launch) (g : hG) (M : hM) (pf bs : Nat) (x1 x2 x3 x4 : Int32) (e_pf : M pf = some (.inr (2, [.ref bs, .int x1, .int x2, .int x3, .int x4]))) : Cv l g yX2_endWithNothing cX2_endWithNothing 1 1 0 0 [.ref pf] M (fun M9 => M9 pf = some (.inr (2, [.ref bs, .int x1, .int 0, .int 0, .int 0])) ∧ ∀ q, q ≠ pf → M9 q = M q) := by
  refine hp_startV (by decide) (by exact Nat.le_of_ble_eq_true rfl) ?_
  intro p e s m below meth c Q H locs ls EE hnm ret hm hS hl
  have hx := EE.1
  have hb := EE.2.1
  have hown := EE.2.2.2.1
  have hts := EE.2.2.2.2.1
  have hl : lv_has ls 1 [(0, .ref pf)] := hl
  refine lv_aload_n hx hb dX2_endWithNothing_0 rfl (lv_at hl 0 rfl) ?_
  refine lv_iconst (v := 0) hx hb dX2_endWithNothing_1 (by decide) ?_
  refine hp_put (C := RX2) (T := TX2) (N := 5) (v := .int 0) (ty := .boolean) EE hm hS e_pf inh2 tyX2 tyX2_ok nmX2 rfl 2 (by decide) wf_X2_20 rfl (by decide +kernel) (by decide) (by decide) (Nat.le_of_ble_eq_true rfl) dX2_endWithNothing_2 (fun H locs hm hS => ?_)
  obtain ⟨Mx1, hMx1⟩ : ∃ Mz, Mz = hm_up M pf (.inr (2, [.ref bs, .int x1, .int 0, .int x3, .int x4])) := ⟨_, rfl⟩
  have hm : hp g Mx1 H := by rw [hMx1]; exact hm
  have e_pf : Mx1 pf = some (.inr (2, [.ref bs, .int x1, .int 0, .int x3, .int x4])) := by rw [hMx1]; exact up_eq
  refine lv_aload_n hx hb dX2_endWithNothing_5 rfl (lv_at hl 0 rfl) ?_
  refine lv_iconst (v := 0) hx hb dX2_endWithNothing_6 (by decide) ?_
  refine hp_put (C := RX2) (T := TX2) (N := 5) (v := .int 0) (ty := .int) EE hm hS e_pf inh2 tyX2 tyX2_ok nmX2 rfl 3 (by decide) wf_X2_24 rfl (by decide +kernel) rfl rfl (Nat.le_of_ble_eq_true rfl) dX2_endWithNothing_7 (fun H locs hm hS => ?_)
  obtain ⟨Mx2, hMx2⟩ : ∃ Mz, Mz = hm_up Mx1 pf (.inr (2, [.ref bs, .int x1, .int 0, .int 0, .int x4])) := ⟨_, rfl⟩
  have hm : hp g Mx2 H := by rw [hMx2]; exact hm
  have e_pf : Mx2 pf = some (.inr (2, [.ref bs, .int x1, .int 0, .int 0, .int x4])) := by rw [hMx2]; exact up_eq
  refine lv_aload_n hx hb dX2_endWithNothing_10 rfl (lv_at hl 0 rfl) ?_
  refine lv_iconst (v := 0) hx hb dX2_endWithNothing_11 (by decide) ?_
  refine hp_put (C := RX2) (T := TX2) (N := 5) (v := .int 0) (ty := .int) EE hm hS e_pf inh2 tyX2 tyX2_ok nmX2 rfl 4 (by decide) wf_X2_27 rfl (by decide +kernel) rfl rfl (Nat.le_of_ble_eq_true rfl) dX2_endWithNothing_12 (fun H locs hm hS => ?_)
  obtain ⟨Mx3, hMx3⟩ : ∃ Mz, Mz = hm_up Mx2 pf (.inr (2, [.ref bs, .int x1, .int 0, .int 0, .int 0])) := ⟨_, rfl⟩
  have hm : hp g Mx3 H := by rw [hMx3]; exact hm
  have e_pf : Mx3 pf = some (.inr (2, [.ref bs, .int x1, .int 0, .int 0, .int 0])) := by rw [hMx3]; exact up_eq
  exact ret dX2_endWithNothing_15 hm hS (Nat.le_of_ble_eq_true rfl) (Nat.le_of_ble_eq_true rfl) (⟨e_pf, fun q hx => by rw [hMx3, up_ne hx, hMx2, up_ne hx, hMx1, up_ne hx]⟩)
set_option maxHeartbeats 4000000 in
set_option maxRecDepth 100000 in
theorem c_X2_endWithEntry (l : Launch) (g : hG) (M : hM) (pf bs : Nat) (x1 x2 x3 x4 : Int32) (e_pf : M pf = some (.inr (2, [.ref bs, .int x1, .int x2, .int x3, .int x4]))) (k0 v0 : Int32) : Cv l g yX2_endWithEntry cX2_endWithEntry 3 1 0 0 [.ref pf, .int k0, .int v0] M (fun M9 => M9 pf = some (.inr (2, [.ref bs, .int x1, .int 1, .int k0, .int v0])) ∧ ∀ q, q ≠ pf → M9 q = M q) := by
  refine hp_startV (by decide) (by exact Nat.le_of_ble_eq_true rfl) ?_
  intro p e s m below meth c Q H locs ls EE hnm ret hm hS hl
  have hx := EE.1
  have hb := EE.2.1
  have hown := EE.2.2.2.1
  have hts := EE.2.2.2.2.1
  have hl : lv_has ls 3 [(0, .ref pf), (1, .int k0), (2, .int v0)] := hl
  refine lv_aload_n hx hb dX2_endWithEntry_0 rfl (lv_at hl 0 rfl) ?_
  refine lv_iconst (v := 1) hx hb dX2_endWithEntry_1 (by decide) ?_
  refine hp_put (C := RX2) (T := TX2) (N := 5) (v := .int 1) (ty := .boolean) EE hm hS e_pf inh2 tyX2 tyX2_ok nmX2 rfl 2 (by decide) wf_X2_20 rfl (by decide +kernel) (by decide) (by decide) (Nat.le_of_ble_eq_true rfl) dX2_endWithEntry_2 (fun H locs hm hS => ?_)
  obtain ⟨Mx1, hMx1⟩ : ∃ Mz, Mz = hm_up M pf (.inr (2, [.ref bs, .int x1, .int 1, .int x3, .int x4])) := ⟨_, rfl⟩
  have hm : hp g Mx1 H := by rw [hMx1]; exact hm
  have e_pf : Mx1 pf = some (.inr (2, [.ref bs, .int x1, .int 1, .int x3, .int x4])) := by rw [hMx1]; exact up_eq
  refine lv_aload_n hx hb dX2_endWithEntry_5 rfl (lv_at hl 0 rfl) ?_
  refine lv_iload_n hx hb dX2_endWithEntry_6 rfl (lv_at hl 1 rfl) ?_
  refine hp_put (C := RX2) (T := TX2) (N := 5) (v := .int k0) (ty := .int) EE hm hS e_pf inh2 tyX2 tyX2_ok nmX2 rfl 3 (by decide) wf_X2_24 rfl (by decide +kernel) rfl rfl (Nat.le_of_ble_eq_true rfl) dX2_endWithEntry_7 (fun H locs hm hS => ?_)
  obtain ⟨Mx2, hMx2⟩ : ∃ Mz, Mz = hm_up Mx1 pf (.inr (2, [.ref bs, .int x1, .int 1, .int k0, .int x4])) := ⟨_, rfl⟩
  have hm : hp g Mx2 H := by rw [hMx2]; exact hm
  have e_pf : Mx2 pf = some (.inr (2, [.ref bs, .int x1, .int 1, .int k0, .int x4])) := by rw [hMx2]; exact up_eq
  refine lv_aload_n hx hb dX2_endWithEntry_10 rfl (lv_at hl 0 rfl) ?_
  refine lv_iload_n hx hb dX2_endWithEntry_11 rfl (lv_at hl 2 rfl) ?_
  refine hp_put (C := RX2) (T := TX2) (N := 5) (v := .int v0) (ty := .int) EE hm hS e_pf inh2 tyX2 tyX2_ok nmX2 rfl 4 (by decide) wf_X2_27 rfl (by decide +kernel) rfl rfl (Nat.le_of_ble_eq_true rfl) dX2_endWithEntry_12 (fun H locs hm hS => ?_)
  obtain ⟨Mx3, hMx3⟩ : ∃ Mz, Mz = hm_up Mx2 pf (.inr (2, [.ref bs, .int x1, .int 1, .int k0, .int v0])) := ⟨_, rfl⟩
  have hm : hp g Mx3 H := by rw [hMx3]; exact hm
  have e_pf : Mx3 pf = some (.inr (2, [.ref bs, .int x1, .int 1, .int k0, .int v0])) := by rw [hMx3]; exact up_eq
  exact ret dX2_endWithEntry_15 hm hS (Nat.le_of_ble_eq_true rfl) (Nat.le_of_ble_eq_true rfl) (⟨e_pf, fun q hx => by rw [hMx3, up_ne hx, hMx2, up_ne hx, hMx1, up_ne hx]⟩)
set_option maxHeartbeats 4000000 in
set_option maxRecDepth 100000 in
theorem c_X3_cut (l : Launch) (g : hG) (M : hM) (N Z : gT) (x kp pf bs h nm ms sc sa fo : Nat) (br : Nat → Nat) (kf : Nat → Option Nat) (nw : Option Nat) (fm fs fa ff : Nat → Int32) (rv : Nat → Nat → Int32) (σ : cSt) (hC : CX g M N Z x kp pf bs h nm ms sc sa fo br kf nw fm fs fa ff rv σ) (n0 : Int32) : Ci l g yX3_cut cX3_cut 2 .int 1 0 0 [.ref x, .int n0] M (fun r M9 => r = (sCut σ n0).1 ∧ CP g M N Z x kp pf bs h nm ms sc sa fo br 0 0 M9 ((sCut σ n0).2)) := by
  have hC0 := hC
  obtain ⟨hW, hH, e_x, e_kp, e_pf, e_bs, e_br, e_fo, hDA, hZn, hok, hvs, hnw, hsb⟩ := hC
  have hok0 := hok
  obtain ⟨hkc, hvg, hgn, hpl, hpk⟩ := hok
  refine hp_startI (by decide) (by exact Nat.le_of_ble_eq_true rfl) ?_
  intro p e s m below meth c Q H locs ls EE hnm ret hm hS hl
  have hx := EE.1
  have hb := EE.2.1
  have hown := EE.2.2.2.1
  have hts := EE.2.2.2.2.1
  have hl : lv_has ls 2 [(0, .ref x), (1, .int n0)] := hl
  refine lv_iload_n hx hb dX3_cut_0 rfl (lv_at hl 1 rfl) ?_
  refine lv_if_lt (tgt := 15) hx hb dX3_cut_1 (by decide) (fun c_1 => ?_) (fun c_1 => ?_)
  · refine lv_iconst (v := (-1)) hx hb dX3_cut_15 (by decide) ?_
    exact ret dX3_cut_16 na_i hm hS (Nat.le_of_ble_eq_true rfl) (Nat.le_of_ble_eq_true rfl) (⟨by unfold sCut; first | (rw [decide_eq_false (Int32.not_le.mpr c_1)]; rfl) | (rw [decide_eq_false c_12, Bool.and_false]; rfl), by unfold sCut; first | (rw [decide_eq_false (Int32.not_le.mpr c_1)]; exact CP.rf hC0) | (rw [decide_eq_false c_12, Bool.and_false]; exact CP.rf hC0)⟩)
  · refine lv_iload_n hx hb dX3_cut_4 rfl (lv_at hl 1 rfl) ?_
    refine lv_aload_n hx hb dX3_cut_5 rfl (lv_at hl 0 rfl) ?_
    refine hp_get (C := RX3) (T := TX3) (N := 6) (v := .ref pf) EE hm e_x inh3 rfl 3 (by decide) wf_X3_26 rfl dX3_cut_6 ?_
    refine hp_get (C := RX2) (T := TX2) (N := 5) (v := .int (nI (sPl σ))) EE hm e_pf inh2 rfl 1 (by decide) wf_X3_99 rfl dX3_cut_9 ?_
    refine lv_icmp_le (tgt := 17) hx hb dX3_cut_12 (by decide) (fun c_12 => ?_) (fun c_12 => ?_)
    · have hT : (decide (0 ≤ n0) && decide (n0 ≤ nI (sPl σ))) = true := by rw [decide_eq_true (i_nlt0 c_1), decide_eq_true c_12]; rfl
      obtain ⟨nn, hnn, hne⟩ := nI_of c_1
      subst hne
      have hle := (nI_leI hnn (by omega)).mp c_12
      refine lv_aload_n hx hb dX3_cut_17 rfl (lv_at hl 0 rfl) ?_
      refine hp_get (C := RX3) (T := TX3) (N := 6) (v := .ref pf) EE hm e_x inh3 rfl 3 (by decide) wf_X3_26 rfl dX3_cut_18 ?_
      refine lv_iload_n hx hb dX3_cut_21 rfl (lv_at hl 1 rfl) ?_
      refine hp_put (C := RX2) (T := TX2) (N := 5) (v := .int (nI nn)) (ty := .int) EE hm hS e_pf inh2 tyX2 tyX2_ok nmX2 rfl 1 (by decide) wf_X3_99 rfl (by decide +kernel) rfl rfl (Nat.le_of_ble_eq_true rfl) dX3_cut_22 (fun H locs hm hS => ?_)
      obtain ⟨Mx1, hMx1⟩ : ∃ Mz, Mz = hm_up M pf (.inr (2, [.ref bs, .int (nI nn), .int (bI (sPe σ)), .int (sPk σ), .int (sPv σ)])) := ⟨_, rfl⟩
      have hm : hp g Mx1 H := by rw [hMx1]; exact hm
      have e_x : Mx1 x = some (.inr (3, [.ref kp, .int (nI (sKc σ)), va_rf nw, .ref pf, .ref h, .ref fo])) := by rw [hMx1]; exact up_at (ne_lk e_x e_pf (by simp)) e_x
      have e_kp : Mx1 kp = some (aN g 60 kf) := by rw [hMx1]; exact up_at (ne_lk e_kp e_pf (by simp)) e_kp
      have e_bs : Mx1 bs = some (aR g 16 (fun i => some (br i))) := by rw [hMx1]; exact up_at (ne_lk e_bs e_pf (by simp)) e_bs
      have e_pf : Mx1 pf = some (.inr (2, [.ref bs, .int (nI nn), .int (bI (sPe σ)), .int (sPk σ), .int (sPv σ)])) := by rw [hMx1]; exact up_eq
      refine lv_iconst (v := 1) hx hb dX3_cut_25 (by decide) ?_
      exact ret dX3_cut_26 na_i hm hS (Nat.le_of_ble_eq_true rfl) (Nat.le_of_ble_eq_true rfl) (⟨by unfold sCut; rw [hT]; rfl, by unfold sCut; rw [hT, if_pos rfl, nI_clamp hnn]; exact CX.cpf hC0 e_pf (fun q hx => by rw [hMx1, up_ne hx]) (by omega) hpk (fun i hi j hj => hsb i (by omega) j hj)⟩)
    · refine lv_iconst (v := (-1)) hx hb dX3_cut_15 (by decide) ?_
      exact ret dX3_cut_16 na_i hm hS (Nat.le_of_ble_eq_true rfl) (Nat.le_of_ble_eq_true rfl) (⟨by unfold sCut; first | (rw [decide_eq_false (Int32.not_le.mpr c_1)]; rfl) | (rw [decide_eq_false c_12, Bool.and_false]; rfl), by unfold sCut; first | (rw [decide_eq_false (Int32.not_le.mpr c_1)]; exact CP.rf hC0) | (rw [decide_eq_false c_12, Bool.and_false]; exact CP.rf hC0)⟩)
set_option maxHeartbeats 4000000 in
set_option maxRecDepth 100000 in
theorem c_X3_claim (l : Launch) (g : hG) (M : hM) (N Z : gT) (x kp pf bs h nm ms sc sa fo : Nat) (br : Nat → Nat) (kf : Nat → Option Nat) (nw : Option Nat) (fm fs fa ff : Nat → Int32) (rv : Nat → Nat → Int32) (σ : cSt) (hC : CX g M N Z x kp pf bs h nm ms sc sa fo br kf nw fm fs fa ff rv σ) (k0 v0 : Int32) : Ci l g yX3_claim cX3_claim 3 .int 2 0 0 [.ref x, .int k0, .int v0] M (fun r M9 => r = (sClaim σ k0 v0).1 ∧ CP g M N Z x kp pf bs h nm ms sc sa fo br 0 0 M9 ((sClaim σ k0 v0).2)) := by
  have hC0 := hC
  obtain ⟨hW, hH, e_x, e_kp, e_pf, e_bs, e_br, e_fo, hDA, hZn, hok, hvs, hnw, hsb⟩ := hC
  have hok0 := hok
  obtain ⟨hkc, hvg, hgn, hpl, hpk⟩ := hok
  refine hp_startI (by decide) (by exact Nat.le_of_ble_eq_true rfl) ?_
  intro p e s m below meth c Q H locs ls EE hnm ret hm hS hl
  have hx := EE.1
  have hb := EE.2.1
  have hown := EE.2.2.2.1
  have hts := EE.2.2.2.2.1
  have hl : lv_has ls 3 [(0, .ref x), (1, .int k0), (2, .int v0)] := hl
  refine lv_iload_n hx hb dX3_claim_0 rfl (lv_at hl 1 rfl) ?_
  refine lv_iconst (v := (-1)) hx hb dX3_claim_1 (by decide) ?_
  refine lv_icmp_ne (tgt := 14) hx hb dX3_claim_2 (by decide) (fun c_2 => ?_) (fun c_2 => ?_)
  · refine lv_iload_n hx hb dX3_claim_14 rfl (lv_at hl 1 rfl) ?_
    refine hp_ci (hp_runS (np := 1) (k := 1) (mc := 0) (ms := 0) (As := [.int k0]) (rest := []) EE hm hS (c_X3_isKey l g M k0) ms_X3_isKey wt_X3_isKey wl_X3_41 rfl hl.1 rfl (Nat.le_of_ble_eq_true rfl) dX3_claim_15 ⟨Nat.le_of_ble_eq_true rfl, Nat.le_of_ble_eq_true rfl⟩ ⟨(Nat.le_of_ble_eq_true rfl), (Nat.le_of_ble_eq_true rfl)⟩) hS (fun r1 Mx2 H locs hq3 hm hS => ?_)
    obtain ⟨rfl, h9⟩ := hq3
    rw [h9] at hm
    refine lv_if_ne (tgt := 23) hx hb dX3_claim_18 (by decide) (fun c_18 => ?_) (fun c_18 => ?_)
    · have c_18 := bI_t c_18
      refine lv_aload_n hx hb dX3_claim_23 rfl (lv_at hl 0 rfl) ?_
      refine hp_get (C := RX3) (T := TX3) (N := 6) (v := .ref pf) EE hm e_x inh3 rfl 3 (by decide) wf_X3_26 rfl dX3_claim_24 ?_
      refine lv_iload_n hx hb dX3_claim_27 rfl (lv_at hl 1 rfl) ?_
      refine lv_iload_n hx hb dX3_claim_28 rfl (lv_at hl 2 rfl) ?_
      refine hp_cv (hp_runV (C := RX2) (T := TX2) (N := 5) (np := 2) (k := 1) (mc := 0) (ms := 0) (As := [.int k0, .int v0]) (rest := []) EE hm hS (c_X2_endWithEntry l g M pf bs _ _ _ _ e_pf k0 v0) ms_X2_endWithEntry wi_X2_endWithEntry ws_X2_endWithEntry wl_X3_108 e_pf rfl rfl hl.1 rfl (Nat.le_of_ble_eq_true rfl) dX3_claim_29 ⟨Nat.le_of_ble_eq_true rfl, Nat.le_of_ble_eq_true rfl⟩ ⟨(Nat.le_of_ble_eq_true rfl), (Nat.le_of_ble_eq_true rfl)⟩) hS (fun Mx4 H locs hq5 hm hS => ?_)
      obtain ⟨e_9, hf9⟩ := hq5
      refine lv_iconst (v := 1) hx hb dX3_claim_32 (by decide) ?_
      exact ret dX3_claim_33 na_i hm hS (Nat.le_of_ble_eq_true rfl) (Nat.le_of_ble_eq_true rfl) (⟨by unfold sClaim; rw [if_neg c_2, c_18]; rfl, by unfold sClaim; rw [if_neg c_2, c_18]; exact CX.cpf (pe := true) hC0 e_9 hf9 hpl ⟨fun _ => (by obtain ⟨kk, h1, h2⟩ := isK_nat c_18; exact ⟨kk, h1, h2⟩), fun q => (by cases q)⟩ hsb⟩)
    · have c_18 := bI_f c_18
      refine lv_iconst (v := (-1)) hx hb dX3_claim_21 (by decide) ?_
      exact ret dX3_claim_22 na_i hm hS (Nat.le_of_ble_eq_true rfl) (Nat.le_of_ble_eq_true rfl) (⟨by unfold sClaim; rw [if_neg c_2, c_18]; rfl, by unfold sClaim; rw [if_neg c_2, c_18]; exact CP.rf hC0⟩)
  · refine lv_aload_n hx hb dX3_claim_5 rfl (lv_at hl 0 rfl) ?_
    refine hp_get (C := RX3) (T := TX3) (N := 6) (v := .ref pf) EE hm e_x inh3 rfl 3 (by decide) wf_X3_26 rfl dX3_claim_6 ?_
    refine hp_cv (hp_runV (C := RX2) (T := TX2) (N := 5) (np := 0) (k := 1) (mc := 0) (ms := 0) (As := ([] : List Value)) (rest := []) EE hm hS (c_X2_endWithNothing l g M pf bs _ _ _ _ e_pf) ms_X2_endWithNothing wi_X2_endWithNothing ws_X2_endWithNothing wl_X3_102 e_pf rfl rfl hl.1 rfl (Nat.le_of_ble_eq_true rfl) dX3_claim_9 ⟨Nat.le_of_ble_eq_true rfl, Nat.le_of_ble_eq_true rfl⟩ ⟨(Nat.le_of_ble_eq_true rfl), (Nat.le_of_ble_eq_true rfl)⟩) hS (fun Mx6 H locs hq7 hm hS => ?_)
    obtain ⟨e_9, hf9⟩ := hq7
    refine lv_iconst (v := 1) hx hb dX3_claim_12 (by decide) ?_
    exact ret dX3_claim_13 na_i hm hS (Nat.le_of_ble_eq_true rfl) (Nat.le_of_ble_eq_true rfl) (⟨by unfold sClaim; rw [if_pos c_2], by unfold sClaim; rw [if_pos c_2]; exact CX.cpf (pe := false) hC0 e_9 hf9 hpl ⟨fun q => (by cases q), fun _ => ⟨rfl, rfl⟩⟩ hsb⟩)
set_option maxHeartbeats 4000000 in
set_option maxRecDepth 100000 in
theorem c_X3_alter (l : Launch) (g : hG) (M : hM) (N Z : gT) (x kp pf bs h nm ms sc sa fo : Nat) (br : Nat → Nat) (kf : Nat → Option Nat) (nw : Option Nat) (fm fs fa ff : Nat → Int32) (rv : Nat → Nat → Int32) (σ : cSt) (hC : CX g M N Z x kp pf bs h nm ms sc sa fo br kf nw fm fs fa ff rv σ) (k0 i0 x0 : Int32) : Ci l g yX3_alter cX3_alter 4 .int 2 0 0 [.ref x, .int k0, .int i0, .int x0] M (fun r M9 => r = (sAlter σ k0 i0 x0).1 ∧ CP g M N Z x kp pf bs h nm ms sc sa fo br 0 0 M9 ((sAlter σ k0 i0 x0).2)) := by
  have hC0 := hC
  obtain ⟨hW, hH, e_x, e_kp, e_pf, e_bs, e_br, e_fo, hDA, hZn, hok, hvs, hnw, hsb⟩ := hC
  have hok0 := hok
  obtain ⟨hkc, hvg, hgn, hpl, hpk⟩ := hok
  refine hp_startI (by decide) (by exact Nat.le_of_ble_eq_true rfl) ?_
  intro p e s m below meth c Q H locs ls EE hnm ret hm hS hl
  have hx := EE.1
  have hb := EE.2.1
  have hown := EE.2.2.2.1
  have hts := EE.2.2.2.2.1
  have hl : lv_has ls 4 [(0, .ref x), (1, .int k0), (2, .int i0), (3, .int x0)] := hl
  refine lv_aload_n hx hb dX3_alter_0 rfl (lv_at hl 0 rfl) ?_
  refine lv_iload_n hx hb dX3_alter_1 rfl (lv_at hl 1 rfl) ?_
  refine hp_ci (hp_runV (C := RX3) (T := TX3) (N := 6) (np := 1) (k := 1) (mc := 0) (ms := 0) (As := [.int k0]) (rest := []) EE hm hS (c_X3_isSibling l g M N Z x kp pf bs h nm ms sc sa fo br kf nw fm fs fa ff rv σ hC0 k0) ms_X3_isSibling wi_X3_isSibling ws_X3_isSibling wl_X3_111 e_x rfl rfl hl.1 rfl (Nat.le_of_ble_eq_true rfl) dX3_alter_2 ⟨Nat.le_of_ble_eq_true rfl, Nat.le_of_ble_eq_true rfl⟩ ⟨(Nat.le_of_ble_eq_true rfl), (Nat.le_of_ble_eq_true rfl)⟩) hS (fun r1 Mx2 H locs hq3 hm hS => ?_)
  obtain ⟨rfl, h9⟩ := hq3
  rw [h9] at hm
  refine lv_if_eq (tgt := 15) hx hb dX3_alter_5 (by decide) (fun c_5 => ?_) (fun c_5 => ?_)
  · have c_5 := bI_f c_5
    refine lv_iconst (v := (-1)) hx hb dX3_alter_15 (by decide) ?_
    exact ret dX3_alter_16 na_i hm hS (Nat.le_of_ble_eq_true rfl) (Nat.le_of_ble_eq_true rfl) (⟨by unfold sAlter; first | (rw [c_5]; rfl) | (rw [c_5, c_12]; rfl), by unfold sAlter; first | (rw [c_5]; exact CP.rf hC0) | (rw [c_5, c_12]; exact CP.rf hC0)⟩)
  · have c_5 := bI_t c_5
    refine lv_iload_n hx hb dX3_alter_8 rfl (lv_at hl 2 rfl) ?_
    refine hp_ci (hp_runS (np := 1) (k := 1) (mc := 0) (ms := 0) (As := [.int i0]) (rest := []) EE hm hS (c_X3_isWord l g M i0) ms_X3_isWord wt_X3_isWord wl_X3_76 rfl hl.1 rfl (Nat.le_of_ble_eq_true rfl) dX3_alter_9 ⟨Nat.le_of_ble_eq_true rfl, Nat.le_of_ble_eq_true rfl⟩ ⟨(Nat.le_of_ble_eq_true rfl), (Nat.le_of_ble_eq_true rfl)⟩) hS (fun r4 Mx5 H locs hq6 hm hS => ?_)
    obtain ⟨rfl, h9⟩ := hq6
    rw [h9] at hm
    refine lv_if_ne (tgt := 17) hx hb dX3_alter_12 (by decide) (fun c_12 => ?_) (fun c_12 => ?_)
    · have c_12 := bI_t c_12
      obtain ⟨i, hi, hie⟩ := isS_nat hpl c_5
      obtain ⟨j, hj, hje⟩ := isW_nat c_12
      have e_b := e_br i (by omega)
      have n_kb : kp ≠ br i := ne_lk e_kp e_b ne_NI
      have n_bb : bs ≠ br i := ne_lk e_bs e_b ne_RI
      refine lv_aload_n hx hb dX3_alter_17 rfl (lv_at hl 0 rfl) ?_
      refine hp_get (C := RX3) (T := TX3) (N := 6) (v := .ref pf) EE hm e_x inh3 rfl 3 (by decide) wf_X3_26 rfl dX3_alter_18 ?_
      refine hp_get (C := RX2) (T := TX2) (N := 5) (v := .ref bs) EE hm e_pf inh2 rfl 0 (by decide) wf_X3_91 rfl dX3_alter_21 ?_
      refine lv_iload_n hx hb dX3_alter_24 rfl (lv_at hl 1 rfl) ?_
      refine hp_aaldRN EE hm e_bs i hie (by omega) (by decide) dX3_alter_25 ?_
      refine lv_iload_n hx hb dX3_alter_26 rfl (lv_at hl 2 rfl) ?_
      refine lv_dup2_11 hx hb dX3_alter_27 rfl rfl ?_
      refine hp_ialdN EE hm e_b j hje (by omega) (by decide) dX3_alter_28 ?_
      refine lv_iload_n hx hb dX3_alter_29 rfl (lv_at hl 3 rfl) ?_
      refine lv_ixor hx hb dX3_alter_30 ?_
      refine hp_iastN EE hm hS e_b j hje (by omega) (by decide) dX3_alter_31 (fun H locs hm hS => ?_)
      obtain ⟨Mx7, hMx7⟩ : ∃ Mz, Mz = hm_up M (br i) (aI g 8 (upd (rv i) j (((rv i) j) ^^^ x0))) := ⟨_, rfl⟩
      have hm : hp g Mx7 H := by rw [hMx7]; exact hm
      have e_x : Mx7 x = some (.inr (3, [.ref kp, .int (nI (sKc σ)), va_rf nw, .ref pf, .ref h, .ref fo])) := by rw [hMx7]; exact up_at (ne_lk e_x e_b (by simp)) e_x
      have e_kp : Mx7 kp = some (aN g 60 kf) := by rw [hMx7]; exact up_at n_kb e_kp
      have e_pf : Mx7 pf = some (.inr (2, [.ref bs, .int (nI (sPl σ)), .int (bI (sPe σ)), .int (sPk σ), .int (sPv σ)])) := by rw [hMx7]; exact up_at (ne_lk e_pf e_b (by simp)) e_pf
      have e_bs : Mx7 bs = some (aR g 16 (fun i => some (br i))) := by rw [hMx7]; exact up_at n_bb e_bs
      have e_b : Mx7 (br i) = some (aI g 8 (upd (rv i) j (((rv i) j) ^^^ x0))) := by rw [hMx7]; exact up_eq
      refine lv_iconst (v := 1) hx hb dX3_alter_32 (by decide) ?_
      exact ret dX3_alter_33 na_i hm hS (Nat.le_of_ble_eq_true rfl) (Nat.le_of_ble_eq_true rfl) (⟨by unfold sAlter; rw [c_5, c_12]; rfl, by unfold sAlter; rw [c_5, c_12, hie, hje, nI_clamp (by omega), nI_clamp (by omega)]; exact CX.cbr hC0 (by omega) e_b (fun q hx => by rw [hMx7, up_ne hx]) (fun i1 hi1 j1 hj1 => by
        unfold sb1
        by_cases t : i1 = i
        · rw [if_pos t, t]
          by_cases t2 : j1 = j
          · rw [t2, pk_us, if_pos ⟨rfl, rfl⟩, hsb i hi j hj]
          · rw [pk_un t2, if_neg (fun z => t2 z.2)]; exact hsb i hi j1 hj1
        · rw [if_neg t, if_neg (fun z => t z.1)]; exact hsb i1 hi1 j1 hj1)⟩)
    · have c_12 := bI_f c_12
      refine lv_iconst (v := (-1)) hx hb dX3_alter_15 (by decide) ?_
      exact ret dX3_alter_16 na_i hm hS (Nat.le_of_ble_eq_true rfl) (Nat.le_of_ble_eq_true rfl) (⟨by unfold sAlter; first | (rw [c_5]; rfl) | (rw [c_5, c_12]; rfl), by unfold sAlter; first | (rw [c_5]; exact CP.rf hC0) | (rw [c_5, c_12]; exact CP.rf hC0)⟩)
set_option maxHeartbeats 4000000 in
set_option maxRecDepth 100000 in
theorem c_X3_commit (l : Launch) (g : hG) (M : hM) (N Z : gT) (x kp pf bs h nm ms sc sa fo : Nat) (br : Nat → Nat) (kf : Nat → Option Nat) (nw : Option Nat) (fm fs fa ff : Nat → Int32) (rv : Nat → Nat → Int32) (σ : cSt) (hC : CX g M N Z x kp pf bs h nm ms sc sa fo br kf nw fm fs fa ff rv σ) : Ci l g yX3_commit cX3_commit 2 .int 1 0 0 [.ref x] M (fun r M9 => r = (sCommit σ).1 ∧ CP g M N Z x kp pf bs h nm ms sc sa fo br 0 0 M9 ((sCommit σ).2)) := by
  have hC0 := hC
  obtain ⟨hW, hH, e_x, e_kp, e_pf, e_bs, e_br, e_fo, hDA, hZn, hok, hvs, hnw, hsb⟩ := hC
  have hok0 := hok
  obtain ⟨hkc, hvg, hgn, hpl, hpk⟩ := hok
  refine hp_startI (by decide) (by exact Nat.le_of_ble_eq_true rfl) ?_
  intro p e s m below meth c Q H locs ls EE hnm ret hm hS hl
  have hx := EE.1
  have hb := EE.2.1
  have hown := EE.2.2.2.1
  have hts := EE.2.2.2.2.1
  have hl : lv_has ls 2 [(0, .ref x)] := hl
  refine lv_aload_n hx hb dX3_commit_0 rfl (lv_at hl 0 rfl) ?_
  refine hp_get (C := RX3) (T := TX3) (N := 6) (v := .int (nI (sKc σ))) EE hm e_x inh3 rfl 1 (by decide) wf_X3_15 rfl dX3_commit_1 ?_
  refine lv_if_lt (tgt := 16) hx hb dX3_commit_4 (by decide) (fun c_4 => ?_) (fun c_4 => ?_)
  · exact absurd c_4 (nI_pos (by omega))
  · refine lv_aload_n hx hb dX3_commit_7 rfl (lv_at hl 0 rfl) ?_
    refine hp_get (C := RX3) (T := TX3) (N := 6) (v := .int (nI (sKc σ))) EE hm e_x inh3 rfl 1 (by decide) wf_X3_15 rfl dX3_commit_8 ?_
    refine lv_bipush (v := 60) hx hb dX3_commit_11 (by decide) ?_
    refine lv_icmp_lt (tgt := 19) hx hb dX3_commit_13 (by decide) (fun c_13 => ?_) (fun c_13 => ?_)
    · have c_13 : (sKc σ) < 60 := (nI_ltI (a := sKc σ) (b := 60) (by omega) (by decide)).mp c_13
      have hnwn : ∀ v, nw = some v → ∃ fs9, M v = some (.inr (1, fs9)) := fun v hv => by
        rw [hv] at hnw
        obtain ⟨n9, h1, -⟩ := hnw
        obtain ⟨ky, vl, z, o, dg, h2, -⟩ := hW.1 v _ _ h1
        exact ⟨_, h2⟩
      have n_kb : kp ≠ bs := fun t => by
        rw [t, e_bs] at e_kp
        exact absurd (Prod.mk.inj (Prod.mk.inj (Sum.inl.inj (Option.some.inj e_kp))).2).1 (by decide)
      refine lv_aload_n hx hb dX3_commit_19 rfl (lv_at hl 0 rfl) ?_
      refine hp_get (C := RX3) (T := TX3) (N := 6) (v := .int (nI (sKc σ))) EE hm e_x inh3 rfl 1 (by decide) wf_X3_15 rfl dX3_commit_20 ?_
      refine lv_istore_n (lv' := [(1, .int (nI (sKc σ))), (0, .ref x)]) hx hb dX3_commit_23 rfl hl (by decide) rfl (fun ls hl => ?_)
      refine lv_aload_n hx hb dX3_commit_24 rfl (lv_at hl 1 rfl) ?_
      refine hp_get (C := RX3) (T := TX3) (N := 6) (v := .ref kp) EE hm e_x inh3 rfl 0 (by decide) wf_X3_11 rfl dX3_commit_25 ?_
      refine lv_iload_n hx hb dX3_commit_28 rfl (lv_at hl 0 rfl) ?_
      refine lv_aload_n hx hb dX3_commit_29 rfl (lv_at hl 1 rfl) ?_
      refine hp_get (C := RX3) (T := TX3) (N := 6) (v := va_rf nw) EE hm e_x inh3 rfl 2 (by decide) wf_X3_19 rfl dX3_commit_30 ?_
      refine hp_aastN EE hm hS e_kp hnwn (sKc σ) rfl (by omega) (by decide) dX3_commit_33 (fun H locs hm hS => ?_)
      obtain ⟨Mx1, hMx1⟩ : ∃ Mz, Mz = hm_up M kp (aN g 60 (va_up kf (sKc σ) nw)) := ⟨_, rfl⟩
      have hm : hp g Mx1 H := by rw [hMx1]; exact hm
      have e_x : Mx1 x = some (.inr (3, [.ref kp, .int (nI (sKc σ)), va_rf nw, .ref pf, .ref h, .ref fo])) := by rw [hMx1]; exact up_at (ne_lk e_x e_kp (by simp)) e_x
      have e_pf : Mx1 pf = some (.inr (2, [.ref bs, .int (nI (sPl σ)), .int (bI (sPe σ)), .int (sPk σ), .int (sPv σ)])) := by rw [hMx1]; exact up_at (ne_lk e_pf e_kp (by simp)) e_pf
      have e_bs : Mx1 bs = some (aR g 16 (fun i => some (br i))) := by rw [hMx1]; exact up_at (Ne.symm n_kb) e_bs
      have e_kp : Mx1 kp = some (aN g 60 (va_up kf (sKc σ) nw)) := by rw [hMx1]; exact up_eq
      have hC1 := CX.ckp hC0 (M9 := Mx1) e_kp (fun q hq => by rw [hMx1, up_ne hq]) (fun j hj => if_neg (by omega))
      have e_kp0 := e_kp
      refine lv_aload_n hx hb dX3_commit_34 rfl (lv_at hl 1 rfl) ?_
      refine lv_iload_n hx hb dX3_commit_35 rfl (lv_at hl 0 rfl) ?_
      refine lv_iconst (v := 1) hx hb dX3_commit_36 (by decide) ?_
      refine lv_iadd hx hb dX3_commit_37 ?_
      rw [nI_1]
      refine hp_put (C := RX3) (T := TX3) (N := 6) (v := .int (nI (sKc σ + 1))) (ty := .int) EE hm hS e_x inh3 tyX3 tyX3_ok nmX3 rfl 1 (by decide) wf_X3_15 rfl (by decide +kernel) rfl rfl (Nat.le_of_ble_eq_true rfl) dX3_commit_38 (fun H locs hm hS => ?_)
      obtain ⟨Mx2, hMx2⟩ : ∃ Mz, Mz = hm_up Mx1 x (.inr (3, [.ref kp, .int (nI (sKc σ + 1)), va_rf nw, .ref pf, .ref h, .ref fo])) := ⟨_, rfl⟩
      have hm : hp g Mx2 H := by rw [hMx2]; exact hm
      have e_kp : Mx2 kp = some (aN g 60 (va_up kf (sKc σ) nw)) := by rw [hMx2]; exact up_at (ne_lk e_kp e_x (by simp)) e_kp
      have e_pf : Mx2 pf = some (.inr (2, [.ref bs, .int (nI (sPl σ)), .int (bI (sPe σ)), .int (sPk σ), .int (sPv σ)])) := by rw [hMx2]; exact up_at (ne_lk e_pf e_x (by simp)) e_pf
      have e_bs : Mx2 bs = some (aR g 16 (fun i => some (br i))) := by rw [hMx2]; exact up_at (ne_lk e_bs e_x (by simp)) e_bs
      have e_x : Mx2 x = some (.inr (3, [.ref kp, .int (nI (sKc σ + 1)), va_rf nw, .ref pf, .ref h, .ref fo])) := by rw [hMx2]; exact up_eq
      refine lv_iload_n hx hb dX3_commit_41 rfl (lv_at hl 0 rfl) ?_
      have hP1 := CX.cob hC1 (M9 := Mx2) (kc := sKc σ + 1) (nw1 := nw) (E1 := sNow σ) (vs := fun j => if j = sKc σ then sNow σ else sVs σ j) e_x (fun q hq => by rw [hMx2, up_ne hq]) (by omega) (fun j hj => by
        show gE (if j = sKc σ then sNow σ else sVs σ j)
        by_cases t : j = sKc σ
        · rw [if_pos t]; exact hgn
        · rw [if_neg t]; exact hvg j (by omega)) hgn (fun j hj => by
        show rt N (if j = sKc σ then nw else kf j) 16 (if j = sKc σ then sNow σ else sVs σ j)
        by_cases t : j = sKc σ
        · rw [if_pos t, if_pos t]; exact hnw
        · rw [if_neg t, if_neg t]; exact hvs j (by omega)) hnw
      obtain ⟨N9, Z9, kf9, nw9, fm9, fs9, fa9, ff9, rv9, hC9, hF9, hc9⟩ := hP1
      exact ret dX3_commit_42 na_i hm hS (Nat.le_of_ble_eq_true rfl) (Nat.le_of_ble_eq_true rfl) (⟨by unfold sCommit; rw [if_neg (by omega)], by
        unfold sCommit
        rw [if_neg (by omega)]
        exact ⟨N9, Z9, kf9, nw9, fm9, fs9, fa9, ff9, rv9, hC9, fun q e9 h9 hn => hF9 q e9 (by rw [hMx1, up_ne (fun t => hn (Or.inr (Or.inr (Or.inl t))))]; exact h9) hn, fun c hc => hc9 c (hc.chg (a := kp) (und_arr e_kp0) (fun q hq => by rw [hMx1, up_ne hq]))⟩⟩)
    · have c_13 : ¬ (sKc σ) < 60 := fun h9 => c_13 ((nI_ltI (a := sKc σ) (b := 60) (by omega) (by decide)).mpr h9)
      refine lv_bipush (v := (-3)) hx hb dX3_commit_16 (by decide) ?_
      exact ret dX3_commit_18 na_i hm hS (Nat.le_of_ble_eq_true rfl) (Nat.le_of_ble_eq_true rfl) (⟨by unfold sCommit; rw [if_pos (by omega)], by unfold sCommit; rw [if_pos (by omega)]; exact CP.rf hC0⟩)
set_option maxHeartbeats 4000000 in
set_option maxRecDepth 100000 in
theorem c_X3_back (l : Launch) (g : hG) (M : hM) (N Z : gT) (x kp pf bs h nm ms sc sa fo : Nat) (br : Nat → Nat) (kf : Nat → Option Nat) (nw : Option Nat) (fm fs fa ff : Nat → Int32) (rv : Nat → Nat → Int32) (σ : cSt) (hC : CX g M N Z x kp pf bs h nm ms sc sa fo br kf nw fm fs fa ff rv σ) (v0 : Int32) : Ci l g yX3_back cX3_back 2 .int 2 0 0 [.ref x, .int v0] M (fun r M9 => r = (sBack σ v0).1 ∧ CP g M N Z x kp pf bs h nm ms sc sa fo br 0 0 M9 ((sBack σ v0).2)) := by
  have hC0 := hC
  obtain ⟨hW, hH, e_x, e_kp, e_pf, e_bs, e_br, e_fo, hDA, hZn, hok, hvs, hnw, hsb⟩ := hC
  have hok0 := hok
  obtain ⟨hkc, hvg, hgn, hpl, hpk⟩ := hok
  refine hp_startI (by decide) (by exact Nat.le_of_ble_eq_true rfl) ?_
  intro p e s m below meth c Q H locs ls EE hnm ret hm hS hl
  have hx := EE.1
  have hb := EE.2.1
  have hown := EE.2.2.2.1
  have hts := EE.2.2.2.2.1
  have hl : lv_has ls 2 [(0, .ref x), (1, .int v0)] := hl
  refine lv_iload_n hx hb dX3_back_0 rfl (lv_at hl 1 rfl) ?_
  refine lv_iconst (v := (-1)) hx hb dX3_back_1 (by decide) ?_
  refine lv_icmp_eq (tgt := 13) hx hb dX3_back_2 (by decide) (fun c_2 => ?_) (fun c_2 => ?_)
  · refine lv_iconst (v := (-1)) hx hb dX3_back_13 (by decide) ?_
    exact ret dX3_back_14 na_i hm hS (Nat.le_of_ble_eq_true rfl) (Nat.le_of_ble_eq_true rfl) (⟨by unfold sBack; first | (rw [c_10]; rfl) | (rw [c_2, show decide ((0 : Int32) ≤ -1) = false by decide, Bool.and_false]; rfl), by unfold sBack; first | (rw [c_10]; exact CP.rf hC0) | (rw [c_2, show decide ((0 : Int32) ≤ -1) = false by decide, Bool.and_false]; exact CP.rf hC0)⟩)
  · refine lv_aload_n hx hb dX3_back_5 rfl (lv_at hl 0 rfl) ?_
    refine lv_iload_n hx hb dX3_back_6 rfl (lv_at hl 1 rfl) ?_
    refine hp_ci (hp_runV (C := RX3) (T := TX3) (N := 6) (np := 1) (k := 1) (mc := 0) (ms := 0) (As := [.int v0]) (rest := []) EE hm hS (c_X3_isVersion l g M N Z x kp pf bs h nm ms sc sa fo br kf nw fm fs fa ff rv σ hC0 v0) ms_X3_isVersion wi_X3_isVersion ws_X3_isVersion wl_X3_64 e_x rfl rfl hl.1 rfl (Nat.le_of_ble_eq_true rfl) dX3_back_7 ⟨Nat.le_of_ble_eq_true rfl, Nat.le_of_ble_eq_true rfl⟩ ⟨(Nat.le_of_ble_eq_true rfl), (Nat.le_of_ble_eq_true rfl)⟩) hS (fun r1 Mx2 H locs hq3 hm hS => ?_)
    obtain ⟨rfl, h9⟩ := hq3
    rw [h9] at hm
    refine lv_if_ne (tgt := 15) hx hb dX3_back_10 (by decide) (fun c_10 => ?_) (fun c_10 => ?_)
    · have c_10 := bI_t c_10
      have h0v : 0 ≤ v0 := by
        rcases isV_nat hkc c_10 with ⟨h1, -⟩ | ⟨j, h1, h2, -⟩
        · exact absurd h1 c_2
        · rw [h2]; exact nI_pos' (by omega)
      refine lv_aload_n hx hb dX3_back_15 rfl (lv_at hl 0 rfl) ?_
      have e_x0 := e_x
      refine lv_aload_n hx hb dX3_back_16 rfl (lv_at hl 0 rfl) ?_
      refine lv_iload_n hx hb dX3_back_17 rfl (lv_at hl 1 rfl) ?_
      refine hp_cq (hp_runV (C := RX3) (T := TX3) (N := 6) (np := 1) (k := 1) (mc := 0) (ms := 0) (As := [.int v0]) (rest := [.ref x]) EE hm hS (c_X3_rootOf l g M N Z x kp pf bs h nm ms sc sa fo br kf nw fm fs fa ff rv σ hC0 v0) ms_X3_rootOf wi_X3_rootOf ws_X3_rootOf wl_X3_69 e_x rfl rfl hl.1 rfl (Nat.le_of_ble_eq_true rfl) dX3_back_18 ⟨Nat.le_of_ble_eq_true rfl, Nat.le_of_ble_eq_true rfl⟩ ⟨(Nat.le_of_ble_eq_true rfl), (Nat.le_of_ble_eq_true rfl)⟩) hS (fun r4 Mx5 H locs hq6 hm hS => ?_)
      obtain ⟨hro, h9⟩ := hq6
      rw [h9] at hm
      have hrt := rootR_rt hkc hvs hnw c_10
      rw [← hro] at hrt
      have hgm := mapV_g ⟨hkc, hvg, hgn, hpl, hpk⟩ c_10
      refine hp_put (C := RX3) (T := TX3) (N := 6) (v := va_rf r4) (ty := .object "ProofMap$Node") EE hm hS e_x inh3 tyX3 tyX3_ok nmX3 rfl 2 (by decide) wf_X3_19 rfl (by decide +kernel) (by cases r4 <;> rfl) (by cases r4 <;> rfl) (Nat.le_of_ble_eq_true rfl) dX3_back_21 (fun H locs hm hS => ?_)
      obtain ⟨Mx7, hMx7⟩ : ∃ Mz, Mz = hm_up M x (.inr (3, [.ref kp, .int (nI (sKc σ)), va_rf r4, .ref pf, .ref h, .ref fo])) := ⟨_, rfl⟩
      have hm : hp g Mx7 H := by rw [hMx7]; exact hm
      have e_kp : Mx7 kp = some (aN g 60 kf) := by rw [hMx7]; exact up_at (ne_lk e_kp e_x (by simp)) e_kp
      have e_pf : Mx7 pf = some (.inr (2, [.ref bs, .int (nI (sPl σ)), .int (bI (sPe σ)), .int (sPk σ), .int (sPv σ)])) := by rw [hMx7]; exact up_at (ne_lk e_pf e_x (by simp)) e_pf
      have e_bs : Mx7 bs = some (aR g 16 (fun i => some (br i))) := by rw [hMx7]; exact up_at (ne_lk e_bs e_x (by simp)) e_bs
      have e_x : Mx7 x = some (.inr (3, [.ref kp, .int (nI (sKc σ)), va_rf r4, .ref pf, .ref h, .ref fo])) := by rw [hMx7]; exact up_eq
      have hP1 := CX.cob hC0 (M9 := Mx7) (vs := sVs σ) e_x (fun q hq => by rw [hMx7, up_ne hq]) hkc hvg hgm hvs hrt
      refine lv_aload_n hx hb dX3_back_24 rfl (lv_at hl 0 rfl) ?_
      refine hp_get (C := RX3) (T := TX3) (N := 6) (v := va_rf r4) EE hm e_x inh3 rfl 2 (by decide) wf_X3_19 rfl dX3_back_25 ?_
      refine hp_ci (hp_runS (np := 1) (k := 1) (mc := 0) (ms := 0) (As := [va_rf r4]) (rest := []) EE hm hS (c_X3_countOf l g Mx7 N Z (hW.chg (a := x) (fun q hq => by rw [hMx7, up_ne hq]) (N_obj hW e_x0 (by decide)) (Z_obj hW e_x0)) r4 16 _ hrt) ms_X3_countOf wt_X3_countOf wl_X3_53 rfl hl.1 rfl (Nat.le_of_ble_eq_true rfl) dX3_back_28 ⟨Nat.le_of_ble_eq_true rfl, Nat.le_of_ble_eq_true rfl⟩ ⟨(Nat.le_of_ble_eq_true rfl), (Nat.le_of_ble_eq_true rfl)⟩) hS (fun r8 Mx9 H locs hq10 hm hS => ?_)
      obtain ⟨rfl, h9⟩ := hq10
      rw [h9] at hm
      exact ret dX3_back_31 na_i hm hS (Nat.le_of_ble_eq_true rfl) (Nat.le_of_ble_eq_true rfl) (⟨by unfold sBack; rw [c_10, decide_eq_true h0v]; rfl, by unfold sBack; rw [c_10, decide_eq_true h0v]; exact hP1⟩)
    · have c_10 := bI_f c_10
      refine lv_iconst (v := (-1)) hx hb dX3_back_13 (by decide) ?_
      exact ret dX3_back_14 na_i hm hS (Nat.le_of_ble_eq_true rfl) (Nat.le_of_ble_eq_true rfl) (⟨by unfold sBack; first | (rw [c_10]; rfl) | (rw [c_2, show decide ((0 : Int32) ≤ -1) = false by decide, Bool.and_false]; rfl), by unfold sBack; first | (rw [c_10]; exact CP.rf hC0) | (rw [c_2, show decide ((0 : Int32) ≤ -1) = false by decide, Bool.and_false]; exact CP.rf hC0)⟩)
theorem putL_g {E : En} {k : Nat} {v : Int32} (h : gE E) (hk : k < 65536) (hl : (putL k v E).length ≤ 300) : gE (putL k v E) := ⟨putL_srt h.1, hl, fun x hx => by
  rcases putL_mem hx with q | q
  · rw [q]; exact hk
  · exact h.2.2 x q⟩
theorem remL_g {E : En} {k : Nat} (h : gE E) : gE (remL k E) := ⟨List.Pairwise.filter _ h.1, Nat.le_trans (List.length_filter_le _ _) h.2.1, fun x hx => h.2.2 x (List.mem_filter.mp hx).1⟩
theorem putL_has {k : Nat} {v : Int32} : ∀ {E : En}, srt E → hasE E k = true → (putL k v E).length = E.length
  | [], _, h => by simp [hasE, lkE] at h
  | x :: t, hs, h => by
    rw [putL_cons]
    obtain ⟨h1, h2⟩ := List.pairwise_cons.mp hs
    by_cases q2 : k = x.1
    · rw [if_neg (by omega), if_pos q2]; rfl
    · have ht : hasE t k = true := by
        unfold hasE at h ⊢
        rw [lkE_cons, if_neg (Ne.symm q2)] at h
        exact h
      have hlt : x.1 < k := by
        unfold hasE lkE at ht
        cases hf : t.find? (fun x => x.1 == k) with
        | none => rw [hf] at ht; cases ht
        | some y =>
          have hy := List.find?_some hf
          have hm := List.mem_of_find?_eq_some hf
          have : y.1 = k := by simpa using hy
          rw [← this]; exact h1 y hm
      rw [if_neg (by omega), if_neg q2, List.length_cons, List.length_cons, putL_has h2 ht]
theorem isEn_has {E : En} {k : Nat} (hk : k < 65536) (hg : gE E) : isEn (endE 16 k E) k = hasE E k := by
  have := end_lk k 16 E (pre_16 hk hg.2.2) hg.1
  unfold hasE
  rw [this]
  cases isEn (endE 16 k E) k <;> rfl
set_option maxHeartbeats 4000000 in
set_option maxRecDepth 100000 in
theorem c_X3_put (l : Launch) (g : hG) (M : hM) (N Z : gT) (x kp pf bs h nm ms sc sa fo : Nat) (br : Nat → Nat) (kf : Nat → Option Nat) (nw : Option Nat) (fm fs fa ff : Nat → Int32) (rv : Nat → Nat → Int32) (σ : cSt) (hC : CX g M N Z x kp pf bs h nm ms sc sa fo br kf nw fm fs fa ff rv σ) (k0 v0 : Int32) : Ci l g yX3_put cX3_put 4 .int 21 17 102 [.ref x, .int k0, .int v0] M (fun r M9 => r = (sPut σ k0 v0).1 ∧ CP g M N Z x kp pf bs h nm ms sc sa fo br 17 0 M9 ((sPut σ k0 v0).2)) := by
  have hC0 := hC
  obtain ⟨hW, hH, e_x, e_kp, e_pf, e_bs, e_br, e_fo, hDA, hZn, hok, hvs, hnw, hsb⟩ := hC
  have hok0 := hok
  obtain ⟨hkc, hvg, hgn, hpl, hpk⟩ := hok
  refine hp_startI (by decide) (by exact Nat.le_of_ble_eq_true rfl) ?_
  intro p e s m below meth c Q H locs ls EE hnm ret hm hS hl
  have hx := EE.1
  have hb := EE.2.1
  have hown := EE.2.2.2.1
  have hts := EE.2.2.2.2.1
  have hl : lv_has ls 4 [(0, .ref x), (1, .int k0), (2, .int v0)] := hl
  refine lv_iload_n hx hb dX3_put_0 rfl (lv_at hl 1 rfl) ?_
  refine hp_ci (hp_runS (np := 1) (k := 1) (mc := 0) (ms := 0) (As := [.int k0]) (rest := []) EE hm hS (c_X3_isKey l g M k0) ms_X3_isKey wt_X3_isKey wl_X3_41 rfl hl.1 rfl (Nat.le_of_ble_eq_true rfl) dX3_put_1 ⟨Nat.le_of_ble_eq_true rfl, Nat.le_of_ble_eq_true rfl⟩ ⟨(Nat.le_of_ble_eq_true rfl), (Nat.le_of_ble_eq_true rfl)⟩) hS (fun r1 Mx2 H locs hq3 hm hS => ?_)
  obtain ⟨rfl, h9⟩ := hq3
  rw [h9] at hm
  refine lv_if_ne (tgt := 9) hx hb dX3_put_4 (by decide) (fun c_4 => ?_) (fun c_4 => ?_)
  · have c_4 := bI_t c_4
    obtain ⟨kn, hkn, hke⟩ := isK_nat c_4
    subst hke
    have hcl : (nI kn).toNatClampNeg = kn := nI_clamp (by omega)
    refine lv_aload_n hx hb dX3_put_9 rfl (lv_at hl 0 rfl) ?_
    refine hp_get (C := RX3) (T := TX3) (N := 6) (v := va_rf nw) EE hm e_x inh3 rfl 2 (by decide) wf_X3_19 rfl dX3_put_10 ?_
    refine lv_iload_n hx hb dX3_put_13 rfl (lv_at hl 1 rfl) ?_
    refine hp_cq (hp_runS (np := 2) (k := 3) (mc := 0) (ms := 0) (As := [va_rf nw, .int (nI kn)]) (rest := []) EE hm hS (c_X3_endOf l g M N Z hW nw _ hnw kn hkn) ms_X3_endOf wt_X3_endOf wl_X3_45 rfl hl.1 rfl (Nat.le_of_ble_eq_true rfl) dX3_put_14 ⟨Nat.le_of_ble_eq_true rfl, Nat.le_of_ble_eq_true rfl⟩ ⟨(Nat.le_of_ble_eq_true rfl), (Nat.le_of_ble_eq_true rfl)⟩) hS (fun r4 Mx5 H locs hq6 hm hS => ?_)
    obtain ⟨⟨ne, hre⟩, h9⟩ := hq6
    rw [h9] at hm
    refine lv_iload_n hx hb dX3_put_17 rfl (lv_at hl 1 rfl) ?_
    refine hp_ci (hp_runS (np := 2) (k := 1) (mc := 0) (ms := 0) (As := [va_rf r4, .int (nI kn)]) (rest := []) EE hm hS (c_X3_isEntry l g M N Z hW r4 ne _ hre kn hkn) ms_X3_isEntry wt_X3_isEntry wl_X3_49 rfl hl.1 rfl (Nat.le_of_ble_eq_true rfl) dX3_put_18 ⟨Nat.le_of_ble_eq_true rfl, Nat.le_of_ble_eq_true rfl⟩ ⟨(Nat.le_of_ble_eq_true rfl), (Nat.le_of_ble_eq_true rfl)⟩) hS (fun r7 Mx8 H locs hq9 hm hS => ?_)
    obtain ⟨hr9, h9⟩ := hq9
    rw [h9] at hm
    rw [isEn_has hkn hgn] at hr9
    subst hr9
    refine lv_istore_n (lv' := [(3, .int (bI (hasE (sNow σ) kn))), (0, .ref x), (1, .int (nI kn)), (2, .int v0)]) hx hb dX3_put_21 rfl hl (by decide) rfl (fun ls hl => ?_)
    refine lv_iload_n hx hb dX3_put_22 rfl (lv_at hl 0 rfl) ?_
    refine lv_if_ne (tgt := 42) hx hb dX3_put_23 (by decide) (fun c_23 => ?_) (fun c_23 => ?_)
    · have c_23 := bI_t c_23
      have hbd : (putL kn v0 (sNow σ)).length ≤ 300 := by rw [putL_has hgn.1 c_23]; exact hgn.2.1
      refine lv_aload_n hx hb dX3_put_42 rfl (lv_at hl 1 rfl) ?_
      refine lv_aload_n hx hb dX3_put_43 rfl (lv_at hl 1 rfl) ?_
      refine hp_get (C := RX3) (T := TX3) (N := 6) (v := va_rf nw) EE hm e_x inh3 rfl 2 (by decide) wf_X3_19 rfl dX3_put_44 ?_
      refine lv_iconst (v := 0) hx hb dX3_put_47 (by decide) ?_
      refine lv_iload_n hx hb dX3_put_48 rfl (lv_at hl 2 rfl) ?_
      refine hp_new (C := RX1) (T := TX1) (N := 6) (ci := 1) (fs := [.int 0, .int 0, .int 0, .null, .null, .null]) EE hm hS inh1 tyX1 tyX1_ok rfl wc_X3_9 wa_X1 wn_X1 (by decide +kernel) (Nat.le_of_ble_eq_true rfl) (Nat.le_of_ble_eq_true rfl) dX3_put_49 (fun q10 H hq10 hm hS => ?_)
      obtain ⟨Mx11, hMx11⟩ : ∃ Mz, Mz = hm_up M q10 (.inr (1, [.int 0, .int 0, .int 0, .null, .null, .null])) := ⟨_, rfl⟩
      have hm : hp g Mx11 H := by rw [hMx11]; exact hm
      have e_x : Mx11 x = some (.inr (3, [.ref kp, .int (nI (sKc σ)), va_rf nw, .ref pf, .ref h, .ref fo])) := by rw [hMx11]; exact up_at (ne_new hq10 e_x) e_x
      have e_kp : Mx11 kp = some (aN g 60 kf) := by rw [hMx11]; exact up_at (ne_new hq10 e_kp) e_kp
      have e_pf : Mx11 pf = some (.inr (2, [.ref bs, .int (nI (sPl σ)), .int (bI (sPe σ)), .int (sPk σ), .int (sPv σ)])) := by rw [hMx11]; exact up_at (ne_new hq10 e_pf) e_pf
      have e_bs : Mx11 bs = some (aR g 16 (fun i => some (br i))) := by rw [hMx11]; exact up_at (ne_new hq10 e_bs) e_bs
      have e_q10 : Mx11 q10 = some (.inr (1, [.int 0, .int 0, .int 0, .null, .null, .null])) := by rw [hMx11]; exact up_eq
      refine lv_dup hx hb dX3_put_52 rfl ?_
      refine lv_iload_n hx hb dX3_put_53 rfl (lv_at hl 2 rfl) ?_
      refine lv_iload_n hx hb dX3_put_54 rfl (lv_at hl 3 rfl) ?_
      refine hp_cv (hp_runI (np := 2) (k := 1) (mc := 0) (ms := 0) (As := [.int (nI kn), .int v0]) (rest := [.ref q10, .int (nI kn), .int 0, va_rf nw, .ref x]) EE hm hS (c_X1_init l g Mx11 q10 (nI kn) v0 e_q10) ms_X1_init wi_X1_init rfl wl_X3_57 rfl hl.1 rfl (by cases nw <;> exact Nat.le_of_ble_eq_true rfl) dX3_put_55 ⟨Nat.le_of_ble_eq_true rfl, Nat.le_of_ble_eq_true rfl⟩ ⟨(Nat.le_of_ble_eq_true rfl), (Nat.le_of_ble_eq_true rfl)⟩) hS (fun Mx12 H locs hq13 hm hS => ?_)
      obtain ⟨e_n, hf9⟩ := hq13
      have hadd := WF.add (M9 := Mx12) (q := q10) (n := 0) (E := [(kn, v0)]) hW hq10 (fun y hy => by rw [hf9 y hy, hMx11, up_ne hy]) (fun N9 _ => ⟨nI kn, v0, none, none, none, e_n, fun b hb => (by cases hb), (by show (1 : Nat) < 2 ^ 30; decide), Or.inl ⟨kn, rfl, rfl, hkn, rfl, rfl⟩⟩)
      obtain ⟨hW1, hg1⟩ := hadd
      have hC1 := CX.gr hC0 hW1 hg1
      refine hp_cq (hp_runS (np := 4) (k := 20) (mc := 16) (ms := 96) (As := [va_rf nw, .int 0, .int (nI kn), .ref q10]) (rest := [.ref x]) EE hm hS (c_X3_replaced l g Z kn hkn (some v0) (some q10) 16 Mx12 _ hW1 nw (sNow σ) (hnw.mono hg1.1) 0 rfl hgn.1 (pre_16 hkn hgn.2.2) (by have := hgn.2.1; omega) ⟨0, nUp_eq, (by intro q; cases q), fun q => by simp [opL, putL] at q⟩) ms_X3_replaced wt_X3_replaced wl_X3_60 rfl hl.1 rfl (Nat.le_of_ble_eq_true rfl) dX3_put_58 ⟨Nat.le_of_ble_eq_true rfl, Nat.le_of_ble_eq_true rfl⟩ ⟨(Nat.le_of_ble_eq_true rfl), (Nat.le_of_ble_eq_true rfl)⟩) hS (fun r14 Mx15 H locs hq16 hm hS => ?_)
      obtain ⟨N2, hW2, hr2, hg2⟩ := hq16
      have hC2 := CX.gr hC1 hW2 hg2
      have e_x := hC2.2.2.1
      refine hp_put (C := RX3) (T := TX3) (N := 6) (v := va_rf r14) (ty := .object "ProofMap$Node") EE hm hS e_x inh3 tyX3 tyX3_ok nmX3 rfl 2 (by decide) wf_X3_19 rfl (by decide +kernel) (by cases r14 <;> rfl) (by cases r14 <;> rfl) (Nat.le_of_ble_eq_true rfl) dX3_put_61 (fun H locs hm hS => ?_)
      obtain ⟨Mx17, hMx17⟩ : ∃ Mz, Mz = hm_up Mx15 x (.inr (3, [.ref kp, .int (nI (sKc σ)), va_rf r14, .ref pf, .ref h, .ref fo])) := ⟨_, rfl⟩
      have hm : hp g Mx17 H := by rw [hMx17]; exact hm
      have e_x : Mx17 x = some (.inr (3, [.ref kp, .int (nI (sKc σ)), va_rf r14, .ref pf, .ref h, .ref fo])) := by rw [hMx17]; exact up_eq
      have hP2 := CX.cob hC2 (M9 := Mx17) (vs := sVs σ) e_x (fun q hq => by rw [hMx17, up_ne hq]) hkc hvg (putL_g hgn hkn hbd) hC2.2.2.2.2.2.2.2.2.2.2.2.1 hr2
      have hP3 := CP.gr (k := 17) (hg1.tr (k := 17) hg2 (Nat.le_refl _)) hP2 (Nat.le_refl _)
      refine lv_iload_n hx hb dX3_put_64 rfl (lv_at hl 0 rfl) ?_
      refine lv_if_eq (tgt := 72) hx hb dX3_put_65 (by decide) (fun c_65 => ?_) (fun c_65 => ?_)
      · have c_65 := bI_f c_65
        refine lv_iconst (v := 1) hx hb dX3_put_72 (by decide) ?_
        exact ret dX3_put_73 na_i hm hS (Nat.le_of_ble_eq_true rfl) (Nat.le_of_ble_eq_true rfl) (⟨by unfold sPut; rw [c_4, hcl, c_65]; first | (simp only [if_neg (show ¬ (sNow σ).length = 300 by omega)]; rfl) | (rw [c_23] at c_65; cases c_65), by unfold sPut; rw [c_4, hcl, c_65]; first | (simp only [if_neg (show ¬ (sNow σ).length = 300 by omega)]; exact hP3) | (rw [c_23] at c_65; cases c_65)⟩)
      · have c_65 := bI_t c_65
        refine lv_iconst (v := 0) hx hb dX3_put_68 (by decide) ?_
        refine lv_goto (tgt := 73) hx hb dX3_put_69 (by decide) ?_
        exact ret dX3_put_73 na_i hm hS (Nat.le_of_ble_eq_true rfl) (Nat.le_of_ble_eq_true rfl) (⟨by unfold sPut; rw [c_4, hcl, c_65]; rfl, by unfold sPut; rw [c_4, hcl, c_65]; exact hP3⟩)
    · have c_23 := bI_f c_23
      have hgl := hgn.2.1
      refine lv_aload_n hx hb dX3_put_26 rfl (lv_at hl 1 rfl) ?_
      refine hp_get (C := RX3) (T := TX3) (N := 6) (v := va_rf nw) EE hm e_x inh3 rfl 2 (by decide) wf_X3_19 rfl dX3_put_27 ?_
      refine hp_ci (hp_runS (np := 1) (k := 1) (mc := 0) (ms := 0) (As := [va_rf nw]) (rest := []) EE hm hS (c_X3_countOf l g M N Z hW nw 16 _ hnw) ms_X3_countOf wt_X3_countOf wl_X3_53 rfl hl.1 rfl (Nat.le_of_ble_eq_true rfl) dX3_put_30 ⟨Nat.le_of_ble_eq_true rfl, Nat.le_of_ble_eq_true rfl⟩ ⟨(Nat.le_of_ble_eq_true rfl), (Nat.le_of_ble_eq_true rfl)⟩) hS (fun r18 Mx19 H locs hq20 hm hS => ?_)
      obtain ⟨rfl, h9⟩ := hq20
      rw [h9] at hm
      refine lv_sipush (v := 300) hx hb dX3_put_33 (by decide) ?_
      refine lv_icmp_lt (tgt := 42) hx hb dX3_put_36 (by decide) (fun c_36 => ?_) (fun c_36 => ?_)
      · have c_36 : ((sNow σ).length) < 300 := (nI_ltI (a := (sNow σ).length) (b := 300) (by omega) (by decide)).mp c_36
        have hbd : (putL kn v0 (sNow σ)).length ≤ 300 := Nat.le_trans (putL_len kn v0 _) (by omega)
        refine lv_aload_n hx hb dX3_put_42 rfl (lv_at hl 1 rfl) ?_
        refine lv_aload_n hx hb dX3_put_43 rfl (lv_at hl 1 rfl) ?_
        refine hp_get (C := RX3) (T := TX3) (N := 6) (v := va_rf nw) EE hm e_x inh3 rfl 2 (by decide) wf_X3_19 rfl dX3_put_44 ?_
        refine lv_iconst (v := 0) hx hb dX3_put_47 (by decide) ?_
        refine lv_iload_n hx hb dX3_put_48 rfl (lv_at hl 2 rfl) ?_
        refine hp_new (C := RX1) (T := TX1) (N := 6) (ci := 1) (fs := [.int 0, .int 0, .int 0, .null, .null, .null]) EE hm hS inh1 tyX1 tyX1_ok rfl wc_X3_9 wa_X1 wn_X1 (by decide +kernel) (Nat.le_of_ble_eq_true rfl) (Nat.le_of_ble_eq_true rfl) dX3_put_49 (fun q21 H hq21 hm hS => ?_)
        obtain ⟨Mx22, hMx22⟩ : ∃ Mz, Mz = hm_up M q21 (.inr (1, [.int 0, .int 0, .int 0, .null, .null, .null])) := ⟨_, rfl⟩
        have hm : hp g Mx22 H := by rw [hMx22]; exact hm
        have e_x : Mx22 x = some (.inr (3, [.ref kp, .int (nI (sKc σ)), va_rf nw, .ref pf, .ref h, .ref fo])) := by rw [hMx22]; exact up_at (ne_new hq21 e_x) e_x
        have e_kp : Mx22 kp = some (aN g 60 kf) := by rw [hMx22]; exact up_at (ne_new hq21 e_kp) e_kp
        have e_pf : Mx22 pf = some (.inr (2, [.ref bs, .int (nI (sPl σ)), .int (bI (sPe σ)), .int (sPk σ), .int (sPv σ)])) := by rw [hMx22]; exact up_at (ne_new hq21 e_pf) e_pf
        have e_bs : Mx22 bs = some (aR g 16 (fun i => some (br i))) := by rw [hMx22]; exact up_at (ne_new hq21 e_bs) e_bs
        have e_q21 : Mx22 q21 = some (.inr (1, [.int 0, .int 0, .int 0, .null, .null, .null])) := by rw [hMx22]; exact up_eq
        refine lv_dup hx hb dX3_put_52 rfl ?_
        refine lv_iload_n hx hb dX3_put_53 rfl (lv_at hl 2 rfl) ?_
        refine lv_iload_n hx hb dX3_put_54 rfl (lv_at hl 3 rfl) ?_
        refine hp_cv (hp_runI (np := 2) (k := 1) (mc := 0) (ms := 0) (As := [.int (nI kn), .int v0]) (rest := [.ref q21, .int (nI kn), .int 0, va_rf nw, .ref x]) EE hm hS (c_X1_init l g Mx22 q21 (nI kn) v0 e_q21) ms_X1_init wi_X1_init rfl wl_X3_57 rfl hl.1 rfl (by cases nw <;> exact Nat.le_of_ble_eq_true rfl) dX3_put_55 ⟨Nat.le_of_ble_eq_true rfl, Nat.le_of_ble_eq_true rfl⟩ ⟨(Nat.le_of_ble_eq_true rfl), (Nat.le_of_ble_eq_true rfl)⟩) hS (fun Mx23 H locs hq24 hm hS => ?_)
        obtain ⟨e_n, hf9⟩ := hq24
        have hadd := WF.add (M9 := Mx23) (q := q21) (n := 0) (E := [(kn, v0)]) hW hq21 (fun y hy => by rw [hf9 y hy, hMx22, up_ne hy]) (fun N9 _ => ⟨nI kn, v0, none, none, none, e_n, fun b hb => (by cases hb), (by show (1 : Nat) < 2 ^ 30; decide), Or.inl ⟨kn, rfl, rfl, hkn, rfl, rfl⟩⟩)
        obtain ⟨hW1, hg1⟩ := hadd
        have hC1 := CX.gr hC0 hW1 hg1
        refine hp_cq (hp_runS (np := 4) (k := 20) (mc := 16) (ms := 96) (As := [va_rf nw, .int 0, .int (nI kn), .ref q21]) (rest := [.ref x]) EE hm hS (c_X3_replaced l g Z kn hkn (some v0) (some q21) 16 Mx23 _ hW1 nw (sNow σ) (hnw.mono hg1.1) 0 rfl hgn.1 (pre_16 hkn hgn.2.2) (by have := hgn.2.1; omega) ⟨0, nUp_eq, (by intro q; cases q), fun q => by simp [opL, putL] at q⟩) ms_X3_replaced wt_X3_replaced wl_X3_60 rfl hl.1 rfl (Nat.le_of_ble_eq_true rfl) dX3_put_58 ⟨Nat.le_of_ble_eq_true rfl, Nat.le_of_ble_eq_true rfl⟩ ⟨(Nat.le_of_ble_eq_true rfl), (Nat.le_of_ble_eq_true rfl)⟩) hS (fun r25 Mx26 H locs hq27 hm hS => ?_)
        obtain ⟨N2, hW2, hr2, hg2⟩ := hq27
        have hC2 := CX.gr hC1 hW2 hg2
        have e_x := hC2.2.2.1
        refine hp_put (C := RX3) (T := TX3) (N := 6) (v := va_rf r25) (ty := .object "ProofMap$Node") EE hm hS e_x inh3 tyX3 tyX3_ok nmX3 rfl 2 (by decide) wf_X3_19 rfl (by decide +kernel) (by cases r25 <;> rfl) (by cases r25 <;> rfl) (Nat.le_of_ble_eq_true rfl) dX3_put_61 (fun H locs hm hS => ?_)
        obtain ⟨Mx28, hMx28⟩ : ∃ Mz, Mz = hm_up Mx26 x (.inr (3, [.ref kp, .int (nI (sKc σ)), va_rf r25, .ref pf, .ref h, .ref fo])) := ⟨_, rfl⟩
        have hm : hp g Mx28 H := by rw [hMx28]; exact hm
        have e_x : Mx28 x = some (.inr (3, [.ref kp, .int (nI (sKc σ)), va_rf r25, .ref pf, .ref h, .ref fo])) := by rw [hMx28]; exact up_eq
        have hP2 := CX.cob hC2 (M9 := Mx28) (vs := sVs σ) e_x (fun q hq => by rw [hMx28, up_ne hq]) hkc hvg (putL_g hgn hkn hbd) hC2.2.2.2.2.2.2.2.2.2.2.2.1 hr2
        have hP3 := CP.gr (k := 17) (hg1.tr (k := 17) hg2 (Nat.le_refl _)) hP2 (Nat.le_refl _)
        refine lv_iload_n hx hb dX3_put_64 rfl (lv_at hl 0 rfl) ?_
        refine lv_if_eq (tgt := 72) hx hb dX3_put_65 (by decide) (fun c_65 => ?_) (fun c_65 => ?_)
        · have c_65 := bI_f c_65
          refine lv_iconst (v := 1) hx hb dX3_put_72 (by decide) ?_
          exact ret dX3_put_73 na_i hm hS (Nat.le_of_ble_eq_true rfl) (Nat.le_of_ble_eq_true rfl) (⟨by unfold sPut; rw [c_4, hcl, c_65]; first | (simp only [if_neg (show ¬ (sNow σ).length = 300 by omega)]; rfl) | (rw [c_23] at c_65; cases c_65), by unfold sPut; rw [c_4, hcl, c_65]; first | (simp only [if_neg (show ¬ (sNow σ).length = 300 by omega)]; exact hP3) | (rw [c_23] at c_65; cases c_65)⟩)
        · have c_65 := bI_t c_65
          refine lv_iconst (v := 0) hx hb dX3_put_68 (by decide) ?_
          refine lv_goto (tgt := 73) hx hb dX3_put_69 (by decide) ?_
          exact ret dX3_put_73 na_i hm hS (Nat.le_of_ble_eq_true rfl) (Nat.le_of_ble_eq_true rfl) (⟨by unfold sPut; rw [c_4, hcl, c_65]; rfl, by unfold sPut; rw [c_4, hcl, c_65]; exact hP3⟩)
      · have c_36 : ¬ ((sNow σ).length) < 300 := fun h9 => c_36 ((nI_ltI (a := (sNow σ).length) (b := 300) (by omega) (by decide)).mpr h9)
        have hl3 : (sNow σ).length = 300 := by have := hgn.2.1; omega
        refine lv_bipush (v := (-3)) hx hb dX3_put_39 (by decide) ?_
        exact ret dX3_put_41 na_i hm hS (Nat.le_of_ble_eq_true rfl) (Nat.le_of_ble_eq_true rfl) (⟨by unfold sPut; rw [c_4, hcl, c_23, if_pos hl3]; rfl, by unfold sPut; rw [c_4, hcl, c_23, if_pos hl3]; exact CP.rf hC0⟩)
  · have c_4 := bI_f c_4
    refine lv_iconst (v := (-1)) hx hb dX3_put_7 (by decide) ?_
    exact ret dX3_put_8 na_i hm hS (Nat.le_of_ble_eq_true rfl) (Nat.le_of_ble_eq_true rfl) (⟨by unfold sPut; rw [c_4]; rfl, by unfold sPut; rw [c_4]; exact CP.rf hC0⟩)
set_option maxHeartbeats 4000000 in
set_option maxRecDepth 100000 in
theorem c_X3_remove (l : Launch) (g : hG) (M : hM) (N Z : gT) (x kp pf bs h nm ms sc sa fo : Nat) (br : Nat → Nat) (kf : Nat → Option Nat) (nw : Option Nat) (fm fs fa ff : Nat → Int32) (rv : Nat → Nat → Int32) (σ : cSt) (hC : CX g M N Z x kp pf bs h nm ms sc sa fo br kf nw fm fs fa ff rv σ) (k0 : Int32) : Ci l g yX3_remove cX3_remove 2 .int 21 17 102 [.ref x, .int k0] M (fun r M9 => r = (sRem σ k0).1 ∧ CP g M N Z x kp pf bs h nm ms sc sa fo br 17 0 M9 ((sRem σ k0).2)) := by
  have hC0 := hC
  obtain ⟨hW, hH, e_x, e_kp, e_pf, e_bs, e_br, e_fo, hDA, hZn, hok, hvs, hnw, hsb⟩ := hC
  have hok0 := hok
  obtain ⟨hkc, hvg, hgn, hpl, hpk⟩ := hok
  refine hp_startI (by decide) (by exact Nat.le_of_ble_eq_true rfl) ?_
  intro p e s m below meth c Q H locs ls EE hnm ret hm hS hl
  have hx := EE.1
  have hb := EE.2.1
  have hown := EE.2.2.2.1
  have hts := EE.2.2.2.2.1
  have hl : lv_has ls 2 [(0, .ref x), (1, .int k0)] := hl
  refine lv_iload_n hx hb dX3_remove_0 rfl (lv_at hl 1 rfl) ?_
  refine hp_ci (hp_runS (np := 1) (k := 1) (mc := 0) (ms := 0) (As := [.int k0]) (rest := []) EE hm hS (c_X3_isKey l g M k0) ms_X3_isKey wt_X3_isKey wl_X3_41 rfl hl.1 rfl (Nat.le_of_ble_eq_true rfl) dX3_remove_1 ⟨Nat.le_of_ble_eq_true rfl, Nat.le_of_ble_eq_true rfl⟩ ⟨(Nat.le_of_ble_eq_true rfl), (Nat.le_of_ble_eq_true rfl)⟩) hS (fun r1 Mx2 H locs hq3 hm hS => ?_)
  obtain ⟨rfl, h9⟩ := hq3
  rw [h9] at hm
  refine lv_if_ne (tgt := 9) hx hb dX3_remove_4 (by decide) (fun c_4 => ?_) (fun c_4 => ?_)
  · have c_4 := bI_t c_4
    obtain ⟨kn, hkn, hke⟩ := isK_nat c_4
    subst hke
    have hcl : (nI kn).toNatClampNeg = kn := nI_clamp (by omega)
    refine lv_aload_n hx hb dX3_remove_9 rfl (lv_at hl 0 rfl) ?_
    refine hp_get (C := RX3) (T := TX3) (N := 6) (v := va_rf nw) EE hm e_x inh3 rfl 2 (by decide) wf_X3_19 rfl dX3_remove_10 ?_
    refine lv_iload_n hx hb dX3_remove_13 rfl (lv_at hl 1 rfl) ?_
    refine hp_cq (hp_runS (np := 2) (k := 3) (mc := 0) (ms := 0) (As := [va_rf nw, .int (nI kn)]) (rest := []) EE hm hS (c_X3_endOf l g M N Z hW nw _ hnw kn hkn) ms_X3_endOf wt_X3_endOf wl_X3_45 rfl hl.1 rfl (Nat.le_of_ble_eq_true rfl) dX3_remove_14 ⟨Nat.le_of_ble_eq_true rfl, Nat.le_of_ble_eq_true rfl⟩ ⟨(Nat.le_of_ble_eq_true rfl), (Nat.le_of_ble_eq_true rfl)⟩) hS (fun r4 Mx5 H locs hq6 hm hS => ?_)
    obtain ⟨⟨ne, hre⟩, h9⟩ := hq6
    rw [h9] at hm
    refine lv_iload_n hx hb dX3_remove_17 rfl (lv_at hl 1 rfl) ?_
    refine hp_ci (hp_runS (np := 2) (k := 1) (mc := 0) (ms := 0) (As := [va_rf r4, .int (nI kn)]) (rest := []) EE hm hS (c_X3_isEntry l g M N Z hW r4 ne _ hre kn hkn) ms_X3_isEntry wt_X3_isEntry wl_X3_49 rfl hl.1 rfl (Nat.le_of_ble_eq_true rfl) dX3_remove_18 ⟨Nat.le_of_ble_eq_true rfl, Nat.le_of_ble_eq_true rfl⟩ ⟨(Nat.le_of_ble_eq_true rfl), (Nat.le_of_ble_eq_true rfl)⟩) hS (fun r7 Mx8 H locs hq9 hm hS => ?_)
    obtain ⟨hr9, h9⟩ := hq9
    rw [h9] at hm
    rw [isEn_has hkn hgn] at hr9
    subst hr9
    refine lv_if_ne (tgt := 26) hx hb dX3_remove_21 (by decide) (fun c_21 => ?_) (fun c_21 => ?_)
    · have c_21 := bI_t c_21
      refine lv_aload_n hx hb dX3_remove_26 rfl (lv_at hl 0 rfl) ?_
      refine lv_aload_n hx hb dX3_remove_27 rfl (lv_at hl 0 rfl) ?_
      refine hp_get (C := RX3) (T := TX3) (N := 6) (v := va_rf nw) EE hm e_x inh3 rfl 2 (by decide) wf_X3_19 rfl dX3_remove_28 ?_
      refine lv_iconst (v := 0) hx hb dX3_remove_31 (by decide) ?_
      refine lv_iload_n hx hb dX3_remove_32 rfl (lv_at hl 1 rfl) ?_
      refine lv_null hx hb dX3_remove_33 ?_
      refine hp_cq (hp_runS (np := 4) (k := 20) (mc := 16) (ms := 96) (As := [va_rf nw, .int 0, .int (nI kn), .null]) (rest := [.ref x]) EE hm hS (c_X3_replaced l g Z kn hkn none none 16 M N hW nw (sNow σ) hnw 0 rfl hgn.1 (pre_16 hkn hgn.2.2) (by have := hgn.2.1; omega) rfl) ms_X3_replaced wt_X3_replaced wl_X3_60 rfl hl.1 rfl (Nat.le_of_ble_eq_true rfl) dX3_remove_34 ⟨Nat.le_of_ble_eq_true rfl, Nat.le_of_ble_eq_true rfl⟩ ⟨(Nat.le_of_ble_eq_true rfl), (Nat.le_of_ble_eq_true rfl)⟩) hS (fun r10 Mx11 H locs hq12 hm hS => ?_)
      obtain ⟨N2, hW2, hr2, hg2⟩ := hq12
      have hC2 := CX.gr hC0 hW2 hg2
      have e_x := hC2.2.2.1
      refine hp_put (C := RX3) (T := TX3) (N := 6) (v := va_rf r10) (ty := .object "ProofMap$Node") EE hm hS e_x inh3 tyX3 tyX3_ok nmX3 rfl 2 (by decide) wf_X3_19 rfl (by decide +kernel) (by cases r10 <;> rfl) (by cases r10 <;> rfl) (Nat.le_of_ble_eq_true rfl) dX3_remove_37 (fun H locs hm hS => ?_)
      obtain ⟨Mx13, hMx13⟩ : ∃ Mz, Mz = hm_up Mx11 x (.inr (3, [.ref kp, .int (nI (sKc σ)), va_rf r10, .ref pf, .ref h, .ref fo])) := ⟨_, rfl⟩
      have hm : hp g Mx13 H := by rw [hMx13]; exact hm
      have e_x : Mx13 x = some (.inr (3, [.ref kp, .int (nI (sKc σ)), va_rf r10, .ref pf, .ref h, .ref fo])) := by rw [hMx13]; exact up_eq
      have hP2 := CX.cob hC2 (M9 := Mx13) (vs := sVs σ) e_x (fun q hq => by rw [hMx13, up_ne hq]) hkc hvg (remL_g hgn) hC2.2.2.2.2.2.2.2.2.2.2.2.1 hr2
      have hP3 := CP.gr (k := 17) hg2 hP2 (by omega)
      refine lv_iconst (v := 1) hx hb dX3_remove_40 (by decide) ?_
      exact ret dX3_remove_41 na_i hm hS (Nat.le_of_ble_eq_true rfl) (Nat.le_of_ble_eq_true rfl) (⟨by unfold sRem; rw [c_4, hcl, c_21]; rfl, by unfold sRem; rw [c_4, hcl, c_21]; exact hP3⟩)
    · have c_21 := bI_f c_21
      refine lv_iconst (v := 0) hx hb dX3_remove_24 (by decide) ?_
      exact ret dX3_remove_25 na_i hm hS (Nat.le_of_ble_eq_true rfl) (Nat.le_of_ble_eq_true rfl) (⟨by unfold sRem; rw [c_4, hcl, c_21]; rfl, by unfold sRem; rw [c_4, hcl, c_21]; exact CP.rf hC0⟩)
  · have c_4 := bI_f c_4
    refine lv_iconst (v := (-1)) hx hb dX3_remove_7 (by decide) ?_
    exact ret dX3_remove_8 na_i hm hS (Nat.le_of_ble_eq_true rfl) (Nat.le_of_ble_eq_true rfl) (⟨by unfold sRem; rw [c_4]; rfl, by unfold sRem; rw [c_4]; exact CP.rf hC0⟩)
