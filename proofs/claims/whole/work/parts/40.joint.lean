/-! both programs in one memory -/
theorem udT_le {g : hG} {M : hM} {N Z : gT} (hW : WF g M N Z) : ∀ (n : Nat) (r : Option Nat) (E : En), rt N r n E → udT n M r ≤ E.length * (n + 1) := by
  intro n
  induction n with
  | zero =>
    intro r E h
    cases r with
    | none => rw [udT_none]; exact Nat.zero_le _
    | some a =>
      obtain ⟨n', h1, h2, h3⟩ := h
      have hl := List.length_pos_iff.mpr h2
      show (if und M a then 1 else 0) ≤ _
      by_cases hu : und M a = true
      · rw [if_pos hu]; omega
      · rw [if_neg hu]; omega
  | succ n ih =>
    intro r E h
    cases r with
    | none => rw [udT_none]; exact Nat.zero_le _
    | some a =>
      have h0 := h
      obtain ⟨n', h1, h2, h3⟩ := h0
      have hl := List.length_pos_iff.mpr h2
      show (if und M a then 1 + udT n M (lf M a 3) + udT n M (lf M a 4) else 0) ≤ _
      by_cases hu : und M a = true
      · rw [if_pos hu]
        by_cases hE : E.length ≤ 1
        · obtain ⟨ky, vl, z, o, dg, e1, -, -, hc⟩ := hW.1 a n' E h1
          rcases hc with ⟨k, q1, q2, q3, q4, q5⟩ | ⟨m, q1, q2, q3, -⟩
          · rw [lf_3 e1, lf_4 e1, q4, q5, udT_none]
            have : 1 * 1 ≤ E.length * (n + 1 + 1) := Nat.mul_le_mul hl (by omega)
            omega
          · omega
        · have hf := ih _ _ (lfB_rt hW h hE false)
          have ht := ih _ _ (lfB_rt hW h hE true)
          rw [show lfB M a false = lf M a 3 from if_neg (by decide)] at hf
          rw [show lfB M a true = lf M a 4 from if_pos rfl] at ht
          have hs := spl_len n E
          have e1 : (spl n false E).length * (n + 1) + (spl n true E).length * (n + 1) = E.length * (n + 1) := by rw [← Nat.add_mul, hs]
          have e2 : E.length * (n + 1 + 1) = E.length * (n + 1) + E.length := by rw [Nat.mul_succ]
          omega
      · rw [if_neg hu]; exact Nat.zero_le _
theorem prU_le {g : hG} {M : hM} {N Z : gT} (hW : WF g M N Z) (k : Nat) : ∀ (n : Nat) (r : Option Nat) (E : En), rt N r n E → prU n M r k E ≤ E.length * (n + 1) := by
  intro n
  induction n with
  | zero => intro r E _; exact Nat.zero_le _
  | succ n ih =>
    intro r E h
    by_cases hE : E.length ≤ 1
    · rw [prU_1 hE]; exact Nat.zero_le _
    · cases r with
      | none => rw [show E = [] from h] at hE; exact absurd (Nat.zero_le 1) hE
      | some a =>
        rw [prU_2 hE]
        have hf := udT_le hW n _ _ (lfB_rt hW h hE (!(k.testBit n)))
        have ht := ih _ _ (lfB_rt hW h hE (k.testBit n))
        have hs := spl_len n E
        have e1 : (spl n false E).length * (n + 1) + (spl n true E).length * (n + 1) = E.length * (n + 1) := by rw [← Nat.add_mul, hs]
        have e2 : E.length * (n + 1 + 1) = E.length * (n + 1) + E.length := by rw [Nat.mul_succ]
        cases hb : k.testBit n <;> rw [hb] at hf ht <;> simp only [Bool.not_true, Bool.not_false] at hf ht ⊢ <;> omega
section JW
variable {g : hG} {M M9 : hM} {N Z : gT} {x y kp pf bs h nm ms sc sa fo : Nat} {br : Nat → Nat} {kf : Nat → Option Nat} {nw : Option Nat} {fm fs fa ff : Nat → Int32} {rv : Nat → Nat → Int32} {σ σr σ9 : cSt} {ad : Nat → Nat} {S : Nat → Nat → Int32} {V : Nat → Int32}
theorem mul_300 {a : Nat} (h : a ≤ 300) : a * (16 + 1) ≤ 5100 := by omega
theorem uWord_le (hC : CX g M N Z x kp pf bs h nm ms sc sa fo br kf nw fm fs fa ff rv σ) (v i : Int32) : uWord M kf nw σ v i ≤ 5100 := by
  obtain ⟨hW, -, -, -, -, -, -, -, -, -, hok, hvs, hnw, -⟩ := hC
  unfold uWord
  cases hv : isV σ v with
  | false => rw [Bool.false_and]; exact Nat.zero_le _
  | true =>
    cases hi : isW i with
    | false => exact Nat.zero_le _
    | true => exact Nat.le_trans (udT_le hW 16 _ _ (rootR_rt hok.1 hvs hnw hv)) (mul_300 (mapV_g hok hv).2.1)
theorem uVer_le (hC : CX g M N Z x kp pf bs h nm ms sc sa fo br kf nw fm fs fa ff rv σ) (v k : Int32) : uVer M kf nw σ v k ≤ 5100 := by
  obtain ⟨hW, -, -, -, -, -, -, -, -, -, hok, hvs, hnw, -⟩ := hC
  unfold uVer
  cases hv : isV σ v with
  | false => rw [Bool.false_and]; exact Nat.zero_le _
  | true =>
    cases hi : isK k with
    | false => exact Nat.zero_le _
    | true =>
      cases hf : fitV σ k.toNatClampNeg with
      | false => exact Nat.zero_le _
      | true => exact Nat.le_trans (udT_le hW 16 _ _ (rootR_rt hok.1 hvs hnw hv)) (mul_300 (mapV_g hok hv).2.1)
theorem uProve_le (hC : CX g M N Z x kp pf bs h nm ms sc sa fo br kf nw fm fs fa ff rv σ) (v k : Int32) : uProve M kf nw σ v k ≤ 5100 := by
  obtain ⟨hW, -, -, -, -, -, -, -, -, -, hok, hvs, hnw, -⟩ := hC
  unfold uProve
  cases hv : isV σ v with
  | false => rw [Bool.false_and]; exact Nat.zero_le _
  | true =>
    cases hi : isK k with
    | false => exact Nat.zero_le _
    | true => exact Nat.le_trans (prU_le hW _ 16 _ _ (rootR_rt hok.1 hvs hnw hv)) (mul_300 (mapV_g hok hv).2.1)
/-- the reference's cells as they were: its world as it was -/
theorem RW.fr (hw : RW g M y ad S V σ) (hf : ∀ q e, rO y ad q → M q = some e → M9 q = some e) : RW g M9 y ad S V σ := by
  obtain ⟨⟨h1, h2, h3⟩, h4⟩ := hw
  exact ⟨⟨hf _ _ (Or.inl rfl) h1, fun k hk => hf _ _ (Or.inr ⟨k, hk, rfl⟩) (h2 k hk), h3⟩, h4⟩
theorem RW.in (hw : RW g M y ad S V σ) {q : Nat} (hq : rO y ad q) : ∃ e, M q = some e ∧ und M q = false := by
  obtain ⟨⟨h1, h2, h3⟩, -⟩ := hw
  rcases hq with t | ⟨k, hk, t⟩
  · exact ⟨_, by rw [t]; exact h1, by rw [t]; exact und_obj h1 (by decide)⟩
  · exact ⟨_, by rw [t]; exact h2 k hk, by rw [t]; exact und_arr (h2 k hk)⟩
/-- all cells of the class -/
def cO (N Z : gT) (x kp pf bs h nm ms sc sa fo : Nat) (br : Nat → Nat) (q : Nat) : Prop := ow (nz N Z) x kp pf ms sc sa fo br q ∨ q = bs ∨ q = h ∨ q = nm
theorem CX.fr (hC : CX g M N Z x kp pf bs h nm ms sc sa fo br kf nw fm fs fa ff rv σ) (hf : ∀ q, cO N Z x kp pf bs h nm ms sc sa fo br q → M9 q = M q) : CX g M9 N Z x kp pf bs h nm ms sc sa fo br kf nw fm fs fa ff rv σ := by
  obtain ⟨hW, ⟨q1, q2, q3, q4, ⟨fn, q5, q6⟩, q7⟩, e_x, e_kp, e_pf, e_bs, e_br, e_fo, hr⟩ := hC
  have f : ∀ q, ow (nz N Z) x kp pf ms sc sa fo br q → M9 q = M q := fun q hq => hf q (Or.inl hq)
  refine ⟨hW.frame (fun q y hq => f q (Or.inl (nz_s (by rw [hq]; exact fun z => by cases z)))) (fun q y hq => f q (Or.inl (fun z => ?_))), ⟨(hf h (Or.inr (Or.inr (Or.inl rfl)))).trans q1, (f ms (Or.inr (Or.inr (Or.inr (Or.inr (Or.inl rfl)))))).trans q2, (f sc (Or.inr (Or.inr (Or.inr (Or.inr (Or.inr (Or.inl rfl))))))).trans q3, (f sa (Or.inr (Or.inr (Or.inr (Or.inr (Or.inr (Or.inr (Or.inl rfl)))))))).trans q4, ⟨fn, (hf nm (Or.inr (Or.inr (Or.inr rfl)))).trans q5, q6⟩, q7⟩, (f x (Or.inr (Or.inl rfl))).trans e_x, (f kp (Or.inr (Or.inr (Or.inl rfl)))).trans e_kp, (f pf (Or.inr (Or.inr (Or.inr (Or.inl rfl))))).trans e_pf, (hf bs (Or.inr (Or.inl rfl))).trans e_bs, fun i hi => (f _ (Or.inr (Or.inr (Or.inr (Or.inr (Or.inr (Or.inr (Or.inr (Or.inr ⟨i, hi, rfl⟩))))))))).trans (e_br i hi), (f fo (Or.inr (Or.inr (Or.inr (Or.inr (Or.inr (Or.inr (Or.inr (Or.inl rfl))))))))).trans e_fo, hr⟩
  rw [(nz_0 z).2] at hq
  cases hq
theorem CX.in (hC : CX g M N Z x kp pf bs h nm ms sc sa fo br kf nw fm fs fa ff rv σ) {q : Nat} (hq : cO N Z x kp pf bs h nm ms sc sa fo br q) : ∃ e, M q = some e := by
  obtain ⟨hW, ⟨q1, q2, q3, q4, ⟨fn, q5, q6⟩, q7⟩, e_x, e_kp, e_pf, e_bs, e_br, e_fo, hr⟩ := hC
  rcases hq with (t | t | t | t | t | t | t | t | ⟨i, hi, t⟩) | t | t | t
  · cases hn : N q with
    | some y =>
      obtain ⟨ky, vl, z, o, dg, e1, -⟩ := hW.1 q y.1 y.2 hn
      exact ⟨_, e1⟩
    | none =>
      rw [nz_n hn] at t
      cases hz : Z q with
      | none => exact absurd hz t
      | some y =>
        obtain ⟨f, e1, -⟩ := hW.2 q y.1 y.2 hz
        exact ⟨_, e1⟩
  · exact ⟨_, by rw [t]; exact e_x⟩
  · exact ⟨_, by rw [t]; exact e_kp⟩
  · exact ⟨_, by rw [t]; exact e_pf⟩
  · exact ⟨_, by rw [t]; exact q2⟩
  · exact ⟨_, by rw [t]; exact q3⟩
  · exact ⟨_, by rw [t]; exact q4⟩
  · exact ⟨_, by rw [t]; exact e_fo⟩
  · exact ⟨_, by rw [t]; exact e_br i hi⟩
  · exact ⟨_, by rw [t]; exact e_bs⟩
  · exact ⟨_, by rw [t]; exact q1⟩
  · exact ⟨_, by rw [t]; exact q5⟩
end JW
/-- both worlds in one picture, apart; at most c nodes without digest -/
def BW (g : hG) (M : hM) (x y : Nat) (σ σr : cSt) (c : Nat) : Prop :=
  ∃ N Z kp pf bs h nm ms sc sa fo br kf nw fm fs fa ff rv ad S V, CX g M N Z x kp pf bs h nm ms sc sa fo br kf nw fm fs fa ff rv σ ∧ RW g M y ad S V σr ∧ (∀ q, rO y ad q → ¬ cO N Z x kp pf bs h nm ms sc sa fo br q) ∧ pt M c
section JS
variable {g : hG} {M M9 : hM} {N Z : gT} {x y kp pf bs h nm ms sc sa fo : Nat} {br : Nat → Nat} {kf : Nat → Option Nat} {nw : Option Nat} {fm fs fa ff : Nat → Int32} {rv : Nat → Nat → Int32} {σ σr σ9 : cSt} {ad : Nat → Nat} {S : Nat → Nat → Int32} {V : Nat → Int32} {c k u : Nat}
/-- a call of the class -/
theorem cstep (hw : RW g M y ad S V σr) (hd : ∀ q, rO y ad q → ¬ cO N Z x kp pf bs h nm ms sc sa fo br q) (hp : pt M c) (hP : CP g M N Z x kp pf bs h nm ms sc sa fo br k u M9 σ9) : ∃ c9, BW g M9 x y σ9 σr c9 ∧ c9 + u ≤ c + k := by
  obtain ⟨N9, Z9, kf9, nw9, fm9, fs9, fa9, ff9, rv9, hC9, hF, hc⟩ := hP
  obtain ⟨c9, p9, e9⟩ := hc c hp
  refine ⟨c9, ⟨N9, Z9, kp, pf, bs, h, nm, ms, sc, sa, fo, br, kf9, nw9, fm9, fs9, fa9, ff9, rv9, ad, S, V, hC9, hw.fr (fun q e hq he => (hF q e he (fun t => hd q hq (Or.inl t))).1), fun q hq t => ?_, p9⟩, e9⟩
  obtain ⟨e, he, -⟩ := hw.in hq
  rcases t with t | t
  · exact (hF q e he (fun t => hd q hq (Or.inl t))).2 t
  · exact hd q hq (Or.inr t)
/-- a call of the reference -/
theorem rstep (hC : CX g M N Z x kp pf bs h nm ms sc sa fo br kf nw fm fs fa ff rv σ) (hd : ∀ q, rO y ad q → ¬ cO N Z x kp pf bs h nm ms sc sa fo br q) (hp : pt M c) (hP : RP g M y ad M9 σ9) : BW g M9 x y σ σ9 c := by
  obtain ⟨S9, V9, hw9, hF⟩ := hP
  refine ⟨N, Z, kp, pf, bs, h, nm, ms, sc, sa, fo, br, kf, nw, fm, fs, fa, ff, rv, ad, S9, V9, hC.fr (fun q hq => hF q (fun t => hd q t hq)), hw9, hd, hp.same (fun q hq => ?_)⟩
  by_cases t : rO y ad q
  · obtain ⟨-, -, h2⟩ := hw9.in t
    rw [h2] at hq; cases hq
  · rw [← und_same (hF q t)]; exact hq
theorem BW.of (hC : CX g M N Z x kp pf bs h nm ms sc sa fo br kf nw fm fs fa ff rv σ) (hw : RW g M y ad S V σr) (hd : ∀ q, rO y ad q → ¬ cO N Z x kp pf bs h nm ms sc sa fo br q) (hp : pt M c) : BW g M x y σ σr c :=
  ⟨N, Z, kp, pf, bs, h, nm, ms, sc, sa, fo, br, kf, nw, fm, fs, fa, ff, rv, ad, S, V, hC, hw, hd, hp⟩
/-- the start: the class is made, then the reference -/
theorem BW.mk {M0 M1 M2 M3 : hM} (hC : CX g M1 N Z x kp pf bs h nm ms sc sa fo br kf nw fm fs fa ff rv σ) (hu : ∀ q, und M1 q = true → und M0 q = true) (h0 : ∀ q, und M0 q = false) (hy : M1 y = none) (h2 : ∀ q, q ≠ y → M2 q = M1 q) (hw : RW g M3 y ad S V σr) (hf : ∀ k ∈ AR, M2 (ad k) = none) (hF : ∀ q, q ≠ y → (∀ k ∈ AR, q ≠ ad k) → M3 q = M2 q) (hyy : ∃ e, M2 y = some e) : BW g M3 x y σ σr 0 := by
  have hd : ∀ q, rO y ad q → ¬ cO N Z x kp pf bs h nm ms sc sa fo br q := fun q hq hc => by
    obtain ⟨e, he⟩ := hC.in hc
    rcases hq with t | ⟨k, hk, t⟩
    · rw [t, hy] at he; cases he
    · have hne : ad k ≠ y := fun z => by
        obtain ⟨e2, he2⟩ := hyy
        rw [← z, hf k hk] at he2; cases he2
      rw [t, ← h2 _ hne, hf k hk] at he; cases he
  have hM : ∀ q, ¬ rO y ad q → M3 q = M1 q := fun q hq => (hF q (fun t => hq (Or.inl t)) (fun k hk t => hq (Or.inr ⟨k, hk, t⟩))).trans (h2 q (fun t => hq (Or.inl t)))
  refine BW.of (hC.fr (fun q hq => hM q (fun t => hd q t hq))) hw hd ⟨[], fun q hq => ?_, Nat.le_refl _⟩
  by_cases t : rO y ad q
  · obtain ⟨-, -, h2⟩ := hw.in t
    rw [h2] at hq; cases hq
  · rw [und_same (hM q t)] at hq
    have := hu q hq
    rw [h0 q] at this; cases this
end JS
