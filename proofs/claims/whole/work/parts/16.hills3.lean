/-- all outside the hills h stays -/
def OutH (h a : Nat) : Prop := (a < 5 * h + 4 ∨ 5 * h + 8 < a) ∧ (a < 18 * h + 14 ∨ 18 * h + 32 ≤ a)
def FH (σ : St) (h : Nat) (σ' : St) : Prop := ∀ a, OutH h a → σ' a = σ a
/-- every stick's cells, used or not, hold a stick -/
def AX (σ : St) : Prop := ∀ j, j < 12 → ∃ S : Sk, VS S ∧ GS σ j S
theorem GS.keep {σ σ' : St} {j : Nat} {S : Sk} (h1 : σ' (3 * j + 14) = σ (3 * j + 14)) (h2 : σ' (3 * j + 15) = σ (3 * j + 15)) (g : GS σ j S) : GS σ' j S := by
  obtain ⟨a, b, c, d⟩ := g
  exact ⟨by rw [h1]; exact a, by rw [h1]; exact b, by rw [h1]; exact c, fun i hi => by rw [h2]; exact d i hi⟩
theorem GT.keep {σ σ' : St} {j : Nat} {S : Sk} (h1 : σ' (3 * j + 14) = σ (3 * j + 14)) (h2 : σ' (3 * j + 16) = σ (3 * j + 16)) (g : GT σ j S) : GT σ' j S := by
  obtain ⟨a, b⟩ := g
  exact ⟨fun t ht => by rw [h2]; exact a t ht, by rw [h1]; exact b⟩
theorem NS.ax {σ σ' : St} {j : Nat} {S : Sk} (hv : VS S) (h : NS σ j S σ') (ha : AX σ) : AX σ' := by
  intro i hi
  by_cases e : i = j
  · subst e; exact ⟨S, hv, h.2.1⟩
  · obtain ⟨S', h1, h2⟩ := ha i hi
    exact ⟨S', h1, h2.keep (h.1 _ (by omega) (by omega) (by omega)) (h.1 _ (by omega) (by omega) (by omega))⟩
theorem NS.fh {σ σ' : St} {h k : Nat} {S : Sk} (hk : k < 6) (n : NS σ (6 * h + k) S σ') : FH σ h σ' := fun a ha => n.1 a (by unfold OutH at ha; omega) (by unfold OutH at ha; omega) (by unfold OutH at ha; omega)
theorem FH.trans {σ σ1 σ2 : St} {h : Nat} (a : FH σ h σ1) (b : FH σ1 h σ2) : FH σ h σ2 := fun x hx => (b x hx).trans (a x hx)
theorem FH.rfl {σ : St} {h : Nat} : FH σ h σ := fun _ _ => Eq.refl _
theorem FH.up {σ σ1 : St} {h i j : Nat} {v : Int32} (a : FH σ h σ1) (hi : ¬ OutH h i) : FH σ h (up2 σ1 i j v) := fun x hx => by
  have hne : x ≠ i := fun e => hi (by rw [← e]; exact hx)
  rw [up2_ne hne]; exact a x hx
/-- a stick S0 stands behind the n others, not late -/
def AE (σ : St) (h n : Nat) (S0 : Sk) (σ' : St) : Prop :=
  (∀ a, a ≠ 5 * h + 4 → a ≠ 5 * h + 6 → a ≠ 3 * (6 * h + n) + 14 → a ≠ 3 * (6 * h + n) + 15 → a ≠ 3 * (6 * h + n) + 16 → σ' a = σ a) ∧ GS σ' (6 * h + n) S0 ∧ GT σ' (6 * h + n) S0 ∧ σ' (5 * h + 6) n = 0 ∧ (∀ x, x ≠ n → σ' (5 * h + 6) x = σ (5 * h + 6) x) ∧ σ' (5 * h + 4) 4 = nI (n + 1) ∧ ∀ f, f ≠ 4 → σ' (5 * h + 4) f = σ (5 * h + 4) f
theorem AE.of {σ σ1 : St} {h n : Nat} {S0 : Sk} (hh : h < 2) (N : NS σ (6 * h + n) S0 σ1) : AE σ h n S0 (up2 (up2 σ1 (5 * h + 6) n 0) (5 * h + 4) 4 (nI (n + 1))) := by
  obtain ⟨f, g, t⟩ := N
  refine ⟨fun a a1 a2 a3 a4 a5 => ?_, g.keep ?_ ?_, t.keep ?_ ?_, ?_, fun x hx => ?_, up2_eq, fun f9 hf => ?_⟩
  · rw [up2_ne a1, up2_ne a2]; exact f a a3 a4 a5
  · rw [up2_ne (by omega), up2_ne (by omega)]
  · rw [up2_ne (by omega), up2_ne (by omega)]
  · rw [up2_ne (by omega), up2_ne (by omega)]
  · rw [up2_ne (by omega), up2_ne (by omega)]
  · rw [up2_nr (by omega), up2_eq]
  · rw [up2_nr (by omega), up2_nf hx, f _ (by omega) (by omega) (by omega)]
  · rw [up2_nf hf, up2_nr (by omega), f _ (by omega) (by omega) (by omega)]
theorem AE.add {σ σ1 σ2 : St} {h n : Nat} {S0 S1 : Sk} (hh : h < 2) (A : AE σ h n S0 σ1) (N : NS σ1 (6 * h + n) S1 σ2) : AE σ h n S1 σ2 := by
  obtain ⟨f, g, t⟩ := N
  obtain ⟨a1, a2, a3, a4, a5, a6, a7⟩ := A
  refine ⟨fun a b1 b2 b3 b4 b5 => (f a b3 b4 b5).trans (a1 a b1 b2 b3 b4 b5), g, t, ?_, fun x hx => ?_, ?_, fun x hx => ?_⟩
  · rw [f _ (by omega) (by omega) (by omega)]; exact a4
  · rw [f _ (by omega) (by omega) (by omega)]; exact a5 x hx
  · rw [f _ (by omega) (by omega) (by omega)]; exact a6
  · rw [f _ (by omega) (by omega) (by omega)]; exact a7 x hx
theorem AE.fh {σ σ' : St} {h n : Nat} {S0 : Sk} (hn : n < 6) (A : AE σ h n S0 σ') : FH σ h σ' := fun a ha => A.1 a (by unfold OutH at ha; omega) (by unfold OutH at ha; omega) (by unfold OutH at ha; omega) (by unfold OutH at ha; omega) (by unfold OutH at ha; omega)
theorem AE.gs {σ σ' : St} {h n j : Nat} {S0 S : Sk} (hh : h < 2) (hj : j < 12) (hn : n < 6) (e : j ≠ 6 * h + n) (A : AE σ h n S0 σ') (g : GS σ j S) : GS σ' j S :=
  g.keep (A.1 _ (by omega) (by omega) (by omega) (by omega) (by omega)) (A.1 _ (by omega) (by omega) (by omega) (by omega) (by omega))
theorem AE.ax {σ σ' : St} {h n : Nat} {S0 : Sk} (hh : h < 2) (hn : n < 6) (hv : VS S0) (A : AE σ h n S0 σ') (ha : AX σ) : AX σ' := by
  intro i hi
  by_cases e : i = 6 * h + n
  · subst e; exact ⟨S0, hv, A.2.1⟩
  · obtain ⟨S', h1, h2⟩ := ha i hi
    exact ⟨S', h1, A.gs hh hi hn e h2⟩
abbrev putS (S : Nat → Sk) (k : Nat) (S1 : Sk) : Nat → Sk := fun i => if i = k then S1 else S i
theorem putS_eq {S : Nat → Sk} {k : Nat} {S1 : Sk} : putS S k S1 k = S1 := if_pos rfl
theorem putS_ne {S : Nat → Sk} {k i : Nat} {S1 : Sk} (h : i ≠ k) : putS S k S1 i = S i := if_neg h
theorem AE.gh {σ σ' : St} {h n q : Nat} {S : Nat → Sk} {V : Nat → Nat} {ch : Int32} {S0 : Sk} (hh : h < 2) (hn : n < 6) (hv : VS S0) (h2 : S0 2 = 0) (A : AE σ h n S0 σ') (g : GH σ h n S q V ch) : GH σ' h (n + 1) (putS S n S0) q V ch := by
  obtain ⟨g1, g2, g3, g4, g5⟩ := g
  have A' := A
  obtain ⟨a1, a2, a3, a4, a5, a6, a7⟩ := A
  refine ⟨⟨a6, by omega⟩, (a7 5 (by omega)).trans g2, ⟨(a7 6 (by omega)).trans g3.1, g3.2⟩, fun k hk => ?_, fun i hi => ?_⟩
  · by_cases e : k = n
    · subst e
      rw [putS_eq]
      exact ⟨hv, a2, a3, by rw [a4, h2]; rfl, by omega⟩
    · rw [putS_ne e]
      obtain ⟨b1, b2, b3, b4, b5⟩ := g4 k (by omega)
      exact ⟨b1, A'.gs hh (by omega) hn (by omega) b2, b3.keep (a1 _ (by omega) (by omega) (by omega) (by omega) (by omega)) (a1 _ (by omega) (by omega) (by omega) (by omega) (by omega)), (a5 k e).trans b4, b5⟩
  · rw [a1 (5 * h + 7) (by omega) (by omega) (by omega) (by omega) (by omega), a1 (5 * h + 8) (by omega) (by omega) (by omega) (by omega) (by omega)]
    exact g5 i hi
theorem GH.set {σ σ' : St} {h n q k : Nat} {S : Nat → Sk} {V : Nat → Nat} {ch : Int32} {S1 : Sk} (hh : h < 2) (hk : k < n) (hv : VS S1) (h2 : S1 2 = S k 2) (N : NS σ (6 * h + k) S1 σ') (g : GH σ h n S q V ch) : GH σ' h n (putS S k S1) q V ch := by
  obtain ⟨g1, g2, g3, g4, g5⟩ := g
  obtain ⟨f, gs, gt⟩ := N
  have hn := g1.2
  refine ⟨⟨by rw [f _ (by omega) (by omega) (by omega)]; exact g1.1, hn⟩, by rw [f _ (by omega) (by omega) (by omega)]; exact g2, ⟨by rw [f _ (by omega) (by omega) (by omega)]; exact g3.1, g3.2⟩, fun i hi => ?_, fun i hi => ?_⟩
  · obtain ⟨b1, b2, b3, b4, b5⟩ := g4 i hi
    by_cases e : i = k
    · subst e
      rw [putS_eq]
      exact ⟨hv, gs, gt, by rw [f _ (by omega) (by omega) (by omega), h2]; exact b4, by rw [h2]; exact b5⟩
    · rw [putS_ne e]
      exact ⟨b1, b2.keep (f _ (by omega) (by omega) (by omega)) (f _ (by omega) (by omega) (by omega)), b3.keep (f _ (by omega) (by omega) (by omega)) (f _ (by omega) (by omega) (by omega)), by rw [f _ (by omega) (by omega) (by omega)]; exact b4, b5⟩
  · rw [f (5 * h + 7) (by omega) (by omega) (by omega), f (5 * h + 8) (by omega) (by omega) (by omega)]
    exact g5 i hi
/-- the parts of a stick that is sawn behind t steps; of the rest the first c -/
def SF (S : Sk) (t : Nat) : Sk := fun f => if f = 3 then t else S f
def SR (S : Sk) (t c : Nat) : Sk := fun f => if f = 0 then S 0 else if f = 1 then plainN S t else if f = 2 then 0 else if f = 3 then c else S (f + t)
theorem SR_4 {S : Sk} {t c i : Nat} : SR S t c (4 + i) = S (4 + (i + t)) := by
  unfold SR
  rw [if_neg (by omega), if_neg (by omega), if_neg (by omega), if_neg (by omega), Nat.add_assoc]
theorem SR_vs {S : Sk} {t c : Nat} (h : VS S) (ht : c + t ≤ S 3) : VS (SR S t c) := by
  refine ⟨h.1, plainN_lt h t (by omega), ?_, fun i hi => ?_⟩
  · show c ≤ 5
    have := h.2.2.1; omega
  · have hi : i < c := hi
    rw [SR_4]; exact h.2.2.2 (i + t) (by omega)
theorem SF_4 {S : Sk} {t i : Nat} : SF S t (4 + i) = S (4 + i) := if_neg (by omega)
theorem SF_vs {S : Sk} {t : Nat} (h : VS S) (ht : t ≤ S 3) : VS (SF S t) := by
  refine ⟨h.1, h.2.1, ?_, fun i hi => ?_⟩
  · show t ≤ 5
    have := h.2.2.1; omega
  · have hi : i < t := hi
    rw [SF_4]; exact h.2.2.2 i (by omega)
/-- while the hills h are put from the hills o: the first i sticks -/
def CY (σ : St) (h o : Nat) (σ' : St) (i : Nat) : Prop :=
  (∀ a, OutH h a → σ' a = σ a) ∧ (∀ a, 5 * h + 4 < a → a ≤ 5 * h + 8 → σ' a = σ a) ∧ (∀ f, f ≠ 4 → σ' (5 * h + 4) f = σ (5 * h + 4) f) ∧ σ' (5 * h + 4) 4 = σ (5 * o + 4) 4 ∧
  (∀ k, k < i → ∀ S : Sk, VS S → GS σ (6 * o + k) S → GS σ' (6 * h + k) S ∧ GT σ' (6 * h + k) S) ∧ (AX σ → AX σ')
theorem GS.same {σ : St} {j : Nat} {S S' : Sk} (g : GS σ j S) (g' : GS σ j S') (h : VS S) (h' : VS S') : S 0 = S' 0 ∧ S 1 = S' 1 ∧ S 3 = S' 3 ∧ ∀ i, i < S 3 → S (4 + i) = S' (4 + i) := by
  have e3 : S 3 = S' 3 := (nI_eq (by have := h.2.2.1; omega) (by have := h'.2.2.1; omega)).mp (g.2.2.1.symm.trans g'.2.2.1)
  refine ⟨(nI_eq (by have := h.1; omega) (by have := h'.1; omega)).mp (g.1.symm.trans g'.1), (nI_eq (by have := h.2.1; omega) (by have := h'.2.1; omega)).mp (g.2.1.symm.trans g'.2.1), e3, fun i hi => ?_⟩
  exact (nI_eq (by have := h.2.2.2 i hi; omega) (by have := h'.2.2.2 i (by omega); omega)).mp ((g.2.2.2 i hi).symm.trans (g'.2.2.2 i (by omega)))
theorem plain_same {S S' : Sk} (e0 : S 0 = S' 0) (e1 : S 1 = S' 1) (e3 : S 3 = S' 3) (e4 : ∀ i, i < S 3 → S (4 + i) = S' (4 + i)) (h : VS S) : ∀ t, posN S t = posN S' t := by
  intro t
  induction t with
  | zero => exact e1
  | succ t ih =>
    unfold posN
    rw [← e0, ← e3, ih]
    split
    · rename_i hc
      have h0 : 0 < S 3 := (Nat.eq_zero_or_pos (S 3)).elim (fun z => by rw [z, hwN_0] at hc; omega) id
      have hd : ∀ x, dirN S x = dirN S' x := by
        intro x
        unfold dirN
        rw [← e0, ← e3, e4 _ (Nat.mod_lt _ h0), e4 (S 3 - 1 - x % S 3) (by have := Nat.mod_lt x h0; omega)]
      rw [hd]
    · rfl
theorem orN_same {f g : Nat → Nat} (h : ∀ t, f t = g t) : ∀ t, orN f t = orN g t := by
  intro t
  induction t with
  | zero => rfl
  | succ t ih => unfold orN; rw [ih, h]
theorem GT.same {σ : St} {j : Nat} {S S' : Sk} (e0 : S 0 = S' 0) (e1 : S 1 = S' 1) (e3 : S 3 = S' 3) (e4 : ∀ i, i < S 3 → S (4 + i) = S' (4 + i)) (h : VS S) (g : GT σ j S) : GT σ j S' := by
  have e := plain_same e0 e1 e3 e4 h
  exact ⟨fun t ht => by rw [← e]; exact g.1 t ht, by rw [g.2, orN_same e]⟩
theorem CY.step {σ σ1 σ2 : St} {h o i : Nat} {S : Sk} (hh : h < 2) (ho : o < 2) (hne : o ≠ h) (hi : i < 6) (hv : VS S) (hg : GS σ1 (6 * o + i) S) (A : CY σ h o σ1 i) (N : NS σ1 (6 * h + i) S σ2) : CY σ h o σ2 (i + 1) := by
  obtain ⟨a1, a2, a3, a4, a5, a6⟩ := A
  obtain ⟨f, gs, gt⟩ := N
  refine ⟨fun a ha => (f a (by unfold OutH at ha; omega) (by unfold OutH at ha; omega) (by unfold OutH at ha; omega)).trans (a1 a ha), fun a b1 b2 => (f a (by omega) (by omega) (by omega)).trans (a2 a b1 b2), fun x hx => by rw [f _ (by omega) (by omega) (by omega)]; exact a3 x hx, by rw [f _ (by omega) (by omega) (by omega)]; exact a4, fun k hk S' hv' hg' => ?_, fun z => NS.ax hv ⟨f, gs, gt⟩ (a6 z)⟩
  by_cases e : k = i
  · subst e
    have hg1 : GS σ (6 * o + k) S := hg.keep (a1 _ (by unfold OutH; omega)).symm (a1 _ (by unfold OutH; omega)).symm
    obtain ⟨e0, e1, e3, e4⟩ := hg1.same hg' hv hv'
    obtain ⟨q1, q2, q3, q4⟩ := gs
    exact ⟨⟨by rw [← e0]; exact q1, by rw [← e1]; exact q2, by rw [← e3]; exact q3, fun i hi => by rw [← e4 i (by omega)]; exact q4 i (by omega)⟩, gt.same e0 e1 e3 e4 hv⟩
  · obtain ⟨b1, b2⟩ := a5 k (by omega) S' hv' hg'
    exact ⟨b1.keep (f _ (by omega) (by omega) (by omega)) (f _ (by omega) (by omega) (by omega)), b2.keep (f _ (by omega) (by omega) (by omega)) (f _ (by omega) (by omega) (by omega))⟩
/-- behind copyFrom -/
def CZ (σ : St) (h o : Nat) (σ' : St) : Prop := FH σ h σ' ∧ (AX σ → AX σ') ∧ ∀ (n : Nat) (S : Nat → Sk) (q : Nat) (V : Nat → Nat) (ch : Int32), GH σ o n S q V ch → GH σ' h n S q V ch
theorem CY.fin {σ σ1 : St} {h o : Nat} (hh : h < 2) (ho : o < 2) (hne : o ≠ h) (A : CY σ h o σ1 6) : CZ σ h o (cpy2 (cpy2 (up2 (up2 (cpy2 σ1 (5 * o + 6) (5 * h + 6) 6) (5 * h + 4) 5 (σ (5 * o + 4) 5)) (5 * h + 4) 6 (σ (5 * o + 4) 6)) (5 * o + 7) (5 * h + 7) 8) (5 * o + 8) (5 * h + 8) 8) := by
  obtain ⟨a1, a2, a3, a4, a5, a6⟩ := A
  have key : ∀ a, a ≠ 5 * h + 4 → a ≠ 5 * h + 6 → a ≠ 5 * h + 7 → a ≠ 5 * h + 8 → (cpy2 (cpy2 (up2 (up2 (cpy2 σ1 (5 * o + 6) (5 * h + 6) 6) (5 * h + 4) 5 (σ (5 * o + 4) 5)) (5 * h + 4) 6 (σ (5 * o + 4) 6)) (5 * o + 7) (5 * h + 7) 8) (5 * o + 8) (5 * h + 8) 8) a = σ1 a := fun a b1 b2 b3 b4 => by
    rw [cpy2_ne b4, cpy2_ne b3, up2_ne b1, up2_ne b1, cpy2_ne b2]
  refine ⟨fun a ha => (key a (by unfold OutH at ha; omega) (by unfold OutH at ha; omega) (by unfold OutH at ha; omega) (by unfold OutH at ha; omega)).trans (a1 a ha), fun z i hi => ?_, fun n S q V ch g => ?_⟩
  · obtain ⟨S, h1, h2⟩ := a6 z i hi
    exact ⟨S, h1, h2.keep (key _ (by omega) (by omega) (by omega) (by omega)) (key _ (by omega) (by omega) (by omega) (by omega))⟩
  · obtain ⟨g1, g2, g3, g4, g5⟩ := g
    have oo : ∀ a, a = 5 * o + 6 ∨ a = 5 * o + 7 ∨ a = 5 * o + 8 → σ1 a = σ a := fun a ha => a1 a (by unfold OutH; omega)
    refine ⟨⟨?_, g1.2⟩, ?_, ⟨?_, g3.2⟩, fun k hk => ?_, fun i hi => ?_⟩
    · rw [cpy2_ne (by omega), cpy2_ne (by omega), up2_nf (by omega), up2_nf (by omega), cpy2_ne (by omega), a4]; exact g1.1
    · rw [cpy2_ne (by omega), cpy2_ne (by omega), up2_nf (by omega), up2_eq]; exact g2
    · rw [cpy2_ne (by omega), cpy2_ne (by omega), up2_eq]; exact g3.1
    · obtain ⟨b1, b2, b3, b4, b5⟩ := g4 k hk
      have hk6 : k < 6 := by have := g1.2; omega
      obtain ⟨c1, c2⟩ := a5 k hk6 (S k) b1 b2
      refine ⟨b1, c1.keep (key _ (by omega) (by omega) (by omega) (by omega)) (key _ (by omega) (by omega) (by omega) (by omega)), c2.keep (key _ (by omega) (by omega) (by omega) (by omega)) (key _ (by omega) (by omega) (by omega) (by omega)), ?_, b5⟩
      rw [cpy2_ne (by omega), cpy2_ne (by omega), up2_ne (by omega), up2_ne (by omega), cpy2_at hk6, oo _ (Or.inl rfl)]; exact b4
    · have hi8 : i < 8 := by have := g3.2; omega
      obtain ⟨b1, b2, b3, b4⟩ := g5 i hi
      refine ⟨?_, ?_, b3, b4⟩
      · rw [cpy2_ne (by omega), cpy2_at hi8, up2_ne (by omega), up2_ne (by omega), cpy2_ne (by omega), oo _ (Or.inr (Or.inl rfl))]; exact b1
      · rw [cpy2_at hi8, cpy2_ne (by omega), up2_ne (by omega), up2_ne (by omega), cpy2_ne (by omega), oo _ (Or.inr (Or.inr rfl))]; exact b2

set_option maxHeartbeats 4000000 in
set_option maxRecDepth 100000 in
theorem c_X0_clear (l : Launch) (G : Gam) (σ : St) (h : Nat) (hh : h < 2) : Met l yX0_clear (w1 yX0_clear cX0_clear 1 none) ({ frames := 0, cells := 0, slots := 0, locals := 0 }) (PcX G σ [.ref (ga G (5 * h + 4))]) (QvX G (fun σ9 => σ9 = up2 (up2 (up2 σ (5 * h + 4) 4 0) (5 * h + 4) 5 0) (5 * h + 4) 6 0)) 0 0 (aX G) := by
  refine met_of [.ref (ga G (5 * h + 4))] [(0, .ref (ga G (5 * h + 4)))] (by decide) (Nat.le_of_ble_eq_true rfl) rfl ?_
  intro p e s m below meth c hx hb hr hown hml hlocks hW ls hl
  have hG : GW s := hW.2.2.2.1
  have hS : va_S (aX G) s.heap s.heap [] := va_S.rf
  refine lv_aload_n hx hb dX0_clear_0 rfl (lv_at hl 0 rfl) ?_
  refine lv_iconst (v := 0) hx hb dX0_clear_1 (by decide) ?_
  refine wr_X0_31 hx hb hown hW hS hh dX0_clear_2 (fun H locs hW hS => ?_)
  obtain ⟨σ1, hσ1⟩ : ∃ z, z = up2 σ (5 * h + 4) 4 0 := ⟨_, rfl⟩
  rw [← hσ1] at hW
  refine lv_aload_n hx hb dX0_clear_5 rfl (lv_at hl 0 rfl) ?_
  refine lv_iconst (v := 0) hx hb dX0_clear_6 (by decide) ?_
  refine wr_X0_35 hx hb hown hW hS hh dX0_clear_7 (fun H locs hW hS => ?_)
  obtain ⟨σ2, hσ2⟩ : ∃ z, z = up2 σ1 (5 * h + 4) 5 0 := ⟨_, rfl⟩
  rw [← hσ2] at hW
  refine lv_aload_n hx hb dX0_clear_10 rfl (lv_at hl 0 rfl) ?_
  refine lv_iconst (v := 0) hx hb dX0_clear_11 (by decide) ?_
  refine wr_X0_38 hx hb hown hW hS hh dX0_clear_12 (fun H locs hW hS => ?_)
  obtain ⟨σ3, hσ3⟩ : ∃ z, z = up2 σ2 (5 * h + 4) 6 0 := ⟨_, rfl⟩
  rw [← hσ3] at hW
  exact W.vret hx hb hr (fun t9 ht9 hW9 => ⟨⟨σ3, rfl, (by subst hσ3; subst hσ2; subst hσ1; rfl), (by have h8 := hW.1; rw [← ht9] at h8; exact h8)⟩, hS.F ht9⟩) hS.2.2 dX0_clear_15
set_option maxHeartbeats 4000000 in
set_option maxRecDepth 100000 in
theorem c_X0_add (l : Launch) (G : Gam) (σ : St) (h : Nat) (hh : h < 2) (n : Nat) (hn : σ (5 * h + 4) 4 = nI n) (h6 : n < 6) (S : Sk) (hv : VS S) (h3 : S 3 = 0) : Met l yX0_add (w1 yX0_add cX0_add 4 (some (.object "StickWays$Stick"))) ({ frames := 4, cells := 0, slots := 0, locals := 85 }) (PcX G σ [.ref (ga G (5 * h + 4)), .int (nI (S 0)), .int (nI (S 1))]) (QrX G (3 * (6 * h + n) + 14) (fun σ9 => AE σ h n S σ9)) 0 0 (aX G) := by
  refine met_of [.ref (ga G (5 * h + 4)), .int (nI (S 0)), .int (nI (S 1))] [(0, .ref (ga G (5 * h + 4))), (1, .int (nI (S 0))), (2, .int (nI (S 1)))] (by decide) (Nat.le_of_ble_eq_true rfl) rfl ?_
  intro p e s m below meth c hx hb hr hown hml hlocks hW ls hl
  have hG : GW s := hW.2.2.2.1
  have hS : va_S (aX G) s.heap s.heap [] := va_S.rf
  refine lv_aload_n hx hb dX0_add_0 rfl (lv_at hl 0 rfl) ?_
  refine rd_X0_31 hx hb hown hW hh dX0_add_1 ?_
  refine lv_eqi (y := nI n) hn ?_
  refine lv_bipush (v := 6) hx hb dX0_add_4 (by decide) ?_
  refine lv_icmp_lt (tgt := 11) hx hb dX0_add_6 (by decide) (fun c_6 => ?_) (fun c_6 => ?_)
  · skip
    have q_6 := tN_lt n 6 c_6 rfl rfl (by omega) (by omega)
    refine lv_aload_n hx hb dX0_add_11 rfl (lv_at hl 0 rfl) ?_
    refine rd_X0_11 hx hb hown hW hh dX0_add_12 ?_
    refine lv_aload_n hx hb dX0_add_15 rfl (lv_at hl 0 rfl) ?_
    refine rd_X0_31 hx hb hown hW hh dX0_add_16 ?_
    refine lv_eqi (y := nI n) hn ?_
    refine al_sticks (k := n) hx hb hW hh rfl (by omega) dX0_add_19 ?_
    refine lv_astore_n (lv' := [(3, .ref (ga G (3 * (6 * h + n) + 14))), (0, .ref (ga G (5 * h + 4))), (1, .int (nI (S 0))), (2, .int (nI (S 1)))]) hx hb dX0_add_20 rfl hl (by decide) rfl (fun ls hl => ?_)
    refine lv_aload_n hx hb dX0_add_21 rfl (lv_at hl 0 rfl) ?_
    refine lv_iload_n hx hb dX0_add_22 rfl (lv_at hl 2 rfl) ?_
    refine lv_iload_n hx hb dX0_add_23 rfl (lv_at hl 3 rfl) ?_
    refine cw_v (q := 302) [.int (nI (S 0)), .int (nI (S 1))] hx hb hml hown hW.2 hS v_X2_startAnew (by decide +kernel) (c_X2_startAnew l G σ (6 * h + n) (by omega) S hv h3) (preK hW (by omega) _) rfl hl.1 (Nat.le_of_ble_eq_true rfl) dX0_add_24 ⟨rfl, rfl, Nat.le_of_ble_eq_true rfl, Nat.le_of_ble_eq_true rfl⟩ ⟨Nat.le_of_ble_eq_true rfl, Nat.le_of_ble_eq_true rfl⟩ (fun σ1 H locs hσ1 hW hS => ?_)
    refine lv_aload_n hx hb dX0_add_27 rfl (lv_at hl 1 rfl) ?_
    refine rd_X0_18 hx hb hown hW hh dX0_add_28 ?_
    refine lv_aload_n hx hb dX0_add_31 rfl (lv_at hl 1 rfl) ?_
    refine rd_X0_31 hx hb hown hW hh dX0_add_32 ?_
    refine lv_eqi (y := nI n) (by rw [hσ1.1 _ (by omega) (by omega) (by omega)]; exact hn) ?_
    refine lv_iconst (v := 0) hx hb dX0_add_35 (by decide) ?_
    refine as_lateBy (k := n) hx hb hW hS hh rfl (by omega) dX0_add_36 (fun H locs hW hS => ?_)
    obtain ⟨σ2, hσ2⟩ : ∃ z, z = up2 σ1 (5 * h + 6) n 0 := ⟨_, rfl⟩
    rw [← hσ2] at hW
    refine lv_aload_n hx hb dX0_add_37 rfl (lv_at hl 1 rfl) ?_
    refine lv_dup hx hb dX0_add_38 rfl ?_
    refine rd_X0_31 hx hb hown hW hh dX0_add_39 ?_
    refine lv_eqi (y := nI n) (by subst hσ2; rw [up2_nr (by omega), hσ1.1 _ (by omega) (by omega) (by omega)]; exact hn) ?_
    refine lv_iconst (v := 1) hx hb dX0_add_42 (by decide) ?_
    refine ln_add n 1 hx hb rfl rfl dX0_add_43 ?_
    refine wr_X0_31 hx hb hown hW hS hh dX0_add_44 (fun H locs hW hS => ?_)
    obtain ⟨σ3, hσ3⟩ : ∃ z, z = up2 σ2 (5 * h + 4) 4 (nI (n + 1)) := ⟨_, rfl⟩
    rw [← hσ3] at hW
    refine lv_aload_n hx hb dX0_add_47 rfl (lv_at hl 0 rfl) ?_
    exact W.aret (v := .ref (ga G (3 * (6 * h + n) + 14))) hx hb hr (Or.inl ⟨_, rfl⟩) (Or.inr ⟨_, rfl⟩) (fun t9 ht9 hW9 => ⟨⟨σ3, _, rfl, (by subst hσ3; subst hσ2; exact AE.of hh hσ1), rfl, (by have h8 := hW.1; rw [← ht9] at h8; exact h8)⟩, hS.F ht9⟩) hS.2.2 dX0_add_48
  · skip
    exact absurd (tN_nlt n 6 c_6 rfl rfl (by omega) (by omega)) (by omega)
set_option maxHeartbeats 4000000 in
set_option maxRecDepth 100000 in
theorem c_X0_divide (l : Launch) (G : Gam) (σ : St) (h : Nat) (hh : h < 2) (n : Nat) (S : Nat → Sk) (q : Nat) (V : Nat → Nat) (ch : Int32) (hg : GH σ h n S q V ch) (k t : Nat) (hk : k < n) (h6 : n < 6) (ht : 1 ≤ t) (ht2 : t < S k 3) : Met l yX0_divide (w1 yX0_divide cX0_divide 6 none) ({ frames := 5, cells := 0, slots := 0, locals := 108 }) (PcX G σ [.ref (ga G (5 * h + 4)), .int (nI k), .int (nI t)]) (QvX G (fun σ9 => GH σ9 h (n + 1) (putS (putS S n (SR (S k) t (S k 3 - t))) k (SF (S k) t)) q V ch ∧ FH σ h σ9 ∧ (AX σ → AX σ9))) 0 0 (aX G) := by
  refine met_of [.ref (ga G (5 * h + 4)), .int (nI k), .int (nI t)] [(0, .ref (ga G (5 * h + 4))), (1, .int (nI k)), (2, .int (nI t))] (by decide) (Nat.le_of_ble_eq_true rfl) rfl ?_
  intro p e s m below meth c hx hb hr hown hml hlocks hW ls hl
  have hG : GW s := hW.2.2.2.1
  have hS : va_S (aX G) s.heap s.heap [] := va_S.rf
  have hn6 := hg.1.2
  have hq8 := hg.2.2.1.2
  have hvk := (hg.2.2.2.1 k hk).1
  have hk5 := hvk.2.2.1
  refine lv_aload_n hx hb dX0_divide_0 rfl (lv_at hl 0 rfl) ?_
  refine rd_X0_11 hx hb hown hW hh dX0_divide_1 ?_
  refine lv_iload_n hx hb dX0_divide_4 rfl (lv_at hl 1 rfl) ?_
  refine al_sticks (k := k) hx hb hW hh rfl (by omega) dX0_divide_5 ?_
  refine lv_astore_n (lv' := [(3, .ref (ga G (3 * (6 * h + k) + 14))), (0, .ref (ga G (5 * h + 4))), (1, .int (nI k)), (2, .int (nI t))]) hx hb dX0_divide_6 rfl hl (by decide) rfl (fun ls hl => ?_)
  refine lv_aload_n hx hb dX0_divide_7 rfl (lv_at hl 1 rfl) ?_
  refine lv_aload_n hx hb dX0_divide_8 rfl (lv_at hl 0 rfl) ?_
  refine rd_X0_59 hx hb hown hW (by omega) dX0_divide_9 ?_
  refine lv_eqi (y := nI (S k 0)) (hg.2.2.2.1 k hk).2.1.1 ?_
  refine lv_aload_n hx hb dX0_divide_12 rfl (lv_at hl 0 rfl) ?_
  refine lv_iload_n hx hb dX0_divide_13 rfl (lv_at hl 3 rfl) ?_
  refine cr_i (q := 411) [.int (nI t)] hx hb hml hown hG v_X2_placeBehind (by decide +kernel) (c_X2_placeBehind l G σ (6 * h + k) (by omega) (S k) (hg.2.2.2.1 k (by omega)).1 (hg.2.2.2.1 k (by omega)).2.1 t (by omega)) (preK hW (by omega) _) rfl hl.1 (Nat.le_of_ble_eq_true rfl) dX0_divide_14 ⟨rfl, rfl, Nat.le_of_ble_eq_true rfl, Nat.le_of_ble_eq_true rfl⟩ ⟨Nat.le_of_ble_eq_true rfl, Nat.le_of_ble_eq_true rfl⟩ ?_
  refine cw_r (q := 415) [.int (nI (S k 0)), .int (nI (plainN (S k) t))] hx hb hml hown hW.2 hS v_X0_add (by decide +kernel) (c_X0_add l G σ h hh n hg.1.1 h6 (SR (S k) t 0) (SR_vs hvk (by omega)) rfl) (preH hW hh _) rfl hl.1 (Nat.le_of_ble_eq_true rfl) dX0_divide_17 ⟨rfl, rfl, Nat.le_of_ble_eq_true rfl, Nat.le_of_ble_eq_true rfl⟩ ⟨Nat.le_of_ble_eq_true rfl, Nat.le_of_ble_eq_true rfl⟩ (fun σ1 H locs hσ1 hW hS => ?_)
  refine lv_astore (lv' := [(4, .ref (ga G (3 * (6 * h + n) + 14))), (3, .ref (ga G (3 * (6 * h + k) + 14))), (0, .ref (ga G (5 * h + 4))), (1, .int (nI k)), (2, .int (nI t))]) hx hb dX0_divide_20 hl (by decide) rfl (fun ls hl => ?_)
  refine lv_aload hx hb dX0_divide_22 (lv_at hl 0 rfl) ?_
  refine lv_ifnonnull (tgt := 28) hx hb dX0_divide_24 (by decide) ?_
  refine lv_iload_n hx hb dX0_divide_28 rfl (lv_at hl 4 rfl) ?_
  refine lv_istore (lv' := [(5, .int (nI t)), (4, .ref (ga G (3 * (6 * h + n) + 14))), (3, .ref (ga G (3 * (6 * h + k) + 14))), (0, .ref (ga G (5 * h + 4))), (1, .int (nI k)), (2, .int (nI t))]) hx hb dX0_divide_29 hl (by decide) rfl (fun ls hl => ?_)
  have loop_31 : ∀ (N9 : Nat) (i : Nat) (io : Int32) (σw : St) (H : Heap) (locs : List Loc), S k 3 - i < N9 → io = nI i → t ≤ i → i ≤ S k 3 → WX G σw s H → va_S (aX G) s.heap H locs → AE σ h n (SR (S k) t (i - t)) σw → ∀ ls : Array Slot, lv_has ls 6 [(5, .int io), (4, .ref (ga G (3 * (6 * h + n) + 14))), (3, .ref (ga G (3 * (6 * h + k) + 14))), (0, .ref (ga G (5 * h + 4))), (1, .int (nI k)), (2, .int (nI t))] → W p l e (headSpec (w1 yX0_divide cX0_divide 6 none) ({ frames := 5, cells := 0, slots := 0, locals := 108 })).room s m [.ref (ga G (5 * h + 4)), .int (nI k), .int (nI t)].toArray below meth c H locs 0 0 (MQ below (QvX G (fun σ9 => GH σ9 h (n + 1) (putS (putS S n (SR (S k) t (S k 3 - t))) k (SF (S k) t)) q V ch ∧ FH σ h σ9 ∧ (AX σ → AX σ9))) [.ref (ga G (5 * h + 4)), .int (nI k), .int (nI t)].toArray s 0 0 (aX G)) (F0 m 31 ls []) := by
    intro N9
    induction N9 with
    | zero => intro i io σw H locs hN; exact absurd hN (Nat.not_lt_zero _)
    | succ N9 ih =>
      intro i io σw H locs hN e_io hi0_31 hi1_31 hW hS hw0_31 ls hl
      subst e_io
      have ih_31 := ih
      have hgk := hw0_31.gs hh (j := 6 * h + k) (by omega) h6 (by omega) (hg.2.2.2.1 k hk).2.1
      refine lv_iload hx hb dX0_divide_31 (lv_at hl 0 rfl) ?_
      refine lv_aload_n hx hb dX0_divide_33 rfl (lv_at hl 2 rfl) ?_
      refine rd_X0_70 hx hb hown hW (by omega) dX0_divide_34 ?_
      refine lv_eqi (y := nI (S k 3)) hgk.2.2.1 ?_
      refine lv_icmp_ge (tgt := 57) hx hb dX0_divide_37 (by decide) (fun c_37 => ?_) (fun c_37 => ?_)
      · skip
        have q_37 := tN_le (S k 3) i c_37 rfl rfl (by omega) (by omega)
        refine lv_aload_n hx hb dX0_divide_57 rfl (lv_at hl 2 rfl) ?_
        refine lv_iload_n hx hb dX0_divide_58 rfl (lv_at hl 5 rfl) ?_
        refine cw_v (q := 418) [.int (nI t)] hx hb hml hown hW.2 hS v_X2_shortenTo (by decide +kernel) (c_X2_shortenTo l G σw (6 * h + k) (by omega) (S k) hvk hgk (SF (S k) t) (SF_vs hvk (by omega)) rfl rfl t rfl (by omega) (fun x _ => SF_4)) (preK hW (by omega) _) rfl hl.1 (Nat.le_of_ble_eq_true rfl) dX0_divide_59 ⟨rfl, rfl, Nat.le_of_ble_eq_true rfl, Nat.le_of_ble_eq_true rfl⟩ ⟨Nat.le_of_ble_eq_true rfl, Nat.le_of_ble_eq_true rfl⟩ (fun σ2 H locs hσ2 hW hS => ?_)
        exact W.vret hx hb hr (fun t9 ht9 hW9 => ⟨⟨σ2, rfl, (by have h9 : i = S k 3 := (by omega); subst h9; have hvr : VS (SR (S k) t (S k 3 - t)) := SR_vs hvk (by omega); exact ⟨GH.set hh (by omega) (SF_vs hvk (by omega)) (by rw [putS_ne (by omega)]; rfl) hσ2 (hw0_31.gh hh h6 hvr rfl hg), (hw0_31.fh h6).trans (NS.fh (by omega) hσ2), fun z => hσ2.ax (SF_vs hvk (by omega)) (hw0_31.ax hh h6 hvr z)⟩), (by have h8 := hW.1; rw [← ht9] at h8; exact h8)⟩, hS.F ht9⟩) hS.2.2 dX0_divide_62
      · skip
        have q_37 := tN_nle (S k 3) i c_37 rfl rfl (by omega) (by omega)
        refine lv_aload hx hb dX0_divide_40 (lv_at hl 1 rfl) ?_
        refine lv_aload_n hx hb dX0_divide_42 rfl (lv_at hl 2 rfl) ?_
        refine lv_iload hx hb dX0_divide_43 (lv_at hl 0 rfl) ?_
        refine cr_i (q := 416) [.int (nI i)] hx hb hml hown hG v_X2_stepOrNone (by decide +kernel) (c_X2_stepOrNone l G σw (6 * h + k) (by omega) (S k) hvk hgk i (by omega)) (preK hW (by omega) _) rfl hl.1 (Nat.le_of_ble_eq_true rfl) dX0_divide_45 ⟨rfl, rfl, Nat.le_of_ble_eq_true rfl, Nat.le_of_ble_eq_true rfl⟩ ⟨Nat.le_of_ble_eq_true rfl, Nat.le_of_ble_eq_true rfl⟩ ?_
        refine lv_eqi (y := nI (S k (4 + i))) (if_pos q_37) ?_
        refine cw_v (q := 417) [.int (nI (S k (4 + i)))] hx hb hml hown hW.2 hS v_X2_addStep (by decide +kernel) (c_X2_addStep l G σw (6 * h + n) (by omega) (SR (S k) t (i - t)) (SR_vs hvk (by omega)) hw0_31.2.1 (SR (S k) t (i + 1 - t)) (SR_vs hvk (by omega)) (by show i - t < 5; omega) rfl rfl (by show i + 1 - t = i - t + 1; omega) (fun x _ => by rw [SR_4, SR_4]) (S k (4 + i)) (by show SR (S k) t (i + 1 - t) (4 + (i - t)) = _; rw [SR_4, Nat.sub_add_cancel hi0_31])) (preK hW (by omega) _) rfl hl.1 (Nat.le_of_ble_eq_true rfl) dX0_divide_48 ⟨rfl, rfl, Nat.le_of_ble_eq_true rfl, Nat.le_of_ble_eq_true rfl⟩ ⟨Nat.le_of_ble_eq_true rfl, Nat.le_of_ble_eq_true rfl⟩ (fun σ3 H locs hσ3 hW hS => ?_)
        refine lv_iinc (v := nI (i + 1)) (lv' := [(5, .int (nI (i + 1))), (4, .ref (ga G (3 * (6 * h + n) + 14))), (3, .ref (ga G (3 * (6 * h + k) + 14))), (0, .ref (ga G (5 * h + 4))), (1, .int (nI k)), (2, .int (nI t))]) hx hb dX0_divide_51 hl (k := 0) rfl (inc1 i) (by decide) rfl (fun ls hl => ?_)
        refine lv_goto (tgt := 31) hx hb dX0_divide_54 (by decide) ?_
        exact ih_31 (i + 1) _ _ _ _ (by omega) rfl (by omega) (by omega) hW hS (hw0_31.add hh hσ3) ls (lv_sub hl [0, 1, 2, 3, 4, 5] rfl)
  exact loop_31 _ t _ _ _ _ (Nat.lt_succ_self _) rfl (Nat.le_refl _) (by omega) hW hS (by rw [Nat.sub_self]; exact hσ1) ls (lv_sub hl [0, 1, 2, 3, 4, 5] rfl)
set_option maxHeartbeats 4000000 in
set_option maxRecDepth 100000 in
theorem c_X0_copyFrom (l : Launch) (G : Gam) (σ : St) (h o : Nat) (hh : h < 2) (ho : o < 2) (hne : o ≠ h) (hax : AX σ) : Met l yX0_copyFrom (w1 yX0_copyFrom cX0_copyFrom 3 none) ({ frames := 4, cells := 0, slots := 0, locals := 84 }) (PcX G σ [.ref (ga G (5 * h + 4)), .ref (ga G (5 * o + 4))]) (QvX G (fun σ9 => CZ σ h o σ9)) 0 0 (aX G) := by
  refine met_of [.ref (ga G (5 * h + 4)), .ref (ga G (5 * o + 4))] [(0, .ref (ga G (5 * h + 4))), (1, .ref (ga G (5 * o + 4)))] (by decide) (Nat.le_of_ble_eq_true rfl) rfl ?_
  intro p e s m below meth c hx hb hr hown hml hlocks hW ls hl
  have hG : GW s := hW.2.2.2.1
  have hS : va_S (aX G) s.heap s.heap [] := va_S.rf
  refine lv_aload_n hx hb dX0_copyFrom_0 rfl (lv_at hl 0 rfl) ?_
  refine lv_aload_n hx hb dX0_copyFrom_1 rfl (lv_at hl 1 rfl) ?_
  refine rd_X0_31 hx hb hown hW ho dX0_copyFrom_2 ?_
  refine wr_X0_31 hx hb hown hW hS hh dX0_copyFrom_5 (fun H locs hW hS => ?_)
  obtain ⟨σ1, hσ1⟩ : ∃ z, z = up2 σ (5 * h + 4) 4 (σ (5 * o + 4) 4) := ⟨_, rfl⟩
  rw [← hσ1] at hW
  refine lv_iconst (v := 0) hx hb dX0_copyFrom_8 (by decide) ?_
  refine lv_istore_n (lv' := [(2, .int 0), (0, .ref (ga G (5 * h + 4))), (1, .ref (ga G (5 * o + 4)))]) hx hb dX0_copyFrom_9 rfl hl (by decide) rfl (fun ls hl => ?_)
  have loop_10 : ∀ (N9 : Nat) (i : Nat) (io : Int32) (σw : St) (H : Heap) (locs : List Loc), 6 - i < N9 → io = nI i → i ≤ 6 → WX G σw s H → va_S (aX G) s.heap H locs → CY σ h o σw i → ∀ ls : Array Slot, lv_has ls 3 [(2, .int io), (0, .ref (ga G (5 * h + 4))), (1, .ref (ga G (5 * o + 4)))] → W p l e (headSpec (w1 yX0_copyFrom cX0_copyFrom 3 none) ({ frames := 4, cells := 0, slots := 0, locals := 84 })).room s m [.ref (ga G (5 * h + 4)), .ref (ga G (5 * o + 4))].toArray below meth c H locs 0 0 (MQ below (QvX G (fun σ9 => CZ σ h o σ9)) [.ref (ga G (5 * h + 4)), .ref (ga G (5 * o + 4))].toArray s 0 0 (aX G)) (F0 m 10 ls []) := by
    intro N9
    induction N9 with
    | zero => intro i io σw H locs hN; exact absurd hN (Nat.not_lt_zero _)
    | succ N9 ih =>
      intro i io σw H locs hN e_io hi0_10 hW hS hw0_10 ls hl
      subst e_io
      have ih_10 := ih
      refine lv_iload_n hx hb dX0_copyFrom_10 rfl (lv_at hl 0 rfl) ?_
      refine lv_bipush (v := 6) hx hb dX0_copyFrom_11 (by decide) ?_
      refine lv_icmp_ge (tgt := 37) hx hb dX0_copyFrom_13 (by decide) (fun c_13 => ?_) (fun c_13 => ?_)
      · skip
        have q_13 := tN_le 6 i c_13 rfl rfl (by omega) (by omega)
        refine lv_aload_n hx hb dX0_copyFrom_37 rfl (lv_at hl 2 rfl) ?_
        refine rd_X0_18 hx hb hown hW ho dX0_copyFrom_38 ?_
        refine lv_iconst (v := 0) hx hb dX0_copyFrom_41 (by decide) ?_
        refine lv_aload_n hx hb dX0_copyFrom_42 rfl (lv_at hl 1 rfl) ?_
        refine rd_X0_18 hx hb hown hW hh dX0_copyFrom_43 ?_
        refine lv_iconst (v := 0) hx hb dX0_copyFrom_46 (by decide) ?_
        refine lv_bipush (v := 6) hx hb dX0_copyFrom_47 (by decide) ?_
        refine x_copy (q := 530) 6 hx hb (hml.trans hl.1.symm) hown hW hS (i0 := 5 * o + 6) (i1 := 5 * h + 6) (by omega) (by omega) (fun r => cX_h6 ho) (fun r => cX_h6 hh) (by omega) (by decide +kernel) (Nat.le_of_ble_eq_true rfl) (Nat.le_of_ble_eq_true rfl) dX0_copyFrom_49 (fun H locs hW hS => ?_)
        obtain ⟨σ2, hσ2⟩ : ∃ z, z = cpy2 σw (5 * o + 6) (5 * h + 6) 6 := ⟨_, rfl⟩
        rw [← hσ2] at hW
        refine lv_aload_n hx hb dX0_copyFrom_52 rfl (lv_at hl 1 rfl) ?_
        refine lv_aload_n hx hb dX0_copyFrom_53 rfl (lv_at hl 2 rfl) ?_
        refine rd_X0_35 hx hb hown hW ho dX0_copyFrom_54 ?_
        refine lv_eqi (y := σ (5 * o + 4) 5) (by subst hσ2; rw [cpy2_ne (by omega), hw0_10.1 _ (by unfold OutH; omega)]) ?_
        refine wr_X0_35 hx hb hown hW hS hh dX0_copyFrom_57 (fun H locs hW hS => ?_)
        obtain ⟨σ3, hσ3⟩ : ∃ z, z = up2 σ2 (5 * h + 4) 5 (σ (5 * o + 4) 5) := ⟨_, rfl⟩
        rw [← hσ3] at hW
        refine lv_aload_n hx hb dX0_copyFrom_60 rfl (lv_at hl 1 rfl) ?_
        refine lv_aload_n hx hb dX0_copyFrom_61 rfl (lv_at hl 2 rfl) ?_
        refine rd_X0_38 hx hb hown hW ho dX0_copyFrom_62 ?_
        refine lv_eqi (y := σ (5 * o + 4) 6) (by subst hσ3; subst hσ2; rw [up2_nr (by omega), cpy2_ne (by omega), hw0_10.1 _ (by unfold OutH; omega)]) ?_
        refine wr_X0_38 hx hb hown hW hS hh dX0_copyFrom_65 (fun H locs hW hS => ?_)
        obtain ⟨σ4, hσ4⟩ : ∃ z, z = up2 σ3 (5 * h + 4) 6 (σ (5 * o + 4) 6) := ⟨_, rfl⟩
        rw [← hσ4] at hW
        refine lv_aload_n hx hb dX0_copyFrom_68 rfl (lv_at hl 2 rfl) ?_
        refine rd_X0_22 hx hb hown hW ho dX0_copyFrom_69 ?_
        refine lv_iconst (v := 0) hx hb dX0_copyFrom_72 (by decide) ?_
        refine lv_aload_n hx hb dX0_copyFrom_73 rfl (lv_at hl 1 rfl) ?_
        refine rd_X0_22 hx hb hown hW hh dX0_copyFrom_74 ?_
        refine lv_iconst (v := 0) hx hb dX0_copyFrom_77 (by decide) ?_
        refine lv_bipush (v := 8) hx hb dX0_copyFrom_78 (by decide) ?_
        refine x_copy (q := 530) 8 hx hb (hml.trans hl.1.symm) hown hW hS (i0 := 5 * o + 7) (i1 := 5 * h + 7) (by omega) (by omega) (fun r => cX_h7 ho) (fun r => cX_h7 hh) (by omega) (by decide +kernel) (Nat.le_of_ble_eq_true rfl) (Nat.le_of_ble_eq_true rfl) dX0_copyFrom_80 (fun H locs hW hS => ?_)
        obtain ⟨σ5, hσ5⟩ : ∃ z, z = cpy2 σ4 (5 * o + 7) (5 * h + 7) 8 := ⟨_, rfl⟩
        rw [← hσ5] at hW
        refine lv_aload_n hx hb dX0_copyFrom_83 rfl (lv_at hl 2 rfl) ?_
        refine rd_X0_25 hx hb hown hW ho dX0_copyFrom_84 ?_
        refine lv_iconst (v := 0) hx hb dX0_copyFrom_87 (by decide) ?_
        refine lv_aload_n hx hb dX0_copyFrom_88 rfl (lv_at hl 1 rfl) ?_
        refine rd_X0_25 hx hb hown hW hh dX0_copyFrom_89 ?_
        refine lv_iconst (v := 0) hx hb dX0_copyFrom_92 (by decide) ?_
        refine lv_bipush (v := 8) hx hb dX0_copyFrom_93 (by decide) ?_
        refine x_copy (q := 530) 8 hx hb (hml.trans hl.1.symm) hown hW hS (i0 := 5 * o + 8) (i1 := 5 * h + 8) (by omega) (by omega) (fun r => cX_h8 ho) (fun r => cX_h8 hh) (by omega) (by decide +kernel) (Nat.le_of_ble_eq_true rfl) (Nat.le_of_ble_eq_true rfl) dX0_copyFrom_95 (fun H locs hW hS => ?_)
        obtain ⟨σ6, hσ6⟩ : ∃ z, z = cpy2 σ5 (5 * o + 8) (5 * h + 8) 8 := ⟨_, rfl⟩
        rw [← hσ6] at hW
        exact W.vret hx hb hr (fun t9 ht9 hW9 => ⟨⟨σ6, rfl, (by have h9 : i = 6 := (by omega); subst h9; subst hσ6; subst hσ5; subst hσ4; subst hσ3; subst hσ2; exact hw0_10.fin hh ho hne), (by have h8 := hW.1; rw [← ht9] at h8; exact h8)⟩, hS.F ht9⟩) hS.2.2 dX0_copyFrom_98
      · skip
        have q_13 := tN_nle 6 i c_13 rfl rfl (by omega) (by omega)
        obtain ⟨Sx, hS1, hS2⟩ := hw0_10.2.2.2.2.2 hax (6 * o + i) (by omega)
        refine lv_aload_n hx hb dX0_copyFrom_16 rfl (lv_at hl 1 rfl) ?_
        refine rd_X0_11 hx hb hown hW hh dX0_copyFrom_17 ?_
        refine lv_iload_n hx hb dX0_copyFrom_20 rfl (lv_at hl 0 rfl) ?_
        refine al_sticks (k := i) hx hb hW hh rfl (by omega) dX0_copyFrom_21 ?_
        refine lv_aload_n hx hb dX0_copyFrom_22 rfl (lv_at hl 2 rfl) ?_
        refine rd_X0_11 hx hb hown hW ho dX0_copyFrom_23 ?_
        refine lv_iload_n hx hb dX0_copyFrom_26 rfl (lv_at hl 0 rfl) ?_
        refine al_sticks (k := i) hx hb hW ho rfl (by omega) dX0_copyFrom_27 ?_
        refine cw_v (q := 523) [.ref (ga G (3 * (6 * o + i) + 14))] hx hb hml hown hW.2 hS v_X2_copyFrom (by decide +kernel) (c_X2_copyFrom l G σw (6 * h + i) (6 * o + i) (by omega) (by omega) (by omega) Sx hS1 hS2) (preK hW (by omega) _) rfl hl.1 (Nat.le_of_ble_eq_true rfl) dX0_copyFrom_28 ⟨rfl, rfl, Nat.le_of_ble_eq_true rfl, Nat.le_of_ble_eq_true rfl⟩ ⟨Nat.le_of_ble_eq_true rfl, Nat.le_of_ble_eq_true rfl⟩ (fun σ7 H locs hσ7 hW hS => ?_)
        refine lv_iinc (v := nI (i + 1)) (lv' := [(2, .int (nI (i + 1))), (0, .ref (ga G (5 * h + 4))), (1, .ref (ga G (5 * o + 4)))]) hx hb dX0_copyFrom_31 hl (k := 0) rfl (inc1 i) (by decide) rfl (fun ls hl => ?_)
        refine lv_goto (tgt := 10) hx hb dX0_copyFrom_34 (by decide) ?_
        exact ih_10 (i + 1) _ _ _ _ (by omega) rfl (by omega) hW hS (hw0_10.step hh ho hne (by omega) hS1 hS2 hσ7) ls (lv_sub hl [0, 1, 2] rfl)
  exact loop_10 _ 0 _ _ _ _ (Nat.lt_succ_self _) rfl (by omega) hW hS (by subst hσ1; exact ⟨fun a ha => up2_ne (by unfold OutH at ha; omega), fun a b1 b2 => up2_ne (by omega), fun f hf => up2_nf hf, up2_eq, fun k hk => absurd hk (by omega), fun z i hi => by obtain ⟨S, h1, h2⟩ := z i hi; exact ⟨S, h1, h2.keep (up2_ne (by omega)) (up2_ne (by omega))⟩⟩) ls (lv_sub hl [0, 1, 2] rfl)
