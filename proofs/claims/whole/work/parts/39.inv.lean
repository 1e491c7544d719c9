/-! ===== both sides together: what holds before each call of the law ===== -/
/-- the places of the reference's cells that later calls read -/
def REL (a f : Nat) : Prop := (a = 0 ∧ (f = 1 ∨ f = 5 ∨ f = 6 ∨ f = 7 ∨ f = 10 ∨ f = 15 ∨ f = 16 ∨ f = 17 ∨ f = 18)) ∨ a = 1 ∨ (a = 3 ∧ f < 54) ∨ (a = 5 ∧ f < 16) ∨ (a = 8 ∧ f < 54) ∨ (a = 9 ∧ f < 16)
/-- the reference's image, seen as hills -/
def kv (μ : St) : St := fun a f => if a = 0 then (if f = 5 then μ 0 16 else if f = 6 then μ 0 17 else if f = 10 then μ 0 18 else 0) else if a = 3 then μ 8 f else if a = 5 then μ 9 f else 0
theorem RM.keep2 {μ μ' : St} {n : Nat} {S : Nat → Sk} {q : Nat} {V : Nat → Nat} {ch : Int32} (hg : RM μ n S q V ch) (h0 : μ' 0 5 = μ 0 5) (h6 : μ' 0 6 = μ 0 6) (h10 : μ' 0 10 = μ 0 10) (h3 : ∀ f, f < 54 → μ' 3 f = μ 3 f) (h5 : ∀ f, f < 16 → μ' 5 f = μ 5 f) : RM μ' n S q V ch := by
  obtain ⟨g1, g2, g3, g4, g5⟩ := hg
  have hn := g1.2
  have hq := g3.2
  refine ⟨⟨by rw [h0]; exact g1.1, hn⟩, by rw [h6]; exact g2, ⟨by rw [h10]; exact g3.1, hq⟩, fun k hk => ?_, fun i hi => ?_⟩
  · obtain ⟨v1, v2, v3, r1, r2, r3, r4, r5⟩ := g4 k hk
    have h4 : S k 3 ≤ 5 := v1.2.2.1
    exact ⟨v1, v2, v3, by rw [h3 _ (by omega)]; exact r1, by rw [h3 _ (by omega)]; exact r2, by rw [h3 _ (by omega)]; exact r3, by rw [h3 _ (by omega)]; exact r4, fun i hi => by rw [h3 _ (by omega)]; exact r5 i hi⟩
  · obtain ⟨a1, a2, a3, a4⟩ := g5 i hi
    exact ⟨by rw [h5 _ (by omega)]; exact a1, by rw [h5 _ (by omega)]; exact a2, a3, a4⟩
theorem AX.keep2 {σ σ' : St} (h : AX σ) (e : ∀ a, 14 ≤ a → σ' a = σ a) : AX σ' := by
  intro j hj
  obtain ⟨S, h1, h2⟩ := h j hj
  exact ⟨S, h1, h2.keep (e _ (by omega)) (e _ (by omega))⟩
/-- the image: none (the reference's number is none, or older than the hills'), or both hold the same -/
def KV (σ μ : St) (R : Nat) (kp : Bool) : Prop :=
  (kp = false ∧ (μ 0 15 = -1 ∨ ∃ R', R' < R ∧ μ 0 15 = nI R')) ∨ (kp = true ∧ μ 0 15 = nI R ∧ ∃ (n : Nat) (S : Nat → Sk) (q : Nat) (V : Nat → Nat) (ch : Int32), GH σ 1 n S q V ch ∧ RM (kv μ) n S q V ch)
theorem KV.keep {σ σ' μ μ' : St} {R : Nat} {kp : Bool} (h : KV σ μ R kp) (hσ : ∀ a, ¬ OutH 1 a → σ' a = σ a) (hμ : ∀ a f, (a = 0 ∧ (f = 15 ∨ f = 16 ∨ f = 17 ∨ f = 18)) ∨ (a = 8 ∧ f < 54) ∨ (a = 9 ∧ f < 16) → μ' a f = μ a f) : KV σ' μ' R kp := by
  have e15 := hμ 0 15 (by omega)
  rcases h with ⟨h1, h2⟩ | ⟨h1, h2, n, S, q, V, ch, g, r⟩
  · exact Or.inl ⟨h1, by rw [e15]; exact h2⟩
  · refine Or.inr ⟨h1, by rw [e15]; exact h2, n, S, q, V, ch, g.keep1 (by omega) hσ, r.keep2 ?_ ?_ ?_ (fun f hf => ?_) (fun f hf => ?_)⟩
    · exact hμ 0 16 (by omega)
    · exact hμ 0 17 (by omega)
    · exact hμ 0 18 (by omega)
    · exact hμ 8 f (by omega)
    · exact hμ 9 f (by omega)
def IVw (c : Nat) (σ μ : St) (n : Nat) (S : Nat → Sk) (q : Nat) (V : Nat → Nat) (ch : Int32) (pn : Nat) (P : Nat → Nat) (R : Nat) (kp : Bool) : Prop :=
  GH σ 0 n S q V ch ∧ RM μ n S q V ch ∧ PG σ pn P ∧ RP μ pn P ∧ (σ 0 5 = nI R ∧ μ 0 7 = nI R ∧ R ≤ c) ∧ AX σ ∧ σ 0 4 = bI kp ∧ KV σ μ R kp
def IV (c : Nat) (σ μ : St) : Prop := ∃ (n : Nat) (S : Nat → Sk) (q : Nat) (V : Nat → Nat) (ch : Int32) (pn : Nat) (P : Nat → Nat) (R : Nat) (kp : Bool), IVw c σ μ n S q V ch pn P R kp
section IVS
variable {c : Nat} {σ σ' μ μ' : St} {n n' : Nat} {S S' : Nat → Sk} {q q' : Nat} {V V' : Nat → Nat} {ch ch' : Int32} {pn pn' : Nat} {P P' : Nat → Nat} {R : Nat} {kp : Bool}
theorem IVw.iv (h : IVw c σ μ n S q V ch pn P R kp) : IV c σ μ := ⟨n, S, q, V, ch, pn, P, R, kp, h⟩
/-- only what no later call reads has changed -/
theorem IVw.mu (h : IVw c σ μ n S q V ch pn P R kp) (hσ : ∀ a, a ≠ 3 → σ' a = σ a) (hμ : ∀ a f, REL a f → μ' a f = μ a f) : IVw (c + 1) σ' μ' n S q V ch pn P R kp := by
  obtain ⟨g, r, p, rp, ⟨t1, t2, t3⟩, ax, k, kk⟩ := h
  have n3 : ∀ h a, ¬ OutH h a → a ≠ 3 := fun h a ha e => ha (by subst e; unfold OutH; omega)
  refine ⟨g.keep1 (by omega) (fun a ha => hσ a (n3 0 a ha)), r.keep2 (hμ _ _ (by unfold REL; omega)) (hμ _ _ (by unfold REL; omega)) (hμ _ _ (by unfold REL; omega)) (fun f hf => hμ _ _ (by unfold REL; omega)) (fun f hf => hμ _ _ (by unfold REL; omega)), ?_, ?_, ⟨by rw [hσ 0 (by omega)]; exact t1, by rw [hμ 0 7 (by unfold REL; omega)]; exact t2, by omega⟩, ax.keep2 (fun a ha => hσ a (by omega)), by rw [hσ 0 (by omega)]; exact k, kk.keep (fun a ha => hσ a (n3 1 a ha)) (fun a f hf => hμ a f (by unfold REL; omega))⟩
  · exact ⟨⟨by rw [hσ 1 (by omega)]; exact p.1.1, p.1.2⟩, fun i hi => by rw [hσ 2 (by omega)]; exact p.2 i hi⟩
  · exact ⟨⟨by rw [hμ 0 1 (by unfold REL; omega)]; exact rp.1.1, rp.1.2⟩, fun i hi => by rw [hμ 1 i (by unfold REL; omega)]; exact rp.2 i hi⟩
theorem IVw.same (h : IVw c σ μ n S q V ch pn P R kp) : IVw (c + 1) σ μ n S q V ch pn P R kp := h.mu (fun _ _ => rfl) (fun _ _ _ => rfl)
theorem rel_kq {u : StM} (h : KQ μ u) : ∀ a f, REL a f → u.1 a f = μ a f := fun a f hr => h a f (by unfold REL at hr; omega) (by unfold REL at hr; omega) (by unfold REL at hr; omega) (by unfold REL at hr; omega) (by unfold REL at hr; omega)
theorem rel_kf {u : StM} (h : KF μ u) : ∀ a f, REL a f → u.1 a f = μ a f := fun a f hr => h a f (by unfold REL at hr; omega) (by unfold REL at hr; omega)
theorem rel_sc {u : StM} (h : SC μ u.1) : ∀ a f, REL a f → u.1 a f = μ a f := fun a f hr => congrFun (h a (by unfold REL at hr; omega) (by unfold REL at hr; omega)) f
theorem rel_rf {u : StM} (h : u.1 = μ) : ∀ a f, REL a f → u.1 a f = μ a f := fun a f _ => by rw [h]
/-- the hills have changed -/
theorem IVw.chg (h : IVw c σ μ n S q V ch pn P R kp) (hc : Chg σ σ' n' S' q' V' ch') (hr : RM μ' n' S' q' V' ch') (hμ : ∀ a f, a ≠ 3 → a ≠ 5 → (a = 0 → f ≠ 5 ∧ f ≠ 6 ∧ f ≠ 10) → μ' a f = μ a f) : IVw (c + 1) σ' μ' n' S' q' V' ch' pn P R kp := by
  obtain ⟨g, r, p, rp, ⟨t1, t2, t3⟩, ax, k, kk⟩ := h
  obtain ⟨c1, c2, c3⟩ := hc
  have e0 : σ' 0 = σ 0 := c2 0 (by unfold OutH; omega)
  refine ⟨c1, hr, p.fh c2, ?_, ⟨by rw [e0]; exact t1, by rw [hμ 0 7 (by omega) (by omega) (by omega)]; exact t2, by omega⟩, c3 ax, by rw [e0]; exact k, kk.keep (fun a ha => c2 a (by unfold OutH at ha ⊢; omega)) (fun a f hf => hμ a f (by omega) (by omega) (by omega))⟩
  exact ⟨⟨by rw [hμ 0 1 (by omega) (by omega) (by omega)]; exact rp.1.1, rp.1.2⟩, fun i hi => by rw [hμ 1 i (by omega) (by omega) (by omega)]; exact rp.2 i hi⟩
/-- the page has changed -/
theorem IVw.pag (h : IVw c σ μ n S q V ch pn P R kp) (hc : Chp σ σ' pn' P') (hr : RP μ' pn' P') (hμ : ∀ a f, a ≠ 1 → (a = 0 → f ≠ 1) → μ' a f = μ a f) : IVw (c + 1) σ' μ' n S q V ch pn' P' R kp := by
  obtain ⟨g, r, p, rp, ⟨t1, t2, t3⟩, ax, k, kk⟩ := h
  obtain ⟨c1, c2⟩ := hc
  have n3 : ∀ h a, ¬ OutH h a → a ≠ 1 ∧ a ≠ 2 := fun h a ha => ⟨fun e => ha (by subst e; unfold OutH; omega), fun e => ha (by subst e; unfold OutH; omega)⟩
  have e0 : σ' 0 = σ 0 := c2 0 (by omega) (by omega)
  exact ⟨g.keep1 (by omega) (fun a ha => c2 a (n3 0 a ha).1 (n3 0 a ha).2), r.keep2 (hμ _ _ (by omega) (by omega)) (hμ _ _ (by omega) (by omega)) (hμ _ _ (by omega) (by omega)) (fun f hf => hμ _ _ (by omega) (by omega)) (fun f hf => hμ _ _ (by omega) (by omega)), c1, hr, ⟨by rw [e0]; exact t1, by rw [hμ 0 7 (by omega) (by omega)]; exact t2, by omega⟩, ax.keep2 (fun a ha => c2 a (by omega) (by omega)), by rw [e0]; exact k, kk.keep (fun a ha => c2 a (n3 1 a ha).1 (n3 1 a ha).2) (fun a f hf => hμ a f (by omega) (by omega))⟩
theorem IVw.bla (h : IVw c σ μ n S q V ch pn P R kp) : IVw (c + 1) (up2 σ 1 1 0) (up2 μ 0 1 0) n S q V ch 0 P R kp :=
  h.pag (pn' := 0) (P' := P) ⟨⟨⟨up2_eq, by omega⟩, fun i hi => absurd hi (Nat.not_lt_zero i)⟩, fun a h1 _ => up2_ne h1⟩ ⟨⟨up2_eq, by omega⟩, fun i hi => absurd hi (Nat.not_lt_zero i)⟩ (fun a f h1 h2 => by
    by_cases e : a = 0
    · exact up2_nf (h2 e)
    · exact up2_nr e)
/-- an image -/
theorem IVw.img {σ8 : St} (h : IVw c σ μ n S q V ch pn P R kp) (hz : CZ σ 1 0 σ8) (hi : IMG μ μ') : IVw (c + 1) (up2 σ8 0 4 1) μ' n S q V ch pn P R true := by
  obtain ⟨g, r, p, rp, ⟨t1, t2, t3⟩, ax, k, kk⟩ := h
  obtain ⟨z1, z2, z3⟩ := hz
  obtain ⟨i1, i2, i3, i4, i5, i6, i7⟩ := hi
  have up : ∀ h a, ¬ OutH h a → up2 σ8 0 4 1 a = σ8 a := fun h a ha => up2_ne (fun e => ha (by subst e; unfold OutH; omega))
  have e5 : up2 σ8 0 4 1 0 5 = σ 0 5 := (up2_nf (by decide)).trans (congrFun (z1 0 (by unfold OutH; omega)) 5)
  refine ⟨(g.keep1 (σ' := σ8) (by omega) (fun a ha => z1 a (by unfold OutH at ha ⊢; omega))).keep1 (by omega) (up 0), r.keep2 (i7 _ _ (by omega) (by omega) (by omega)) (i7 _ _ (by omega) (by omega) (by omega)) (i7 _ _ (by omega) (by omega) (by omega)) (fun f hf => i7 _ _ (by omega) (by omega) (by omega)) (fun f hf => i7 _ _ (by omega) (by omega) (by omega)), ?_, ?_, ⟨e5.trans t1, by rw [i7 0 7 (by omega) (by omega) (by omega)]; exact t2, by omega⟩, (z2 ax).keep2 (fun a ha => up2_ne (by omega)), up2_eq, Or.inr ⟨rfl, i6.trans t2, n, S, q, V, ch, (z3 n S q V ch g).keep1 (by omega) (up 1), r.keep2 i3 i4 i5 i1 i2⟩⟩
  · refine ⟨⟨?_, p.1.2⟩, fun i hi => ?_⟩
    · rw [up2_ne (by decide), z1 1 (by unfold OutH; omega)]; exact p.1.1
    · rw [up2_ne (by decide), z1 2 (by unfold OutH; omega)]; exact p.2 i hi
  · exact ⟨⟨by rw [i7 0 1 (by omega) (by omega) (by omega)]; exact rp.1.1, rp.1.2⟩, fun i hi => by rw [i7 1 i (by omega) (by omega) (by omega)]; exact rp.2 i hi⟩
/-- whether there is an image -/
theorem IVw.kp_f (h : IVw c σ μ n S q V ch pn P R kp) (hc : c < 2 ^ 31) (hk : kp = false) : μ 0 15 ≠ μ 0 7 := by
  obtain ⟨-, -, -, -, ⟨-, t2, t3⟩, -, -, kk⟩ := h
  rcases kk with ⟨-, h1 | ⟨R', h1, h2⟩⟩ | ⟨h1, -⟩
  · rw [h1, t2]
    intro e
    exact nI_pos (n := R) (by omega) (by rw [← e]; decide)
  · rw [h2, t2]
    intro e
    have := (nI_eq (by omega) (by omega)).mp e
    omega
  · rw [hk] at h1; cases h1
/-- back to the image -/
theorem IVw.rst (h : IVw c σ μ n S q V ch pn P R kp) (hk : kp = true) (hz : CZ σ 0 1 σ') (hi : RST μ μ') : μ 0 15 = μ 0 7 ∧ ∃ (n' : Nat) (S' : Nat → Sk) (q' : Nat) (V' : Nat → Nat) (ch' : Int32), IVw (c + 1) σ' μ' n' S' q' V' ch' pn P R kp ∧ σ' (5 * 0 + 4) 5 = ch' ∧ μ 0 17 = ch' := by
  obtain ⟨g, r, p, rp, ⟨t1, t2, t3⟩, ax, k, kk⟩ := h
  obtain ⟨z1, z2, z3⟩ := hz
  obtain ⟨i1, i2, i3, i4, i5, i7⟩ := hi
  rcases kk with ⟨h1, -⟩ | ⟨h1, h2, n', S', q', V', ch', g', r'⟩
  · rw [hk] at h1; cases h1
  refine ⟨h2.trans t2.symm, n', S', q', V', ch', ?_, (z3 n' S' q' V' ch' g').2.1, r'.2.1⟩
  have e0 : σ' 0 = σ 0 := z1 0 (by unfold OutH; omega)
  refine ⟨z3 n' S' q' V' ch' g', r'.keep2 i3 i4 i5 i1 i2, p.fh z1, ?_, ⟨by rw [e0]; exact t1, by rw [i7 0 7 (by omega) (by omega) (by omega)]; exact t2, by omega⟩, z2 ax, by rw [e0]; exact k, ?_⟩
  · exact ⟨⟨by rw [i7 0 1 (by omega) (by omega) (by omega)]; exact rp.1.1, rp.1.2⟩, fun i hi => by rw [i7 1 i (by omega) (by omega) (by omega)]; exact rp.2 i hi⟩
  · exact (show KV σ μ R kp from Or.inr ⟨h1, h2, n', S', q', V', ch', g', r'⟩).keep (fun a ha => z1 a (by unfold OutH at ha ⊢; omega)) (fun a f hf => i7 a f (by omega) (by omega) (by omega))
/-- the page is read -/
theorem IVw.hil {σ8 : St} {u : StM} (h : IVw c σ μ n S q V ch pn P R kp) (h2 : 2 < (prN P pn).2) (hc : c < 1000000) (hz : RI σ P pn σ8) (hi : RH μ P pn (nI R) u) : IVw (c + 1) (up2 (up2 (up2 σ8 1 1 0) 0 4 0) 0 5 (nI R + 1)) u.1 ((prN P pn).1 + 1) (pgS P pn) 0 V 0 0 P (R + 1) false := by
  obtain ⟨g, r, p, rp, ⟨t1, t2, t3⟩, ax, k, kk⟩ := h
  obtain ⟨z1, z2, z3⟩ := hz
  obtain ⟨i1, i2, i3, i4⟩ := hi
  have z1 := z1 V
  have en : nS P pn = (prN P pn).1 + 1 := if_pos (by omega)
  rw [en] at z1
  have up : ∀ h a, ¬ OutH h a → up2 (up2 (up2 σ8 1 1 0) 0 4 0) 0 5 (nI R + 1) a = σ8 a := fun h a ha => by
    have a0 : a ≠ 0 := fun e => ha (by subst e; unfold OutH; omega)
    have a1 : a ≠ 1 := fun e => ha (by subst e; unfold OutH; omega)
    rw [up2_ne a0, up2_ne a0, up2_ne a1]
  refine ⟨z1.keep1 (by omega) (up 0), i1 V, ⟨⟨?_, by omega⟩, fun i hi => absurd hi (Nat.not_lt_zero i)⟩, ⟨⟨i2, by omega⟩, fun i hi => absurd hi (Nat.not_lt_zero i)⟩, ⟨by rw [up2_eq, nI_1], by rw [i3, nI_1], by omega⟩, (z3 ax).keep2 (fun a ha => by rw [up2_ne (by omega), up2_ne (by omega), up2_ne (by omega)]), ?_, Or.inl ⟨rfl, ?_⟩⟩
  · rw [up2_ne (by decide), up2_ne (by decide), up2_eq]; rfl
  · rw [up2_nf (by decide), up2_eq]; rfl
  · rw [i4 0 15 (by omega) (by omega) (by omega)]
    rcases kk with ⟨-, h1 | ⟨R', h1, h3⟩⟩ | ⟨-, h1, -⟩
    · exact Or.inl h1
    · exact Or.inr ⟨R', by omega, h3⟩
    · exact Or.inr ⟨R, by omega, h1⟩
end IVS
