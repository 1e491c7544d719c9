def RPC (μ : St) (u : StM) (pn : Nat) (P : Nat → Nat) : Prop := RP u.1 pn P ∧ ∀ a f, a ≠ 1 → (a = 0 → f ≠ 1) → u.1 a f = μ a f
theorem Dm {μ : St} {u : StM} {D d : Int32 × Nat × (Nat → Nat)} {r : Int32} (e9 : D = d) (hr : r = d.1) (h : RPC μ u d.2.1 d.2.2) : r = D.1 ∧ RPC μ u D.2.1 D.2.2 := by subst e9; exact ⟨hr, h⟩
theorem RPC.rf {μ : St} {hs : Int64} {pn : Nat} {P : Nat → Nat} (h : RP μ pn P) : RPC μ (μ, hs) pn P := ⟨h, fun _ _ _ _ => rfl⟩
theorem RP.add {μ : St} {hs : Int64} {pn c9 : Nat} {P : Nat → Nat} (h : RP μ pn P) (h1 : pn < 32) (hc : 1 ≤ c9 ∧ c9 ≤ 126) : RPC μ (up2 (up2 μ 1 pn (nI c9)) 0 1 (nI (pn + 1)), hs) (pn + 1) (setP P pn c9) := by
  have f1 : up2 (up2 μ 1 pn (nI c9)) 0 1 (nI (pn + 1)) 0 1 = nI (pn + 1) := up2_eq
  have fr : ∀ a f, a ≠ 1 → (a = 0 → f ≠ 1) → up2 (up2 μ 1 pn (nI c9)) 0 1 (nI (pn + 1)) a f = μ a f := fun a f h1 h2 => (up2_o h2).trans (up2_o (fun z => absurd z h1))
  refine ⟨⟨⟨f1, by omega⟩, fun i hi => ?_⟩, fr⟩
  have e9 : up2 (up2 μ 1 pn (nI c9)) 0 1 (nI (pn + 1)) 1 i = up2 μ 1 pn (nI c9) 1 i := up2_o (fun z => absurd z (by decide))
  rw [show (up2 (up2 μ 1 pn (nI c9)) 0 1 (nI (pn + 1)), hs).1 1 i = _ from e9]
  by_cases e8 : i = pn
  · subst e8
    rw [up2_eq, show setP P i c9 i = c9 from if_pos rfl]
    exact ⟨rfl, hc⟩
  · rw [up2_nf e8, show setP P pn c9 i = P i from if_neg e8]
    exact h.2 i (by omega)
def RS (μ : St) (n : Nat) (S : Nat → Sk) (ch : Int32) (u : StM) (q : Nat) (V : Nat → Nat) : Prop := RM u.1 n S q V ch ∧ ∀ a f, a ≠ 5 → (a = 0 → f ≠ 10) → u.1 a f = μ a f
theorem Ds {μ : St} {n : Nat} {S : Nat → Sk} {ch : Int32} {u : StM} {D d : Int32 × Nat × (Nat → Nat)} {r : Int32} (e9 : D = d) (hr : r = d.1) (h : RS μ n S ch u d.2.1 d.2.2) : r = D.1 ∧ RS μ n S ch u D.2.1 D.2.2 := by subst e9; exact ⟨hr, h⟩
theorem RS.rf {μ : St} {hs : Int64} {n : Nat} {S : Nat → Sk} {ch : Int32} {q : Nat} {V : Nat → Nat} (h : RM μ n S q V ch) : RS μ n S ch (μ, hs) q V := ⟨h, fun _ _ _ _ => rfl⟩
theorem RM.see {μ : St} {hs : Int64} {n a t : Nat} {S : Nat → Sk} {ch : Int32} {q : Nat} {V : Nat → Nat} (h : RM μ n S q V ch) (hq : q < 8) (ha : a < 16) (ht : t ≤ 30) : RS μ n S ch (up2 (up2 (up2 μ 5 (2 * q) (nI a)) 5 (2 * q + 1) (nI t)) 0 10 (nI (q + 1)), hs) (q + 1) (setV V q a t) := by
  have fr : ∀ b f, b ≠ 5 → (b = 0 → f ≠ 10) → up2 (up2 (up2 μ 5 (2 * q) (nI a)) 5 (2 * q + 1) (nI t)) 0 10 (nI (q + 1)) b f = μ b f := fun b f h1 h2 => (up2_o h2).trans ((up2_o (fun z => absurd z h1)).trans (up2_o (fun z => absurd z h1)))
  have f1 : up2 (up2 (up2 μ 5 (2 * q) (nI a)) 5 (2 * q + 1) (nI t)) 0 10 (nI (q + 1)) 0 10 = nI (q + 1) := up2_eq
  refine ⟨⟨⟨(fr 0 5 (by decide) (by decide)).trans h.1.1, h.1.2⟩, (fr 0 6 (by decide) (by decide)).trans h.2.1, ⟨f1, by omega⟩, fun k hk => ?_, fun i hi => ?_⟩, fr⟩
  · obtain ⟨v, v1, v2, r0, r1, r2, r3, r4⟩ := h.2.2.2.1 k hk
    have f3 : ∀ f, (up2 (up2 (up2 μ 5 (2 * q) (nI a)) 5 (2 * q + 1) (nI t)) 0 10 (nI (q + 1)), hs).1 3 f = μ 3 f := fun f => fr 3 f (by decide) (fun z => absurd z (by decide))
    exact ⟨v, v1, v2, (f3 _).trans r0, (f3 _).trans r1, (f3 _).trans r2, (f3 _).trans r3, fun i hi => (f3 _).trans (r4 i hi)⟩
  · have f5' : ∀ f, up2 (up2 (up2 μ 5 (2 * q) (nI a)) 5 (2 * q + 1) (nI t)) 0 10 (nI (q + 1)) 5 f = up2 (up2 μ 5 (2 * q) (nI a)) 5 (2 * q + 1) (nI t) 5 f := fun f => up2_o (fun z => absurd z (by decide))
    have f5 : ∀ f, (up2 (up2 (up2 μ 5 (2 * q) (nI a)) 5 (2 * q + 1) (nI t)) 0 10 (nI (q + 1)), hs).1 5 f = up2 (up2 μ 5 (2 * q) (nI a)) 5 (2 * q + 1) (nI t) 5 f := f5'
    rw [f5, f5]
    by_cases e9 : i = q
    · subst e9
      have s1 : setV V i a t (2 * i) = a := if_pos rfl
      have s2 : setV V i a t (2 * i + 1) = t := (if_neg (by omega)).trans (if_pos rfl)
      rw [s1, s2]
      exact ⟨by rw [up2_nf (by omega), up2_eq], up2_eq, ha, ht⟩
    · have s1 : setV V q a t (2 * i) = V (2 * i) := (if_neg (by omega)).trans (if_neg (by omega))
      have s2 : setV V q a t (2 * i + 1) = V (2 * i + 1) := (if_neg (by omega)).trans (if_neg (by omega))
      rw [s1, s2, up2_nf (by omega), up2_nf (by omega), up2_nf (by omega), up2_nf (by omega)]
      exact h.2.2.2.2 i (by omega)
theorem RM.forget {μ : St} {hs : Int64} {n : Nat} {S : Nat → Sk} {ch : Int32} {q : Nat} {V : Nat → Nat} (h : RM μ n S q V ch) : RS μ n S ch (up2 μ 0 10 0, hs) 0 V := by
  have fr : ∀ b f, b ≠ 5 → (b = 0 → f ≠ 10) → up2 μ 0 10 0 b f = μ b f := fun b f h1 h2 => up2_o h2
  have f1 : up2 μ 0 10 0 0 10 = nI 0 := up2_eq
  refine ⟨⟨⟨(fr 0 5 (by decide) (by decide)).trans h.1.1, h.1.2⟩, (fr 0 6 (by decide) (by decide)).trans h.2.1, ⟨f1, by omega⟩, fun k hk => ?_, fun i hi => absurd hi (Nat.not_lt_zero i)⟩, fr⟩
  obtain ⟨v, v1, v2, r0, r1, r2, r3, r4⟩ := h.2.2.2.1 k hk
  have f3 : ∀ f, (up2 μ 0 10 0, hs).1 3 f = μ 3 f := fun f => fr 3 f (by decide) (fun z => absurd z (by decide))
  exact ⟨v, v1, v2, (f3 _).trans r0, (f3 _).trans r1, (f3 _).trans r2, (f3 _).trans r3, fun i hi => (f3 _).trans (r4 i hi)⟩
def RC (μ : St) (q : Nat) (V : Nat → Nat) (u : StM) (n : Nat) (S : Nat → Sk) (ch : Int32) : Prop := RM u.1 n S q V ch ∧ ∀ a f, a ≠ 3 → (a = 0 → f ≠ 5 ∧ f ≠ 6) → u.1 a f = μ a f
theorem Dn {μ : St} {q : Nat} {V : Nat → Nat} {u : StM} {D d : Dt} {r : Int32} (e9 : D = d) (hr : r = d.1) (h : RC μ q V u d.2.1 d.2.2.1 d.2.2.2) : r = D.1 ∧ RC μ q V u D.2.1 D.2.2.1 D.2.2.2 := by subst e9; exact ⟨hr, h⟩
theorem RC.rf {μ : St} {hs : Int64} {n : Nat} {S : Nat → Sk} {ch : Int32} {q : Nat} {V : Nat → Nat} (h : RM μ n S q V ch) : RC μ q V (μ, hs) n S ch := ⟨h, fun _ _ _ _ => rfl⟩
theorem RR.mv {μ μ' : St} {k : Nat} {S : Sk} (h : RR μ k S) (hv : S 3 ≤ 5) (ho : ∀ f, f < 9 → μ' 3 (9 * k + f) = μ 3 (9 * k + f)) : RR μ' k S := by
  obtain ⟨r0, r1, r2, r3, r4⟩ := h
  refine ⟨(ho 0 (by omega)).trans r0, (ho 1 (by omega)).trans r1, (ho 2 (by omega)).trans r2, (ho 3 (by omega)).trans r3, fun i hi => ?_⟩
  have h9 := ho (4 + i) (by omega)
  rw [← Nat.add_assoc] at h9
  exact h9.trans (r4 i hi)
theorem RM.put {μ μ' : St} {n k : Nat} {S : Nat → Sk} {q : Nat} {V : Nat → Nat} {ch ch' : Int32} {S1 : Sk} (hg : RM μ n S q V ch) (h5 : μ' 0 5 = μ 0 5) (h6 : μ' 0 6 = ch') (h10 : μ' 0 10 = μ 0 10) (h9 : μ' 5 = μ 5) (v : VS S1) (v1 : 1 ≤ S1 3) (v2 : S1 2 ≤ 9) (r : RR μ' k S1) (ho : ∀ i, i < n → i ≠ k → ∀ f, f < 9 → μ' 3 (9 * i + f) = μ 3 (9 * i + f)) : RM μ' n (putS S k S1) q V ch' := by
  refine ⟨⟨h5.trans hg.1.1, hg.1.2⟩, h6, ⟨h10.trans hg.2.2.1.1, hg.2.2.1.2⟩, fun i hi => ?_, by rw [h9]; exact hg.2.2.2.2⟩
  by_cases e9 : i = k
  · subst e9; rw [putS_eq]; exact ⟨v, v1, v2, r⟩
  · rw [putS_ne e9]
    obtain ⟨w, w1, w2, w3⟩ := hg.2.2.2.1 i hi
    exact ⟨w, w1, w2, w3.mv w.2.2.1 (ho i hi e9)⟩
theorem RM.late {μ : St} {hs : Int64} {n k t : Nat} {S : Nat → Sk} {q : Nat} {V : Nat → Nat} {ch : Int32} (hg : RM μ n S q V ch) (hk : k < n) (ht : t ≤ 9) : RC μ q V (up2 (up2 μ 3 (9 * k + 2) (nI t)) 0 6 (ch + 1), hs) n (putS S k (setL (S k) t)) (ch + 1) := by
  have fr : ∀ b f, (b = 3 → f ≠ 9 * k + 2) → (b = 0 → f ≠ 6) → up2 (up2 μ 3 (9 * k + 2) (nI t)) 0 6 (ch + 1) b f = μ b f := fun b f h1 h2 => (up2_o h2).trans (up2_o h1)
  have f6 : up2 (up2 μ 3 (9 * k + 2) (nI t)) 0 6 (ch + 1) 0 6 = ch + 1 := up2_eq
  have f2 : up2 (up2 μ 3 (9 * k + 2) (nI t)) 0 6 (ch + 1) 3 (9 * k + 2) = nI t := (up2_o (fun z => absurd z (by decide))).trans up2_eq
  obtain ⟨v, v1, v2, r0, r1, r2, r3, r4⟩ := hg.2.2.2.1 k hk
  refine ⟨hg.put (fr 0 5 (fun z => absurd z (by decide)) (by decide)) f6 (fr 0 10 (fun z => absurd z (by decide)) (by decide)) (funext fun f => fr 5 f (fun z => absurd z (by decide)) (fun z => absurd z (by decide))) (setL_vs v) v1 ht ⟨?_, ?_, f2, ?_, fun i hi => ?_⟩ (fun i hi hne f hf => fr 3 _ (fun _ => by omega) (fun z => absurd z (by decide))), fun b f h1 h2 => fr b f (fun z => absurd z h1) (fun z => (h2 z).2)⟩
  · exact (fr 3 _ (fun _ => by omega) (fun z => absurd z (by decide))).trans r0
  · exact (fr 3 _ (fun _ => by omega) (fun z => absurd z (by decide))).trans r1
  · exact (fr 3 _ (fun _ => by omega) (fun z => absurd z (by decide))).trans r3
  · have e9 : setL (S k) t (4 + i) = S k (4 + i) := if_neg (by omega)
    rw [e9]
    exact (fr 3 _ (fun _ => by omega) (fun z => absurd z (by decide))).trans (r4 i hi)
theorem RM.cut {μ : St} {hs : Int64} {n k t : Nat} {S : Nat → Sk} {q : Nat} {V : Nat → Nat} {ch : Int32} (hg : RM μ n S q V ch) (hk : k < n) (h1 : 1 ≤ t) (ht : t ≤ S k 3) : RC μ q V (up2 (up2 μ 3 (9 * k + 3) (nI t)) 0 6 (ch + 1), hs) n (putS S k (SF (S k) t)) (ch + 1) := by
  have fr : ∀ b f, (b = 3 → f ≠ 9 * k + 3) → (b = 0 → f ≠ 6) → up2 (up2 μ 3 (9 * k + 3) (nI t)) 0 6 (ch + 1) b f = μ b f := fun b f h1 h2 => (up2_o h2).trans (up2_o h1)
  have f6 : up2 (up2 μ 3 (9 * k + 3) (nI t)) 0 6 (ch + 1) 0 6 = ch + 1 := up2_eq
  have f2 : up2 (up2 μ 3 (9 * k + 3) (nI t)) 0 6 (ch + 1) 3 (9 * k + 3) = nI t := (up2_o (fun z => absurd z (by decide))).trans up2_eq
  obtain ⟨v, v1, v2, r0, r1, r2, r3, r4⟩ := hg.2.2.2.1 k hk
  refine ⟨hg.put (fr 0 5 (fun z => absurd z (by decide)) (by decide)) f6 (fr 0 10 (fun z => absurd z (by decide)) (by decide)) (funext fun f => fr 5 f (fun z => absurd z (by decide)) (fun z => absurd z (by decide))) (SF_vs v ht) h1 v2 ⟨?_, ?_, ?_, f2, fun i hi => ?_⟩ (fun i hi hne f hf => fr 3 _ (fun _ => by omega) (fun z => absurd z (by decide))), fun b f h1 h2 => fr b f (fun z => absurd z h1) (fun z => (h2 z).2)⟩
  · exact (fr 3 _ (fun _ => by omega) (fun z => absurd z (by decide))).trans r0
  · exact (fr 3 _ (fun _ => by omega) (fun z => absurd z (by decide))).trans r1
  · exact (fr 3 _ (fun _ => by omega) (fun z => absurd z (by decide))).trans r2
  · have hi : i < t := hi
    rw [SF_4]
    exact (fr 3 _ (fun _ => by omega) (fun z => absurd z (by decide))).trans (r4 i (by omega))
/-- while the sawn half is written -/
def SW (μ : St) (n : Nat) (S : Nat → Sk) (k t : Nat) (μ' : St) (i : Nat) : Prop :=
  μ' 3 (9 * n) = nI (S k 0) ∧ μ' 3 (9 * n + 1) = nI (plainN (S k) t) ∧ μ' 3 (9 * n + 2) = nI 0 ∧ μ' 3 (9 * n + 3) = nI (S k 3 - t) ∧ (∀ j, j < i - t → μ' 3 (9 * n + 4 + j) = nI (S k (4 + (j + t)))) ∧ ∀ a f, (a = 3 → f < 9 * n) → μ' a f = μ a f
theorem SW_0 {μ : St} {n : Nat} {S : Nat → Sk} {k t : Nat} : SW μ n S k t (up2 (up2 (up2 (up2 μ 3 (9 * n) (nI (S k 0))) 3 (9 * n + 1) (nI (plainN (S k) t))) 3 (9 * n + 2) 0) 3 (9 * n + 3) (nI (S k 3 - t))) t := by
  refine ⟨?_, ?_, ?_, up2_eq, fun j hj => absurd hj (by omega), fun a f h => ?_⟩
  · rw [up2_nf (by omega), up2_nf (by omega), up2_nf (by omega), up2_eq]
  · rw [up2_nf (by omega), up2_nf (by omega), up2_eq]
  · rw [up2_nf (by omega), up2_eq]; rfl
  · rw [up2_o (fun z => by have := h z; omega), up2_o (fun z => by have := h z; omega), up2_o (fun z => by have := h z; omega), up2_o (fun z => by have := h z; omega)]
theorem SW_s {μ μ' : St} {n : Nat} {S : Nat → Sk} {k t i : Nat} (h : SW μ n S k t μ' i) (ht : t ≤ i) : SW μ n S k t (up2 μ' 3 (9 * n + 4 + i - t) (nI (S k (4 + i)))) (i + 1) := by
  obtain ⟨a0, a1, a2, a3, a4, a5⟩ := h
  refine ⟨?_, ?_, ?_, ?_, fun j hj => ?_, fun a f h => ?_⟩
  · rw [up2_nf (by omega)]; exact a0
  · rw [up2_nf (by omega)]; exact a1
  · rw [up2_nf (by omega)]; exact a2
  · rw [up2_nf (by omega)]; exact a3
  · by_cases e9 : j = i - t
    · rw [show 9 * n + 4 + i - t = 9 * n + 4 + j by omega, up2_eq, show j + t = i by omega]
    · rw [up2_nf (by omega)]; exact a4 j (by omega)
  · rw [up2_o (fun z => by have := h z; omega)]; exact a5 a f h
theorem SW.fin {μ μ' : St} {hs : Int64} {n k t i : Nat} {S : Nat → Sk} {q : Nat} {V : Nat → Nat} {ch : Int32} (h : SW μ n S k t μ' i) (hi : S k 3 ≤ i) (hg : RM μ n S q V ch) (hk : k < n) (h6 : n < 6) (h1 : 1 ≤ t) (ht : t < S k 3) : RC μ q V (up2 (up2 (up2 μ' 3 (9 * k + 3) (nI t)) 0 5 (nI (n + 1))) 0 6 (ch + 1), hs) (n + 1) (putS (putS S n (SR (S k) t (S k 3 - t))) k (SF (S k) t)) (ch + 1) := by
  obtain ⟨a0, a1, a2, a3, a4, a5⟩ := h
  have gr : ∀ f, f ≠ 9 * k + 3 → up2 (up2 (up2 μ' 3 (9 * k + 3) (nI t)) 0 5 (nI (n + 1))) 0 6 (ch + 1) 3 f = μ' 3 f := fun f h2 => (up2_o (fun z => absurd z (by decide))).trans ((up2_o (fun z => absurd z (by decide))).trans (up2_o (fun _ => h2)))
  have fr : ∀ b f, b ≠ 3 → (b = 0 → f ≠ 5 ∧ f ≠ 6) → up2 (up2 (up2 μ' 3 (9 * k + 3) (nI t)) 0 5 (nI (n + 1))) 0 6 (ch + 1) b f = μ b f := fun b f h2 h3 => (up2_o (fun z => (h3 z).2)).trans ((up2_o (fun z => (h3 z).1)).trans ((up2_o (fun z => absurd z h2)).trans (a5 b f (fun z => absurd z h2))))
  have f2 : up2 (up2 (up2 μ' 3 (9 * k + 3) (nI t)) 0 5 (nI (n + 1))) 0 6 (ch + 1) 3 (9 * k + 3) = nI t := (up2_o (fun z => absurd z (by decide))).trans ((up2_o (fun z => absurd z (by decide))).trans up2_eq)
  have f5 : up2 (up2 (up2 μ' 3 (9 * k + 3) (nI t)) 0 5 (nI (n + 1))) 0 6 (ch + 1) 0 5 = nI (n + 1) := (up2_nf (by decide)).trans up2_eq
  obtain ⟨v, v1, v2, r0, r1, r2, r3, r4⟩ := hg.2.2.2.1 k hk
  have v5 := v.2.2.1
  have f6 : up2 (up2 (up2 μ' 3 (9 * k + 3) (nI t)) 0 5 (nI (n + 1))) 0 6 (ch + 1) 0 6 = ch + 1 := up2_eq
  refine ⟨⟨⟨f5, by omega⟩, f6, ⟨(fr 0 10 (by decide) (by decide)).trans hg.2.2.1.1, hg.2.2.1.2⟩, fun i9 hi9 => ?_, fun i9 hi9 => ?_⟩, fr⟩
  · by_cases e9 : i9 = k
    · subst e9
      rw [putS_eq]
      refine ⟨SF_vs v (by omega), h1, v2, ?_, ?_, ?_, f2, fun j hj => ?_⟩
      · exact (gr _ (by omega)).trans ((a5 3 _ (fun _ => by omega)).trans r0)
      · exact (gr _ (by omega)).trans ((a5 3 _ (fun _ => by omega)).trans r1)
      · exact (gr _ (by omega)).trans ((a5 3 _ (fun _ => by omega)).trans r2)
      · have hj : j < t := hj
        rw [SF_4]
        exact (gr _ (by omega)).trans ((a5 3 _ (fun _ => by omega)).trans (r4 j (by omega)))
    · rw [putS_ne e9]
      by_cases e8 : i9 = n
      · subst e8
        rw [putS_eq]
        refine ⟨SR_vs v (by omega), (show 1 ≤ S k 3 - t by omega), (show 0 ≤ 9 by omega), ?_, ?_, ?_, ?_, fun j hj => ?_⟩
        · exact (gr _ (by omega)).trans a0
        · exact (gr _ (by omega)).trans a1
        · exact (gr _ (by omega)).trans a2
        · exact (gr _ (by omega)).trans a3
        · have hj : j < S k 3 - t := hj
          rw [SR_4]
          exact (gr _ (by omega)).trans (a4 j (by omega))
      · rw [putS_ne e8]
        obtain ⟨w, w1, w2, w3⟩ := hg.2.2.2.1 i9 (by omega)
        exact ⟨w, w1, w2, w3.mv w.2.2.1 (fun f hf => (gr _ (by omega)).trans (a5 3 _ (fun _ => by omega)))⟩
  · have h9 : ∀ f, (up2 (up2 (up2 μ' 3 (9 * k + 3) (nI t)) 0 5 (nI (n + 1))) 0 6 (ch + 1), hs).1 5 f = μ 5 f := fun f => fr 5 f (by decide) (fun z => absurd z (by decide))
    rw [h9, h9]; exact hg.2.2.2.2 i9 hi9
set_option maxHeartbeats 4000000 in
set_option maxRecDepth 100000 in
theorem c_X4_letter (l : Launch) (G : Gam) (μ : St) (hs : Int64) (pn : Nat) (P : Nat → Nat) (hp : RP μ pn P) (x : Int32) : Met l yX4_letter (w1 yX4_letter cX4_letter 2 (some .int)) ({ frames := 1, cells := 0, slots := 0, locals := 25 }) (PcM G μ hs [.ref (gm G 0), .int x]) (QiM G (fun r u9 => r = (dLet pn P x).1 ∧ RPC μ u9 (dLet pn P x).2.1 (dLet pn P x).2.2)) 0 0 (aM G) := by
  rcases hasB_c x (n := 127) (by omega) with hx0 | ⟨k, hk, rfl⟩
  · skip
    refine met_of [.ref (gm G 0), .int x] [(0, .ref (gm G 0)), (1, .int x)] (by decide) (Nat.le_of_ble_eq_true rfl) rfl ?_
    intro p e s m below meth c hx hb hr hown hml hlocks hW ls hl
    have hG : GW s := hW.2.2.2
    have hS : va_S (aM G) s.heap s.heap [] := va_S.rf
    have hp32 := hp.1.2
    refine lv_iload_n hx hb dX4_letter_0 rfl (lv_at hl 1 rfl) ?_
    refine lv_i2l hx hb dX4_letter_1 rfl ?_
    refine lv_lconst (v := 1) hx hb dX4_letter_2 rfl ?_
    refine lv_ldc2 (v := 126) hx hb hown (hG.use (i := 640) (by decide +kernel) rfl _) dX4_letter_3 ?_
    refine cs_i (q := 641) [.long ((x : Int32).toInt64), .long 1, .long 126] hx hb hml hown hG v_X4_in (by decide +kernel) (c_X4_in l ((x : Int32).toInt64) (1) (126)) (preT _) rfl hl.1 (Nat.le_of_ble_eq_true rfl) dX4_letter_6 ⟨rfl, rfl, Nat.le_of_ble_eq_true rfl, Nat.le_of_ble_eq_true rfl⟩ ⟨Nat.le_of_ble_eq_true rfl, Nat.le_of_ble_eq_true rfl⟩ ?_
    refine lv_eqi (y := 0) (by rw [show inL x.toInt64 1 126 = _ from inF 1 126 (by omega) (by omega) hx0]; rfl) ?_
    refine lv_if_ne (tgt := 15) hx hb dX4_letter_9 (by decide) (fun c_9 => ?_) (fun c_9 => ?_)
    · skip
      exact absurd (by decide) c_9
    · skip
      refine lv_bipush (v := (-102)) hx hb dX4_letter_12 (by decide) ?_
      exact W.iret (v := (-102)) hx hb hr (fun t9 ht9 hW9 => ⟨⟨_, (μ, hs), rfl, (Dm (wG_f hx0) rfl (RPC.rf hp)), (by have h8 := hW.1; rw [← ht9] at h8; exact h8)⟩, hS.F ht9⟩) hS.2.2 dX4_letter_14
  · skip
    rcases Nat.eq_zero_or_pos k with hk0 | hk0
    · skip
      refine met_of [.ref (gm G 0), .int (nI k)] [(0, .ref (gm G 0)), (1, .int (nI k))] (by decide) (Nat.le_of_ble_eq_true rfl) rfl ?_
      intro p e s m below meth c hx hb hr hown hml hlocks hW ls hl
      have hG : GW s := hW.2.2.2
      have hS : va_S (aM G) s.heap s.heap [] := va_S.rf
      have hp32 := hp.1.2
      refine lv_iload_n hx hb dX4_letter_0 rfl (lv_at hl 1 rfl) ?_
      refine lv_i2l hx hb dX4_letter_1 rfl ?_
      refine lv_lconst (v := 1) hx hb dX4_letter_2 rfl ?_
      refine lv_ldc2 (v := 126) hx hb hown (hG.use (i := 640) (by decide +kernel) rfl _) dX4_letter_3 ?_
      refine cs_i (q := 641) [.long ((nI k : Int32).toInt64), .long 1, .long 126] hx hb hml hown hG v_X4_in (by decide +kernel) (c_X4_in l ((nI k : Int32).toInt64) (1) (126)) (preT _) rfl hl.1 (Nat.le_of_ble_eq_true rfl) dX4_letter_6 ⟨rfl, rfl, Nat.le_of_ble_eq_true rfl, Nat.le_of_ble_eq_true rfl⟩ ⟨Nat.le_of_ble_eq_true rfl, Nat.le_of_ble_eq_true rfl⟩ ?_
      refine lv_eqi (y := 0) (by subst hk0; decide) ?_
      refine lv_if_ne (tgt := 15) hx hb dX4_letter_9 (by decide) (fun c_9 => ?_) (fun c_9 => ?_)
      · skip
        exact absurd (by decide) c_9
      · skip
        refine lv_bipush (v := (-102)) hx hb dX4_letter_12 (by decide) ?_
        exact W.iret (v := (-102)) hx hb hr (fun t9 ht9 hW9 => ⟨⟨_, (μ, hs), rfl, (Dm ((wG_k hk (by omega)).trans (if_pos hk0)) rfl (RPC.rf hp)), (by have h8 := hW.1; rw [← ht9] at h8; exact h8)⟩, hS.F ht9⟩) hS.2.2 dX4_letter_14
    · skip
      refine met_of [.ref (gm G 0), .int (nI k)] [(0, .ref (gm G 0)), (1, .int (nI k))] (by decide) (Nat.le_of_ble_eq_true rfl) rfl ?_
      intro p e s m below meth c hx hb hr hown hml hlocks hW ls hl
      have hG : GW s := hW.2.2.2
      have hS : va_S (aM G) s.heap s.heap [] := va_S.rf
      have hp32 := hp.1.2
      refine lv_iload_n hx hb dX4_letter_0 rfl (lv_at hl 1 rfl) ?_
      refine lv_i2l hx hb dX4_letter_1 rfl ?_
      refine lv_lconst (v := 1) hx hb dX4_letter_2 rfl ?_
      refine lv_ldc2 (v := 126) hx hb hown (hG.use (i := 640) (by decide +kernel) rfl _) dX4_letter_3 ?_
      refine cs_i (q := 641) [.long ((nI k : Int32).toInt64), .long 1, .long 126] hx hb hml hown hG v_X4_in (by decide +kernel) (c_X4_in l ((nI k : Int32).toInt64) (1) (126)) (preT _) rfl hl.1 (Nat.le_of_ble_eq_true rfl) dX4_letter_6 ⟨rfl, rfl, Nat.le_of_ble_eq_true rfl, Nat.le_of_ble_eq_true rfl⟩ ⟨Nat.le_of_ble_eq_true rfl, Nat.le_of_ble_eq_true rfl⟩ ?_
      refine lv_eqi (y := 1) (by rw [show inL (nI k).toInt64 1 126 = _ from @inL_n k 1 126 (by omega) (by omega) (by omega), decide_eq_true (by omega)]; rfl) ?_
      refine lv_if_ne (tgt := 15) hx hb dX4_letter_9 (by decide) (fun c_9 => ?_) (fun c_9 => ?_)
      · skip
        refine lv_aload_n hx hb dX4_letter_15 rfl (lv_at hl 0 rfl) ?_
        refine rd_X4_47 hx hb hown hW dX4_letter_16 ?_
        refine lv_eqi (y := nI pn) hp.1.1 ?_
        refine lv_bipush (v := 32) hx hb dX4_letter_19 (by decide) ?_
        refine lv_icmp_ne (tgt := 27) hx hb dX4_letter_21 (by decide) (fun c_21 => ?_) (fun c_21 => ?_)
        · skip
          have q_21 := tN_ne pn 32 c_21 rfl rfl (by omega) (by omega)
          refine lv_aload_n hx hb dX4_letter_27 rfl (lv_at hl 0 rfl) ?_
          refine rd_X4_7 hx hb hown hW dX4_letter_28 ?_
          refine lv_aload_n hx hb dX4_letter_31 rfl (lv_at hl 0 rfl) ?_
          refine rd_X4_47 hx hb hown hW dX4_letter_32 ?_
          refine lv_eqi (y := nI pn) hp.1.1 ?_
          refine lv_iload_n hx hb dX4_letter_35 rfl (lv_at hl 1 rfl) ?_
          refine as_M (k := pn) 1 hx hb hW hS rfl (show _ < 32 by omega) dX4_letter_36 (fun H locs hW hS => ?_)
          obtain ⟨μ1, hμ1⟩ : ∃ z, z = up2 μ 1 pn (nI k) := ⟨_, rfl⟩
          rw [← hμ1] at hW
          refine lv_aload_n hx hb dX4_letter_37 rfl (lv_at hl 0 rfl) ?_
          refine lv_dup hx hb dX4_letter_38 rfl ?_
          refine rd_X4_47 hx hb hown hW dX4_letter_39 ?_
          refine lv_eqi (y := nI pn) (by rw [hμ1, up2_ne (by decide)]; exact hp.1.1) ?_
          refine lv_iconst (v := 1) hx hb dX4_letter_42 (by decide) ?_
          refine ln_add pn 1 hx hb rfl rfl dX4_letter_43 ?_
          refine wr_X4_47 hx hb hown hW hS dX4_letter_44 (fun H locs hW hS => ?_)
          obtain ⟨μ2, hμ2⟩ : ∃ z, z = up2 μ1 (0) 1 (nI (pn + 1)) := ⟨_, rfl⟩
          rw [← hμ2] at hW
          refine lv_aload_n hx hb dX4_letter_47 rfl (lv_at hl 0 rfl) ?_
          refine rd_X4_47 hx hb hown hW dX4_letter_48 ?_
          refine lv_eqi (y := nI (pn + 1)) (by rw [hμ2, up2_eq]) ?_
          exact W.iret (v := nI (pn + 1)) hx hb hr (fun t9 ht9 hW9 => ⟨⟨_, (μ2, hs), rfl, (Dm ((wG_k hk (by omega)).trans ((if_neg (by omega)).trans (if_pos (by omega)))) rfl (by subst hμ2; subst hμ1; exact hp.add (by omega) ⟨by omega, by omega⟩)), (by have h8 := hW.1; rw [← ht9] at h8; exact h8)⟩, hS.F ht9⟩) hS.2.2 dX4_letter_51
        · skip
          have q_21 := tN_eq pn 32 c_21 rfl rfl (by omega) (by omega)
          refine lv_bipush (v := (-104)) hx hb dX4_letter_24 (by decide) ?_
          exact W.iret (v := (-104)) hx hb hr (fun t9 ht9 hW9 => ⟨⟨_, (μ, hs), rfl, (Dm ((wG_k hk (by omega)).trans ((if_neg (by omega)).trans (if_neg (by omega)))) rfl (RPC.rf hp)), (by have h8 := hW.1; rw [← ht9] at h8; exact h8)⟩, hS.F ht9⟩) hS.2.2 dX4_letter_26
      · skip
        exact absurd c_9 (by decide)
set_option maxHeartbeats 4000000 in
set_option maxRecDepth 100000 in
theorem c_X4_blank (l : Launch) (G : Gam) (μ : St) (hs : Int64) (pn : Nat) (P : Nat → Nat) (hp : RP μ pn P) : Met l yX4_blank (w1 yX4_blank cX4_blank 2 (some .int)) ({ frames := 0, cells := 0, slots := 0, locals := 0 }) (PcM G μ hs [.ref (gm G 0)]) (QiM G (fun r u9 => r = nI pn ∧ u9.1 = up2 μ 0 1 0)) 0 0 (aM G) := by
  refine met_of [.ref (gm G 0)] [(0, .ref (gm G 0))] (by decide) (Nat.le_of_ble_eq_true rfl) rfl ?_
  intro p e s m below meth c hx hb hr hown hml hlocks hW ls hl
  have hG : GW s := hW.2.2.2
  have hS : va_S (aM G) s.heap s.heap [] := va_S.rf
  refine lv_aload_n hx hb dX4_blank_0 rfl (lv_at hl 0 rfl) ?_
  refine rd_X4_47 hx hb hown hW dX4_blank_1 ?_
  refine lv_eqi (y := nI pn) hp.1.1 ?_
  refine lv_istore_n (lv' := [(1, .int (nI pn)), (0, .ref (gm G 0))]) hx hb dX4_blank_4 rfl hl (by decide) rfl (fun ls hl => ?_)
  refine lv_aload_n hx hb dX4_blank_5 rfl (lv_at hl 1 rfl) ?_
  refine lv_iconst (v := 0) hx hb dX4_blank_6 (by decide) ?_
  refine wr_X4_47 hx hb hown hW hS dX4_blank_7 (fun H locs hW hS => ?_)
  obtain ⟨μ1, hμ1⟩ : ∃ z, z = up2 μ (0) 1 0 := ⟨_, rfl⟩
  rw [← hμ1] at hW
  refine lv_iload_n hx hb dX4_blank_10 rfl (lv_at hl 0 rfl) ?_
  exact W.iret (v := nI pn) hx hb hr (fun t9 ht9 hW9 => ⟨⟨_, (μ1, hs), rfl, ⟨rfl, by subst hμ1; rfl⟩, (by have h8 := hW.1; rw [← ht9] at h8; exact h8)⟩, hS.F ht9⟩) hS.2.2 dX4_blank_11
set_option maxHeartbeats 4000000 in
set_option maxRecDepth 100000 in
theorem c_X4_see (l : Launch) (G : Gam) (μ : St) (hs : Int64) (n : Nat) (S : Nat → Sk) (q : Nat) (V : Nat → Nat) (ch : Int32) (hg : RM μ n S q V ch) (x y : Int32) : Met l yX4_see (w1 yX4_see cX4_see 3 (some .int)) ({ frames := 1, cells := 0, slots := 0, locals := 25 }) (PcM G μ hs [.ref (gm G 0), .int x, .int y]) (QiM G (fun r u9 => r = (dSee q V x y).1 ∧ RS μ n S ch u9 (dSee q V x y).2.1 (dSee q V x y).2.2)) 0 0 (aM G) := by
  have hn6 := hg.1.2
  have hq8 := hg.2.2.1.2
  rcases hasB_c x (n := 16) (by omega) with hx0 | ⟨k, hk, rfl⟩
  · skip
    refine met_of [.ref (gm G 0), .int x, .int y] [(0, .ref (gm G 0)), (1, .int x), (2, .int y)] (by decide) (Nat.le_of_ble_eq_true rfl) rfl ?_
    intro p e s m below meth c hx hb hr hown hml hlocks hW ls hl
    have hG : GW s := hW.2.2.2
    have hS : va_S (aM G) s.heap s.heap [] := va_S.rf
    refine lv_iload_n hx hb dX4_see_0 rfl (lv_at hl 1 rfl) ?_
    refine lv_i2l hx hb dX4_see_1 rfl ?_
    refine lv_lconst (v := 0) hx hb dX4_see_2 rfl ?_
    refine lv_ldc2 (v := 15) hx hb hown (hG.use (i := 777) (by decide +kernel) rfl _) dX4_see_3 ?_
    refine cs_i (q := 641) [.long ((x : Int32).toInt64), .long 0, .long 15] hx hb hml hown hG v_X4_in (by decide +kernel) (c_X4_in l ((x : Int32).toInt64) (0) (15)) (preT _) rfl hl.1 (Nat.le_of_ble_eq_true rfl) dX4_see_6 ⟨rfl, rfl, Nat.le_of_ble_eq_true rfl, Nat.le_of_ble_eq_true rfl⟩ ⟨Nat.le_of_ble_eq_true rfl, Nat.le_of_ble_eq_true rfl⟩ ?_
    refine lv_eqi (y := 0) (by rw [inI _ 15 15 rfl (by omega), hx0]; rfl) ?_
    refine lv_if_eq (tgt := 24) hx hb dX4_see_9 (by decide) (fun c_9 => ?_) (fun c_9 => ?_)
    · skip
      refine lv_bipush (v := (-102)) hx hb dX4_see_24 (by decide) ?_
      exact W.iret (v := (-102)) hx hb hr (fun t9 ht9 hW9 => ⟨⟨_, (μ, hs), rfl, (Ds (wG_f hx0) rfl (RS.rf hg)), (by have h8 := hW.1; rw [← ht9] at h8; exact h8)⟩, hS.F ht9⟩) hS.2.2 dX4_see_26
    · skip
      exact absurd (by decide) c_9
  · skip
    rcases hasB_c y (n := 31) (by omega) with hy0 | ⟨t, ht, rfl⟩
    · skip
      refine met_of [.ref (gm G 0), .int (nI k), .int y] [(0, .ref (gm G 0)), (1, .int (nI k)), (2, .int y)] (by decide) (Nat.le_of_ble_eq_true rfl) rfl ?_
      intro p e s m below meth c hx hb hr hown hml hlocks hW ls hl
      have hG : GW s := hW.2.2.2
      have hS : va_S (aM G) s.heap s.heap [] := va_S.rf
      refine lv_iload_n hx hb dX4_see_0 rfl (lv_at hl 1 rfl) ?_
      refine lv_i2l hx hb dX4_see_1 rfl ?_
      refine lv_lconst (v := 0) hx hb dX4_see_2 rfl ?_
      refine lv_ldc2 (v := 15) hx hb hown (hG.use (i := 777) (by decide +kernel) rfl _) dX4_see_3 ?_
      refine cs_i (q := 641) [.long ((nI k : Int32).toInt64), .long 0, .long 15] hx hb hml hown hG v_X4_in (by decide +kernel) (c_X4_in l ((nI k : Int32).toInt64) (0) (15)) (preT _) rfl hl.1 (Nat.le_of_ble_eq_true rfl) dX4_see_6 ⟨rfl, rfl, Nat.le_of_ble_eq_true rfl, Nat.le_of_ble_eq_true rfl⟩ ⟨Nat.le_of_ble_eq_true rfl, Nat.le_of_ble_eq_true rfl⟩ ?_
      refine lv_eqi (y := 1) (by rw [inI _ 15 15 rfl (by omega), hasB_k hk (by omega)]; rfl) ?_
      refine lv_if_eq (tgt := 24) hx hb dX4_see_9 (by decide) (fun c_9 => ?_) (fun c_9 => ?_)
      · skip
        exact absurd c_9 (by decide)
      · skip
        refine lv_iload_n hx hb dX4_see_12 rfl (lv_at hl 2 rfl) ?_
        refine lv_i2l hx hb dX4_see_13 rfl ?_
        refine lv_lconst (v := 0) hx hb dX4_see_14 rfl ?_
        refine lv_ldc2 (v := 30) hx hb hown (hG.use (i := 722) (by decide +kernel) rfl _) dX4_see_15 ?_
        refine cs_i (q := 641) [.long ((y : Int32).toInt64), .long 0, .long 30] hx hb hml hown hG v_X4_in (by decide +kernel) (c_X4_in l ((y : Int32).toInt64) (0) (30)) (preT _) rfl hl.1 (Nat.le_of_ble_eq_true rfl) dX4_see_18 ⟨rfl, rfl, Nat.le_of_ble_eq_true rfl, Nat.le_of_ble_eq_true rfl⟩ ⟨Nat.le_of_ble_eq_true rfl, Nat.le_of_ble_eq_true rfl⟩ ?_
        refine lv_eqi (y := 0) (by rw [inI _ 30 30 rfl (by omega), hy0]; rfl) ?_
        refine lv_if_ne (tgt := 27) hx hb dX4_see_21 (by decide) (fun c_21 => ?_) (fun c_21 => ?_)
        · skip
          exact absurd (by decide) c_21
        · skip
          refine lv_bipush (v := (-102)) hx hb dX4_see_24 (by decide) ?_
          exact W.iret (v := (-102)) hx hb hr (fun t9 ht9 hW9 => ⟨⟨_, (μ, hs), rfl, (Ds ((wG_k hk (by omega)).trans (wG_f hy0)) rfl (RS.rf hg)), (by have h8 := hW.1; rw [← ht9] at h8; exact h8)⟩, hS.F ht9⟩) hS.2.2 dX4_see_26
    · skip
      refine met_of [.ref (gm G 0), .int (nI k), .int (nI t)] [(0, .ref (gm G 0)), (1, .int (nI k)), (2, .int (nI t))] (by decide) (Nat.le_of_ble_eq_true rfl) rfl ?_
      intro p e s m below meth c hx hb hr hown hml hlocks hW ls hl
      have hG : GW s := hW.2.2.2
      have hS : va_S (aM G) s.heap s.heap [] := va_S.rf
      refine lv_iload_n hx hb dX4_see_0 rfl (lv_at hl 1 rfl) ?_
      refine lv_i2l hx hb dX4_see_1 rfl ?_
      refine lv_lconst (v := 0) hx hb dX4_see_2 rfl ?_
      refine lv_ldc2 (v := 15) hx hb hown (hG.use (i := 777) (by decide +kernel) rfl _) dX4_see_3 ?_
      refine cs_i (q := 641) [.long ((nI k : Int32).toInt64), .long 0, .long 15] hx hb hml hown hG v_X4_in (by decide +kernel) (c_X4_in l ((nI k : Int32).toInt64) (0) (15)) (preT _) rfl hl.1 (Nat.le_of_ble_eq_true rfl) dX4_see_6 ⟨rfl, rfl, Nat.le_of_ble_eq_true rfl, Nat.le_of_ble_eq_true rfl⟩ ⟨Nat.le_of_ble_eq_true rfl, Nat.le_of_ble_eq_true rfl⟩ ?_
      refine lv_eqi (y := 1) (by rw [inI _ 15 15 rfl (by omega), hasB_k hk (by omega)]; rfl) ?_
      refine lv_if_eq (tgt := 24) hx hb dX4_see_9 (by decide) (fun c_9 => ?_) (fun c_9 => ?_)
      · skip
        exact absurd c_9 (by decide)
      · skip
        refine lv_iload_n hx hb dX4_see_12 rfl (lv_at hl 2 rfl) ?_
        refine lv_i2l hx hb dX4_see_13 rfl ?_
        refine lv_lconst (v := 0) hx hb dX4_see_14 rfl ?_
        refine lv_ldc2 (v := 30) hx hb hown (hG.use (i := 722) (by decide +kernel) rfl _) dX4_see_15 ?_
        refine cs_i (q := 641) [.long ((nI t : Int32).toInt64), .long 0, .long 30] hx hb hml hown hG v_X4_in (by decide +kernel) (c_X4_in l ((nI t : Int32).toInt64) (0) (30)) (preT _) rfl hl.1 (Nat.le_of_ble_eq_true rfl) dX4_see_18 ⟨rfl, rfl, Nat.le_of_ble_eq_true rfl, Nat.le_of_ble_eq_true rfl⟩ ⟨Nat.le_of_ble_eq_true rfl, Nat.le_of_ble_eq_true rfl⟩ ?_
        refine lv_eqi (y := 1) (by rw [inI _ 30 30 rfl (by omega), hasB_k ht (by omega)]; rfl) ?_
        refine lv_if_ne (tgt := 27) hx hb dX4_see_21 (by decide) (fun c_21 => ?_) (fun c_21 => ?_)
        · skip
          refine lv_aload_n hx hb dX4_see_27 rfl (lv_at hl 0 rfl) ?_
          refine rd_X4_81 hx hb hown hW dX4_see_28 ?_
          refine lv_eqi (y := nI q) hg.2.2.1.1 ?_
          refine lv_bipush (v := 8) hx hb dX4_see_31 (by decide) ?_
          refine lv_icmp_ne (tgt := 39) hx hb dX4_see_33 (by decide) (fun c_33 => ?_) (fun c_33 => ?_)
          · skip
            have q_33 := tN_ne q 8 c_33 rfl rfl (by omega) (by omega)
            refine lv_aload_n hx hb dX4_see_39 rfl (lv_at hl 0 rfl) ?_
            refine rd_X4_22 hx hb hown hW dX4_see_40 ?_
            refine lv_iconst (v := 2) hx hb dX4_see_43 (by decide) ?_
            refine lv_aload_n hx hb dX4_see_44 rfl (lv_at hl 0 rfl) ?_
            refine rd_X4_81 hx hb hown hW dX4_see_45 ?_
            refine lv_eqi (y := nI q) hg.2.2.1.1 ?_
            refine ln_mul 2 q hx hb rfl rfl dX4_see_48 ?_
            refine lv_iload_n hx hb dX4_see_49 rfl (lv_at hl 1 rfl) ?_
            refine as_M (k := 2 * q) 5 hx hb hW hS rfl (show _ < 16 by omega) dX4_see_50 (fun H locs hW hS => ?_)
            obtain ⟨μ1, hμ1⟩ : ∃ z, z = up2 μ 5 (2 * q) (nI k) := ⟨_, rfl⟩
            rw [← hμ1] at hW
            refine lv_aload_n hx hb dX4_see_51 rfl (lv_at hl 0 rfl) ?_
            refine rd_X4_22 hx hb hown hW dX4_see_52 ?_
            refine lv_iconst (v := 2) hx hb dX4_see_55 (by decide) ?_
            refine lv_aload_n hx hb dX4_see_56 rfl (lv_at hl 0 rfl) ?_
            refine rd_X4_81 hx hb hown hW dX4_see_57 ?_
            refine lv_eqi (y := nI q) (by rw [hμ1, up2_ne (by decide)]; exact hg.2.2.1.1) ?_
            refine ln_mul 2 q hx hb rfl rfl dX4_see_60 ?_
            refine lv_iconst (v := 1) hx hb dX4_see_61 (by decide) ?_
            refine ln_add (2 * q) 1 hx hb rfl rfl dX4_see_62 ?_
            refine lv_iload_n hx hb dX4_see_63 rfl (lv_at hl 2 rfl) ?_
            refine as_M (k := (2 * q) + 1) 5 hx hb hW hS rfl (show _ < 16 by omega) dX4_see_64 (fun H locs hW hS => ?_)
            obtain ⟨μ2, hμ2⟩ : ∃ z, z = up2 μ1 5 ((2 * q) + 1) (nI t) := ⟨_, rfl⟩
            rw [← hμ2] at hW
            refine lv_aload_n hx hb dX4_see_65 rfl (lv_at hl 0 rfl) ?_
            refine lv_dup hx hb dX4_see_66 rfl ?_
            refine rd_X4_81 hx hb hown hW dX4_see_67 ?_
            refine lv_eqi (y := nI q) (by rw [hμ2, up2_ne (by decide), hμ1, up2_ne (by decide)]; exact hg.2.2.1.1) ?_
            refine lv_iconst (v := 1) hx hb dX4_see_70 (by decide) ?_
            refine ln_add q 1 hx hb rfl rfl dX4_see_71 ?_
            refine wr_X4_81 hx hb hown hW hS dX4_see_72 (fun H locs hW hS => ?_)
            obtain ⟨μ3, hμ3⟩ : ∃ z, z = up2 μ2 (0) 10 (nI (q + 1)) := ⟨_, rfl⟩
            rw [← hμ3] at hW
            refine lv_aload_n hx hb dX4_see_75 rfl (lv_at hl 0 rfl) ?_
            refine rd_X4_81 hx hb hown hW dX4_see_76 ?_
            refine lv_eqi (y := nI (q + 1)) (by rw [hμ3, up2_eq]) ?_
            exact W.iret (v := nI (q + 1)) hx hb hr (fun t9 ht9 hW9 => ⟨⟨_, (μ3, hs), rfl, (Ds ((wG_k hk (by omega)).trans ((wG_k ht (by omega)).trans (if_pos (by omega)))) rfl (by subst hμ3; subst hμ2; subst hμ1; exact hg.see (by omega) hk (by omega))), (by have h8 := hW.1; rw [← ht9] at h8; exact h8)⟩, hS.F ht9⟩) hS.2.2 dX4_see_79
          · skip
            have q_33 := tN_eq q 8 c_33 rfl rfl (by omega) (by omega)
            refine lv_bipush (v := (-104)) hx hb dX4_see_36 (by decide) ?_
            exact W.iret (v := (-104)) hx hb hr (fun t9 ht9 hW9 => ⟨⟨_, (μ, hs), rfl, (Ds ((wG_k hk (by omega)).trans ((wG_k ht (by omega)).trans (if_neg (by omega)))) rfl (RS.rf hg)), (by have h8 := hW.1; rw [← ht9] at h8; exact h8)⟩, hS.F ht9⟩) hS.2.2 dX4_see_38
        · skip
          exact absurd c_21 (by decide)
set_option maxHeartbeats 4000000 in
set_option maxRecDepth 100000 in
theorem c_X4_forget (l : Launch) (G : Gam) (μ : St) (hs : Int64) (n : Nat) (S : Nat → Sk) (q : Nat) (V : Nat → Nat) (ch : Int32) (hg : RM μ n S q V ch) : Met l yX4_forget (w1 yX4_forget cX4_forget 2 (some .int)) ({ frames := 0, cells := 0, slots := 0, locals := 0 }) (PcM G μ hs [.ref (gm G 0)]) (QiM G (fun r u9 => r = nI q ∧ RS μ n S ch u9 0 V)) 0 0 (aM G) := by
  refine met_of [.ref (gm G 0)] [(0, .ref (gm G 0))] (by decide) (Nat.le_of_ble_eq_true rfl) rfl ?_
  intro p e s m below meth c hx hb hr hown hml hlocks hW ls hl
  have hG : GW s := hW.2.2.2
  have hS : va_S (aM G) s.heap s.heap [] := va_S.rf
  refine lv_aload_n hx hb dX4_forget_0 rfl (lv_at hl 0 rfl) ?_
  refine rd_X4_81 hx hb hown hW dX4_forget_1 ?_
  refine lv_eqi (y := nI q) hg.2.2.1.1 ?_
  refine lv_istore_n (lv' := [(1, .int (nI q)), (0, .ref (gm G 0))]) hx hb dX4_forget_4 rfl hl (by decide) rfl (fun ls hl => ?_)
  refine lv_aload_n hx hb dX4_forget_5 rfl (lv_at hl 1 rfl) ?_
  refine lv_iconst (v := 0) hx hb dX4_forget_6 (by decide) ?_
  refine wr_X4_81 hx hb hown hW hS dX4_forget_7 (fun H locs hW hS => ?_)
  obtain ⟨μ1, hμ1⟩ : ∃ z, z = up2 μ (0) 10 0 := ⟨_, rfl⟩
  rw [← hμ1] at hW
  refine lv_iload_n hx hb dX4_forget_10 rfl (lv_at hl 0 rfl) ?_
  exact W.iret (v := nI q) hx hb hr (fun t9 ht9 hW9 => ⟨⟨_, (μ1, hs), rfl, ⟨rfl, by subst hμ1; exact hg.forget⟩, (by have h8 := hW.1; rw [← ht9] at h8; exact h8)⟩, hS.F ht9⟩) hS.2.2 dX4_forget_11
set_option maxHeartbeats 4000000 in
set_option maxRecDepth 100000 in
theorem c_X4_late (l : Launch) (G : Gam) (μ : St) (hs : Int64) (n : Nat) (S : Nat → Sk) (q : Nat) (V : Nat → Nat) (ch : Int32) (hg : RM μ n S q V ch) (x y : Int32) : Met l yX4_late (w1 yX4_late cX4_late 4 (some .int)) ({ frames := 2, cells := 0, slots := 0, locals := 46 }) (PcM G μ hs [.ref (gm G 0), .int x, .int y]) (QiM G (fun r u9 => r = (dLate n S ch x y).1 ∧ RC μ q V u9 (dLate n S ch x y).2.1 (dLate n S ch x y).2.2.1 (dLate n S ch x y).2.2.2)) 0 0 (aM G) := by
  have hn6 := hg.1.2
  have hq8 := hg.2.2.1.2
  rcases hasB_c x (n := n) (by omega) with hx0 | ⟨k, hk, rfl⟩
  · skip
    refine met_of [.ref (gm G 0), .int x, .int y] [(0, .ref (gm G 0)), (1, .int x), (2, .int y)] (by decide) (Nat.le_of_ble_eq_true rfl) rfl ?_
    intro p e s m below meth c hx hb hr hown hml hlocks hW ls hl
    have hG : GW s := hW.2.2.2
    have hS : va_S (aM G) s.heap s.heap [] := va_S.rf
    refine lv_aload_n hx hb dX4_late_0 rfl (lv_at hl 0 rfl) ?_
    refine lv_iload_n hx hb dX4_late_1 rfl (lv_at hl 1 rfl) ?_
    refine cr_i (q := 676) [.int x] hx hb hml hown hG v_X4_isStick (by decide +kernel) (c_X4_isStick l G μ hs n S q V ch hg (x)) (preM hW _) rfl hl.1 (Nat.le_of_ble_eq_true rfl) dX4_late_2 ⟨rfl, rfl, Nat.le_of_ble_eq_true rfl, Nat.le_of_ble_eq_true rfl⟩ ⟨Nat.le_of_ble_eq_true rfl, Nat.le_of_ble_eq_true rfl⟩ ?_
    refine lv_eqi (y := 0) (by rw [hx0]; rfl) ?_
    refine lv_if_ne (tgt := 11) hx hb dX4_late_5 (by decide) (fun c_5 => ?_) (fun c_5 => ?_)
    · skip
      exact absurd (by decide) c_5
    · skip
      refine lv_bipush (v := (-101)) hx hb dX4_late_8 (by decide) ?_
      exact W.iret (v := (-101)) hx hb hr (fun t9 ht9 hW9 => ⟨⟨_, (μ, hs), rfl, (Dn (wG_f hx0) rfl (RC.rf hg)), (by have h8 := hW.1; rw [← ht9] at h8; exact h8)⟩, hS.F ht9⟩) hS.2.2 dX4_late_10
  · skip
    rcases hasB_c y (n := 10) (by omega) with hy0 | ⟨t, ht, rfl⟩
    · skip
      refine met_of [.ref (gm G 0), .int (nI k), .int y] [(0, .ref (gm G 0)), (1, .int (nI k)), (2, .int y)] (by decide) (Nat.le_of_ble_eq_true rfl) rfl ?_
      intro p e s m below meth c hx hb hr hown hml hlocks hW ls hl
      have hG : GW s := hW.2.2.2
      have hS : va_S (aM G) s.heap s.heap [] := va_S.rf
      refine lv_aload_n hx hb dX4_late_0 rfl (lv_at hl 0 rfl) ?_
      refine lv_iload_n hx hb dX4_late_1 rfl (lv_at hl 1 rfl) ?_
      refine cr_i (q := 676) [.int (nI k)] hx hb hml hown hG v_X4_isStick (by decide +kernel) (c_X4_isStick l G μ hs n S q V ch hg (nI k)) (preM hW _) rfl hl.1 (Nat.le_of_ble_eq_true rfl) dX4_late_2 ⟨rfl, rfl, Nat.le_of_ble_eq_true rfl, Nat.le_of_ble_eq_true rfl⟩ ⟨Nat.le_of_ble_eq_true rfl, Nat.le_of_ble_eq_true rfl⟩ ?_
      refine lv_eqi (y := 1) (by rw [hasB_k hk (by omega)]; rfl) ?_
      refine lv_if_ne (tgt := 11) hx hb dX4_late_5 (by decide) (fun c_5 => ?_) (fun c_5 => ?_)
      · skip
        refine lv_iload_n hx hb dX4_late_11 rfl (lv_at hl 2 rfl) ?_
        refine lv_i2l hx hb dX4_late_12 rfl ?_
        refine lv_lconst (v := 0) hx hb dX4_late_13 rfl ?_
        refine lv_ldc2 (v := 9) hx hb hown (hG.use (i := 739) (by decide +kernel) rfl _) dX4_late_14 ?_
        refine cs_i (q := 641) [.long ((y : Int32).toInt64), .long 0, .long 9] hx hb hml hown hG v_X4_in (by decide +kernel) (c_X4_in l ((y : Int32).toInt64) (0) (9)) (preT _) rfl hl.1 (Nat.le_of_ble_eq_true rfl) dX4_late_17 ⟨rfl, rfl, Nat.le_of_ble_eq_true rfl, Nat.le_of_ble_eq_true rfl⟩ ⟨Nat.le_of_ble_eq_true rfl, Nat.le_of_ble_eq_true rfl⟩ ?_
        refine lv_eqi (y := 0) (by rw [inI _ 9 9 rfl (by omega), hy0]; rfl) ?_
        refine lv_if_ne (tgt := 26) hx hb dX4_late_20 (by decide) (fun c_20 => ?_) (fun c_20 => ?_)
        · skip
          exact absurd (by decide) c_20
        · skip
          refine lv_bipush (v := (-102)) hx hb dX4_late_23 (by decide) ?_
          exact W.iret (v := (-102)) hx hb hr (fun t9 ht9 hW9 => ⟨⟨_, (μ, hs), rfl, (Dn ((wG_k hk (by omega)).trans (wG_f hy0)) rfl (RC.rf hg)), (by have h8 := hW.1; rw [← ht9] at h8; exact h8)⟩, hS.F ht9⟩) hS.2.2 dX4_late_25
      · skip
        exact absurd c_5 (by decide)
    · skip
      refine met_of [.ref (gm G 0), .int (nI k), .int (nI t)] [(0, .ref (gm G 0)), (1, .int (nI k)), (2, .int (nI t))] (by decide) (Nat.le_of_ble_eq_true rfl) rfl ?_
      intro p e s m below meth c hx hb hr hown hml hlocks hW ls hl
      have hG : GW s := hW.2.2.2
      have hS : va_S (aM G) s.heap s.heap [] := va_S.rf
      refine lv_aload_n hx hb dX4_late_0 rfl (lv_at hl 0 rfl) ?_
      refine lv_iload_n hx hb dX4_late_1 rfl (lv_at hl 1 rfl) ?_
      refine cr_i (q := 676) [.int (nI k)] hx hb hml hown hG v_X4_isStick (by decide +kernel) (c_X4_isStick l G μ hs n S q V ch hg (nI k)) (preM hW _) rfl hl.1 (Nat.le_of_ble_eq_true rfl) dX4_late_2 ⟨rfl, rfl, Nat.le_of_ble_eq_true rfl, Nat.le_of_ble_eq_true rfl⟩ ⟨Nat.le_of_ble_eq_true rfl, Nat.le_of_ble_eq_true rfl⟩ ?_
      refine lv_eqi (y := 1) (by rw [hasB_k hk (by omega)]; rfl) ?_
      refine lv_if_ne (tgt := 11) hx hb dX4_late_5 (by decide) (fun c_5 => ?_) (fun c_5 => ?_)
      · skip
        refine lv_iload_n hx hb dX4_late_11 rfl (lv_at hl 2 rfl) ?_
        refine lv_i2l hx hb dX4_late_12 rfl ?_
        refine lv_lconst (v := 0) hx hb dX4_late_13 rfl ?_
        refine lv_ldc2 (v := 9) hx hb hown (hG.use (i := 739) (by decide +kernel) rfl _) dX4_late_14 ?_
        refine cs_i (q := 641) [.long ((nI t : Int32).toInt64), .long 0, .long 9] hx hb hml hown hG v_X4_in (by decide +kernel) (c_X4_in l ((nI t : Int32).toInt64) (0) (9)) (preT _) rfl hl.1 (Nat.le_of_ble_eq_true rfl) dX4_late_17 ⟨rfl, rfl, Nat.le_of_ble_eq_true rfl, Nat.le_of_ble_eq_true rfl⟩ ⟨Nat.le_of_ble_eq_true rfl, Nat.le_of_ble_eq_true rfl⟩ ?_
        refine lv_eqi (y := 1) (by rw [inI _ 9 9 rfl (by omega), hasB_k ht (by omega)]; rfl) ?_
        refine lv_if_ne (tgt := 26) hx hb dX4_late_20 (by decide) (fun c_20 => ?_) (fun c_20 => ?_)
        · skip
          refine lv_aload_n hx hb dX4_late_26 rfl (lv_at hl 0 rfl) ?_
          refine rd_X4_16 hx hb hown hW dX4_late_27 ?_
          refine lv_bipush (v := 9) hx hb dX4_late_30 (by decide) ?_
          refine lv_iload_n hx hb dX4_late_32 rfl (lv_at hl 1 rfl) ?_
          refine ln_mul 9 k hx hb rfl rfl dX4_late_33 ?_
          refine lv_iconst (v := 2) hx hb dX4_late_34 (by decide) ?_
          refine ln_add (9 * k) 2 hx hb rfl rfl dX4_late_35 ?_
          refine al_M (k := (9 * k) + 2) 3 hx hb hW rfl (show _ < 54 by omega) dX4_late_36 ?_
          refine lv_eqi (y := nI (S k 2)) (hg.2.2.2.1 k (by omega)).2.2.2.2.2.1 ?_
          refine lv_istore_n (lv' := [(3, .int (nI (S k 2))), (0, .ref (gm G 0)), (1, .int (nI k)), (2, .int (nI t))]) hx hb dX4_late_37 rfl hl (by decide) rfl (fun ls hl => ?_)
          refine lv_aload_n hx hb dX4_late_38 rfl (lv_at hl 1 rfl) ?_
          refine rd_X4_16 hx hb hown hW dX4_late_39 ?_
          refine lv_bipush (v := 9) hx hb dX4_late_42 (by decide) ?_
          refine lv_iload_n hx hb dX4_late_44 rfl (lv_at hl 2 rfl) ?_
          refine ln_mul 9 k hx hb rfl rfl dX4_late_45 ?_
          refine lv_iconst (v := 2) hx hb dX4_late_46 (by decide) ?_
          refine ln_add (9 * k) 2 hx hb rfl rfl dX4_late_47 ?_
          refine lv_iload_n hx hb dX4_late_48 rfl (lv_at hl 3 rfl) ?_
          refine as_M (k := (9 * k) + 2) 3 hx hb hW hS rfl (show _ < 54 by omega) dX4_late_49 (fun H locs hW hS => ?_)
          obtain ⟨μ1, hμ1⟩ : ∃ z, z = up2 μ 3 ((9 * k) + 2) (nI t) := ⟨_, rfl⟩
          rw [← hμ1] at hW
          refine lv_aload_n hx hb dX4_late_50 rfl (lv_at hl 1 rfl) ?_
          refine lv_dup hx hb dX4_late_51 rfl ?_
          refine rd_X4_78 hx hb hown hW dX4_late_52 ?_
          refine lv_eqi (y := ch) (by rw [hμ1, up2_ne (by decide)]; exact hg.2.1) ?_
          refine lv_iconst (v := 1) hx hb dX4_late_55 (by decide) ?_
          refine lv_iadd hx hb dX4_late_56 ?_
          refine wr_X4_78 hx hb hown hW hS dX4_late_57 (fun H locs hW hS => ?_)
          obtain ⟨μ2, hμ2⟩ : ∃ z, z = up2 μ1 (0) 6 (ch + 1) := ⟨_, rfl⟩
          rw [← hμ2] at hW
          refine lv_iload_n hx hb dX4_late_60 rfl (lv_at hl 0 rfl) ?_
          exact W.iret (v := nI (S k 2)) hx hb hr (fun t9 ht9 hW9 => ⟨⟨_, (μ2, hs), rfl, (Dn ((wG_k hk (by omega)).trans (wG_k ht (by omega))) rfl (by subst hμ2; subst hμ1; exact hg.late hk (by omega))), (by have h8 := hW.1; rw [← ht9] at h8; exact h8)⟩, hS.F ht9⟩) hS.2.2 dX4_late_61
        · skip
          exact absurd c_20 (by decide)
      · skip
        exact absurd c_5 (by decide)
set_option maxHeartbeats 4000000 in
set_option maxRecDepth 100000 in
theorem c_X4_cut (l : Launch) (G : Gam) (μ : St) (hs : Int64) (n : Nat) (S : Nat → Sk) (q : Nat) (V : Nat → Nat) (ch : Int32) (hg : RM μ n S q V ch) (x y : Int32) : Met l yX4_cut (w1 yX4_cut cX4_cut 4 (some .int)) ({ frames := 2, cells := 0, slots := 0, locals := 46 }) (PcM G μ hs [.ref (gm G 0), .int x, .int y]) (QiM G (fun r u9 => r = (dCut n S ch x y).1 ∧ RC μ q V u9 (dCut n S ch x y).2.1 (dCut n S ch x y).2.2.1 (dCut n S ch x y).2.2.2)) 0 0 (aM G) := by
  have hn6 := hg.1.2
  have hq8 := hg.2.2.1.2
  rcases hasB_c x (n := n) (by omega) with hx0 | ⟨k, hk, rfl⟩
  · skip
    refine met_of [.ref (gm G 0), .int x, .int y] [(0, .ref (gm G 0)), (1, .int x), (2, .int y)] (by decide) (Nat.le_of_ble_eq_true rfl) rfl ?_
    intro p e s m below meth c hx hb hr hown hml hlocks hW ls hl
    have hG : GW s := hW.2.2.2
    have hS : va_S (aM G) s.heap s.heap [] := va_S.rf
    refine lv_aload_n hx hb dX4_cut_0 rfl (lv_at hl 0 rfl) ?_
    refine lv_iload_n hx hb dX4_cut_1 rfl (lv_at hl 1 rfl) ?_
    refine cr_i (q := 676) [.int x] hx hb hml hown hG v_X4_isStick (by decide +kernel) (c_X4_isStick l G μ hs n S q V ch hg (x)) (preM hW _) rfl hl.1 (Nat.le_of_ble_eq_true rfl) dX4_cut_2 ⟨rfl, rfl, Nat.le_of_ble_eq_true rfl, Nat.le_of_ble_eq_true rfl⟩ ⟨Nat.le_of_ble_eq_true rfl, Nat.le_of_ble_eq_true rfl⟩ ?_
    refine lv_eqi (y := 0) (by rw [hx0]; rfl) ?_
    refine lv_if_ne (tgt := 11) hx hb dX4_cut_5 (by decide) (fun c_5 => ?_) (fun c_5 => ?_)
    · skip
      exact absurd (by decide) c_5
    · skip
      refine lv_bipush (v := (-101)) hx hb dX4_cut_8 (by decide) ?_
      exact W.iret (v := (-101)) hx hb hr (fun t9 ht9 hW9 => ⟨⟨_, (μ, hs), rfl, (Dn (wG_f hx0) rfl (RC.rf hg)), (by have h8 := hW.1; rw [← ht9] at h8; exact h8)⟩, hS.F ht9⟩) hS.2.2 dX4_cut_10
  · skip
    have hv9 := (hg.2.2.2.1 k hk).1
    have hv3 := hv9.2.2.1
    have hc1 := (hg.2.2.2.1 k hk).2.1
    rcases hasB_c y (n := S k 3 + 1) (by omega) with hy0 | ⟨t, ht, rfl⟩
    · skip
      refine met_of [.ref (gm G 0), .int (nI k), .int y] [(0, .ref (gm G 0)), (1, .int (nI k)), (2, .int y)] (by decide) (Nat.le_of_ble_eq_true rfl) rfl ?_
      intro p e s m below meth c hx hb hr hown hml hlocks hW ls hl
      have hG : GW s := hW.2.2.2
      have hS : va_S (aM G) s.heap s.heap [] := va_S.rf
      refine lv_aload_n hx hb dX4_cut_0 rfl (lv_at hl 0 rfl) ?_
      refine lv_iload_n hx hb dX4_cut_1 rfl (lv_at hl 1 rfl) ?_
      refine cr_i (q := 676) [.int (nI k)] hx hb hml hown hG v_X4_isStick (by decide +kernel) (c_X4_isStick l G μ hs n S q V ch hg (nI k)) (preM hW _) rfl hl.1 (Nat.le_of_ble_eq_true rfl) dX4_cut_2 ⟨rfl, rfl, Nat.le_of_ble_eq_true rfl, Nat.le_of_ble_eq_true rfl⟩ ⟨Nat.le_of_ble_eq_true rfl, Nat.le_of_ble_eq_true rfl⟩ ?_
      refine lv_eqi (y := 1) (by rw [hasB_k hk (by omega)]; rfl) ?_
      refine lv_if_ne (tgt := 11) hx hb dX4_cut_5 (by decide) (fun c_5 => ?_) (fun c_5 => ?_)
      · skip
        refine lv_aload_n hx hb dX4_cut_11 rfl (lv_at hl 0 rfl) ?_
        refine rd_X4_16 hx hb hown hW dX4_cut_12 ?_
        refine lv_bipush (v := 9) hx hb dX4_cut_15 (by decide) ?_
        refine lv_iload_n hx hb dX4_cut_17 rfl (lv_at hl 1 rfl) ?_
        refine ln_mul 9 k hx hb rfl rfl dX4_cut_18 ?_
        refine lv_iconst (v := 3) hx hb dX4_cut_19 (by decide) ?_
        refine ln_add (9 * k) 3 hx hb rfl rfl dX4_cut_20 ?_
        refine al_M (k := (9 * k) + 3) 3 hx hb hW rfl (show _ < 54 by omega) dX4_cut_21 ?_
        refine lv_eqi (y := nI (S k 3)) (hg.2.2.2.1 k (by omega)).2.2.2.2.2.2.1 ?_
        refine lv_istore_n (lv' := [(3, .int (nI (S k 3))), (0, .ref (gm G 0)), (1, .int (nI k)), (2, .int y)]) hx hb dX4_cut_22 rfl hl (by decide) rfl (fun ls hl => ?_)
        refine lv_iload_n hx hb dX4_cut_23 rfl (lv_at hl 3 rfl) ?_
        refine lv_i2l hx hb dX4_cut_24 rfl ?_
        refine lv_lconst (v := 1) hx hb dX4_cut_25 rfl ?_
        refine lv_iload_n hx hb dX4_cut_26 rfl (lv_at hl 0 rfl) ?_
        refine lv_i2l hx hb dX4_cut_27 rfl ?_
        refine cs_i (q := 641) [.long ((y : Int32).toInt64), .long 1, .long ((nI (S k 3) : Int32).toInt64)] hx hb hml hown hG v_X4_in (by decide +kernel) (c_X4_in l ((y : Int32).toInt64) (1) ((nI (S k 3) : Int32).toInt64)) (preT _) rfl hl.1 (Nat.le_of_ble_eq_true rfl) dX4_cut_28 ⟨rfl, rfl, Nat.le_of_ble_eq_true rfl, Nat.le_of_ble_eq_true rfl⟩ ⟨Nat.le_of_ble_eq_true rfl, Nat.le_of_ble_eq_true rfl⟩ ?_
        refine lv_eqi (y := 0) (by rw [nI_l (show S k 3 < 2 ^ 31 by omega), show inL y.toInt64 1 _ = _ from inF 1 (S k 3) hc1 (by omega) hy0]; rfl) ?_
        refine lv_if_ne (tgt := 37) hx hb dX4_cut_31 (by decide) (fun c_31 => ?_) (fun c_31 => ?_)
        · skip
          exact absurd (by decide) c_31
        · skip
          refine lv_bipush (v := (-102)) hx hb dX4_cut_34 (by decide) ?_
          exact W.iret (v := (-102)) hx hb hr (fun t9 ht9 hW9 => ⟨⟨_, (μ, hs), rfl, (Dn ((wG_k hk (by omega)).trans (wG_f hy0)) rfl (RC.rf hg)), (by have h8 := hW.1; rw [← ht9] at h8; exact h8)⟩, hS.F ht9⟩) hS.2.2 dX4_cut_36
      · skip
        exact absurd c_5 (by decide)
    · skip
      rcases Nat.eq_zero_or_pos t with ht0 | ht0
      · skip
        refine met_of [.ref (gm G 0), .int (nI k), .int (nI t)] [(0, .ref (gm G 0)), (1, .int (nI k)), (2, .int (nI t))] (by decide) (Nat.le_of_ble_eq_true rfl) rfl ?_
        intro p e s m below meth c hx hb hr hown hml hlocks hW ls hl
        have hG : GW s := hW.2.2.2
        have hS : va_S (aM G) s.heap s.heap [] := va_S.rf
        refine lv_aload_n hx hb dX4_cut_0 rfl (lv_at hl 0 rfl) ?_
        refine lv_iload_n hx hb dX4_cut_1 rfl (lv_at hl 1 rfl) ?_
        refine cr_i (q := 676) [.int (nI k)] hx hb hml hown hG v_X4_isStick (by decide +kernel) (c_X4_isStick l G μ hs n S q V ch hg (nI k)) (preM hW _) rfl hl.1 (Nat.le_of_ble_eq_true rfl) dX4_cut_2 ⟨rfl, rfl, Nat.le_of_ble_eq_true rfl, Nat.le_of_ble_eq_true rfl⟩ ⟨Nat.le_of_ble_eq_true rfl, Nat.le_of_ble_eq_true rfl⟩ ?_
        refine lv_eqi (y := 1) (by rw [hasB_k hk (by omega)]; rfl) ?_
        refine lv_if_ne (tgt := 11) hx hb dX4_cut_5 (by decide) (fun c_5 => ?_) (fun c_5 => ?_)
        · skip
          refine lv_aload_n hx hb dX4_cut_11 rfl (lv_at hl 0 rfl) ?_
          refine rd_X4_16 hx hb hown hW dX4_cut_12 ?_
          refine lv_bipush (v := 9) hx hb dX4_cut_15 (by decide) ?_
          refine lv_iload_n hx hb dX4_cut_17 rfl (lv_at hl 1 rfl) ?_
          refine ln_mul 9 k hx hb rfl rfl dX4_cut_18 ?_
          refine lv_iconst (v := 3) hx hb dX4_cut_19 (by decide) ?_
          refine ln_add (9 * k) 3 hx hb rfl rfl dX4_cut_20 ?_
          refine al_M (k := (9 * k) + 3) 3 hx hb hW rfl (show _ < 54 by omega) dX4_cut_21 ?_
          refine lv_eqi (y := nI (S k 3)) (hg.2.2.2.1 k (by omega)).2.2.2.2.2.2.1 ?_
          refine lv_istore_n (lv' := [(3, .int (nI (S k 3))), (0, .ref (gm G 0)), (1, .int (nI k)), (2, .int (nI t))]) hx hb dX4_cut_22 rfl hl (by decide) rfl (fun ls hl => ?_)
          refine lv_iload_n hx hb dX4_cut_23 rfl (lv_at hl 3 rfl) ?_
          refine lv_i2l hx hb dX4_cut_24 rfl ?_
          refine lv_lconst (v := 1) hx hb dX4_cut_25 rfl ?_
          refine lv_iload_n hx hb dX4_cut_26 rfl (lv_at hl 0 rfl) ?_
          refine lv_i2l hx hb dX4_cut_27 rfl ?_
          refine cs_i (q := 641) [.long ((nI t : Int32).toInt64), .long 1, .long ((nI (S k 3) : Int32).toInt64)] hx hb hml hown hG v_X4_in (by decide +kernel) (c_X4_in l ((nI t : Int32).toInt64) (1) ((nI (S k 3) : Int32).toInt64)) (preT _) rfl hl.1 (Nat.le_of_ble_eq_true rfl) dX4_cut_28 ⟨rfl, rfl, Nat.le_of_ble_eq_true rfl, Nat.le_of_ble_eq_true rfl⟩ ⟨Nat.le_of_ble_eq_true rfl, Nat.le_of_ble_eq_true rfl⟩ ?_
          refine lv_eqi (y := 0) (by rw [nI_l (show S k 3 < 2 ^ 31 by omega), show inL (nI t).toInt64 1 _ = _ from @inL_n t 1 (S k 3) (by omega) (by omega) (by omega), decide_eq_false (by omega)]; rfl) ?_
          refine lv_if_ne (tgt := 37) hx hb dX4_cut_31 (by decide) (fun c_31 => ?_) (fun c_31 => ?_)
          · skip
            exact absurd (by decide) c_31
          · skip
            refine lv_bipush (v := (-102)) hx hb dX4_cut_34 (by decide) ?_
            exact W.iret (v := (-102)) hx hb hr (fun t9 ht9 hW9 => ⟨⟨_, (μ, hs), rfl, (Dn ((wG_k hk (by omega)).trans ((wG_k ht (by omega)).trans (if_pos ht0))) rfl (RC.rf hg)), (by have h8 := hW.1; rw [← ht9] at h8; exact h8)⟩, hS.F ht9⟩) hS.2.2 dX4_cut_36
        · skip
          exact absurd c_5 (by decide)
      · skip
        refine met_of [.ref (gm G 0), .int (nI k), .int (nI t)] [(0, .ref (gm G 0)), (1, .int (nI k)), (2, .int (nI t))] (by decide) (Nat.le_of_ble_eq_true rfl) rfl ?_
        intro p e s m below meth c hx hb hr hown hml hlocks hW ls hl
        have hG : GW s := hW.2.2.2
        have hS : va_S (aM G) s.heap s.heap [] := va_S.rf
        refine lv_aload_n hx hb dX4_cut_0 rfl (lv_at hl 0 rfl) ?_
        refine lv_iload_n hx hb dX4_cut_1 rfl (lv_at hl 1 rfl) ?_
        refine cr_i (q := 676) [.int (nI k)] hx hb hml hown hG v_X4_isStick (by decide +kernel) (c_X4_isStick l G μ hs n S q V ch hg (nI k)) (preM hW _) rfl hl.1 (Nat.le_of_ble_eq_true rfl) dX4_cut_2 ⟨rfl, rfl, Nat.le_of_ble_eq_true rfl, Nat.le_of_ble_eq_true rfl⟩ ⟨Nat.le_of_ble_eq_true rfl, Nat.le_of_ble_eq_true rfl⟩ ?_
        refine lv_eqi (y := 1) (by rw [hasB_k hk (by omega)]; rfl) ?_
        refine lv_if_ne (tgt := 11) hx hb dX4_cut_5 (by decide) (fun c_5 => ?_) (fun c_5 => ?_)
        · skip
          refine lv_aload_n hx hb dX4_cut_11 rfl (lv_at hl 0 rfl) ?_
          refine rd_X4_16 hx hb hown hW dX4_cut_12 ?_
          refine lv_bipush (v := 9) hx hb dX4_cut_15 (by decide) ?_
          refine lv_iload_n hx hb dX4_cut_17 rfl (lv_at hl 1 rfl) ?_
          refine ln_mul 9 k hx hb rfl rfl dX4_cut_18 ?_
          refine lv_iconst (v := 3) hx hb dX4_cut_19 (by decide) ?_
          refine ln_add (9 * k) 3 hx hb rfl rfl dX4_cut_20 ?_
          refine al_M (k := (9 * k) + 3) 3 hx hb hW rfl (show _ < 54 by omega) dX4_cut_21 ?_
          refine lv_eqi (y := nI (S k 3)) (hg.2.2.2.1 k (by omega)).2.2.2.2.2.2.1 ?_
          refine lv_istore_n (lv' := [(3, .int (nI (S k 3))), (0, .ref (gm G 0)), (1, .int (nI k)), (2, .int (nI t))]) hx hb dX4_cut_22 rfl hl (by decide) rfl (fun ls hl => ?_)
          refine lv_iload_n hx hb dX4_cut_23 rfl (lv_at hl 3 rfl) ?_
          refine lv_i2l hx hb dX4_cut_24 rfl ?_
          refine lv_lconst (v := 1) hx hb dX4_cut_25 rfl ?_
          refine lv_iload_n hx hb dX4_cut_26 rfl (lv_at hl 0 rfl) ?_
          refine lv_i2l hx hb dX4_cut_27 rfl ?_
          refine cs_i (q := 641) [.long ((nI t : Int32).toInt64), .long 1, .long ((nI (S k 3) : Int32).toInt64)] hx hb hml hown hG v_X4_in (by decide +kernel) (c_X4_in l ((nI t : Int32).toInt64) (1) ((nI (S k 3) : Int32).toInt64)) (preT _) rfl hl.1 (Nat.le_of_ble_eq_true rfl) dX4_cut_28 ⟨rfl, rfl, Nat.le_of_ble_eq_true rfl, Nat.le_of_ble_eq_true rfl⟩ ⟨Nat.le_of_ble_eq_true rfl, Nat.le_of_ble_eq_true rfl⟩ ?_
          refine lv_eqi (y := 1) (by rw [nI_l (show S k 3 < 2 ^ 31 by omega), show inL (nI t).toInt64 1 _ = _ from @inL_n t 1 (S k 3) (by omega) (by omega) (by omega), decide_eq_true (by omega)]; rfl) ?_
          refine lv_if_ne (tgt := 37) hx hb dX4_cut_31 (by decide) (fun c_31 => ?_) (fun c_31 => ?_)
          · skip
            refine lv_aload_n hx hb dX4_cut_37 rfl (lv_at hl 1 rfl) ?_
            refine rd_X4_16 hx hb hown hW dX4_cut_38 ?_
            refine lv_bipush (v := 9) hx hb dX4_cut_41 (by decide) ?_
            refine lv_iload_n hx hb dX4_cut_43 rfl (lv_at hl 2 rfl) ?_
            refine ln_mul 9 k hx hb rfl rfl dX4_cut_44 ?_
            refine lv_iconst (v := 3) hx hb dX4_cut_45 (by decide) ?_
            refine ln_add (9 * k) 3 hx hb rfl rfl dX4_cut_46 ?_
            refine lv_iload_n hx hb dX4_cut_47 rfl (lv_at hl 3 rfl) ?_
            refine as_M (k := (9 * k) + 3) 3 hx hb hW hS rfl (show _ < 54 by omega) dX4_cut_48 (fun H locs hW hS => ?_)
            obtain ⟨μ1, hμ1⟩ : ∃ z, z = up2 μ 3 ((9 * k) + 3) (nI t) := ⟨_, rfl⟩
            rw [← hμ1] at hW
            refine lv_aload_n hx hb dX4_cut_49 rfl (lv_at hl 1 rfl) ?_
            refine lv_dup hx hb dX4_cut_50 rfl ?_
            refine rd_X4_78 hx hb hown hW dX4_cut_51 ?_
            refine lv_eqi (y := ch) (by rw [hμ1, up2_ne (by decide)]; exact hg.2.1) ?_
            refine lv_iconst (v := 1) hx hb dX4_cut_54 (by decide) ?_
            refine lv_iadd hx hb dX4_cut_55 ?_
            refine wr_X4_78 hx hb hown hW hS dX4_cut_56 (fun H locs hW hS => ?_)
            obtain ⟨μ2, hμ2⟩ : ∃ z, z = up2 μ1 (0) 6 (ch + 1) := ⟨_, rfl⟩
            rw [← hμ2] at hW
            refine lv_iload_n hx hb dX4_cut_59 rfl (lv_at hl 0 rfl) ?_
            exact W.iret (v := nI (S k 3)) hx hb hr (fun t9 ht9 hW9 => ⟨⟨_, (μ2, hs), rfl, (Dn ((wG_k hk (by omega)).trans ((wG_k ht (by omega)).trans (if_neg (by omega)))) rfl (by subst hμ2; subst hμ1; exact hg.cut hk (by omega) (by omega))), (by have h8 := hW.1; rw [← ht9] at h8; exact h8)⟩, hS.F ht9⟩) hS.2.2 dX4_cut_60
          · skip
            exact absurd c_31 (by decide)
        · skip
          exact absurd c_5 (by decide)
theorem inF0 {w : Int32} (C : Nat) (hl : 1 ≤ C) (hh : C < 1000000) (h : hasB w C = false) : inL w.toInt64 (lN 1) (lN (C - 1)) = false := by
  unfold inL
  apply decide_eq_false
  rintro ⟨a, b⟩
  rw [l_lt, i64, lN_toInt (by omega)] at a b
  rcases hB_ff h with q | q
  · rw [i_lt] at q
    have q : w.toInt < 0 := q
    omega
  · rw [i_le, nI_toInt (by omega)] at q; omega
set_option maxHeartbeats 4000000 in
set_option maxRecDepth 100000 in
theorem c_X4_saw (l : Launch) (G : Gam) (μ : St) (hs : Int64) (n : Nat) (S : Nat → Sk) (q : Nat) (V : Nat → Nat) (ch : Int32) (hg : RM μ n S q V ch) (x y : Int32) : Met l yX4_saw (w1 yX4_saw cX4_saw 7 (some .int)) ({ frames := 2, cells := 0, slots := 0, locals := 48 }) (PcM G μ hs [.ref (gm G 0), .int x, .int y]) (QiM G (fun r u9 => r = (dSaw n S ch x y).1 ∧ RC μ q V u9 (dSaw n S ch x y).2.1 (dSaw n S ch x y).2.2.1 (dSaw n S ch x y).2.2.2)) 0 0 (aM G) := by
  have hn6 := hg.1.2
  have hq8 := hg.2.2.1.2
  rcases hasB_c x (n := n) (by omega) with hx0 | ⟨k, hk, rfl⟩
  · skip
    refine met_of [.ref (gm G 0), .int x, .int y] [(0, .ref (gm G 0)), (1, .int x), (2, .int y)] (by decide) (Nat.le_of_ble_eq_true rfl) rfl ?_
    intro p e s m below meth c hx hb hr hown hml hlocks hW ls hl
    have hG : GW s := hW.2.2.2
    have hS : va_S (aM G) s.heap s.heap [] := va_S.rf
    refine lv_aload_n hx hb dX4_saw_0 rfl (lv_at hl 0 rfl) ?_
    refine lv_iload_n hx hb dX4_saw_1 rfl (lv_at hl 1 rfl) ?_
    refine cr_i (q := 676) [.int x] hx hb hml hown hG v_X4_isStick (by decide +kernel) (c_X4_isStick l G μ hs n S q V ch hg (x)) (preM hW _) rfl hl.1 (Nat.le_of_ble_eq_true rfl) dX4_saw_2 ⟨rfl, rfl, Nat.le_of_ble_eq_true rfl, Nat.le_of_ble_eq_true rfl⟩ ⟨Nat.le_of_ble_eq_true rfl, Nat.le_of_ble_eq_true rfl⟩ ?_
    refine lv_eqi (y := 0) (by rw [hx0]; rfl) ?_
    refine lv_if_ne (tgt := 11) hx hb dX4_saw_5 (by decide) (fun c_5 => ?_) (fun c_5 => ?_)
    · skip
      exact absurd (by decide) c_5
    · skip
      refine lv_bipush (v := (-101)) hx hb dX4_saw_8 (by decide) ?_
      exact W.iret (v := (-101)) hx hb hr (fun t9 ht9 hW9 => ⟨⟨_, (μ, hs), rfl, (Dn (wG_f hx0) rfl (RC.rf hg)), (by have h8 := hW.1; rw [← ht9] at h8; exact h8)⟩, hS.F ht9⟩) hS.2.2 dX4_saw_10
  · skip
    have hv9 := (hg.2.2.2.1 k hk).1
    have hv3 := hv9.2.2.1
    have hc1 := (hg.2.2.2.1 k hk).2.1
    rcases hasB_c y (n := S k 3) (by omega) with hy0 | ⟨t, ht, rfl⟩
    · skip
      refine met_of [.ref (gm G 0), .int (nI k), .int y] [(0, .ref (gm G 0)), (1, .int (nI k)), (2, .int y)] (by decide) (Nat.le_of_ble_eq_true rfl) rfl ?_
      intro p e s m below meth c hx hb hr hown hml hlocks hW ls hl
      have hG : GW s := hW.2.2.2
      have hS : va_S (aM G) s.heap s.heap [] := va_S.rf
      refine lv_aload_n hx hb dX4_saw_0 rfl (lv_at hl 0 rfl) ?_
      refine lv_iload_n hx hb dX4_saw_1 rfl (lv_at hl 1 rfl) ?_
      refine cr_i (q := 676) [.int (nI k)] hx hb hml hown hG v_X4_isStick (by decide +kernel) (c_X4_isStick l G μ hs n S q V ch hg (nI k)) (preM hW _) rfl hl.1 (Nat.le_of_ble_eq_true rfl) dX4_saw_2 ⟨rfl, rfl, Nat.le_of_ble_eq_true rfl, Nat.le_of_ble_eq_true rfl⟩ ⟨Nat.le_of_ble_eq_true rfl, Nat.le_of_ble_eq_true rfl⟩ ?_
      refine lv_eqi (y := 1) (by rw [hasB_k hk (by omega)]; rfl) ?_
      refine lv_if_ne (tgt := 11) hx hb dX4_saw_5 (by decide) (fun c_5 => ?_) (fun c_5 => ?_)
      · skip
        refine lv_aload_n hx hb dX4_saw_11 rfl (lv_at hl 0 rfl) ?_
        refine rd_X4_16 hx hb hown hW dX4_saw_12 ?_
        refine lv_bipush (v := 9) hx hb dX4_saw_15 (by decide) ?_
        refine lv_iload_n hx hb dX4_saw_17 rfl (lv_at hl 1 rfl) ?_
        refine ln_mul 9 k hx hb rfl rfl dX4_saw_18 ?_
        refine lv_iconst (v := 3) hx hb dX4_saw_19 (by decide) ?_
        refine ln_add (9 * k) 3 hx hb rfl rfl dX4_saw_20 ?_
        refine al_M (k := (9 * k) + 3) 3 hx hb hW rfl (show _ < 54 by omega) dX4_saw_21 ?_
        refine lv_eqi (y := nI (S k 3)) (hg.2.2.2.1 k (by omega)).2.2.2.2.2.2.1 ?_
        refine lv_istore_n (lv' := [(3, .int (nI (S k 3))), (0, .ref (gm G 0)), (1, .int (nI k)), (2, .int y)]) hx hb dX4_saw_22 rfl hl (by decide) rfl (fun ls hl => ?_)
        refine lv_iload_n hx hb dX4_saw_23 rfl (lv_at hl 3 rfl) ?_
        refine lv_i2l hx hb dX4_saw_24 rfl ?_
        refine lv_lconst (v := 1) hx hb dX4_saw_25 rfl ?_
        refine lv_iload_n hx hb dX4_saw_26 rfl (lv_at hl 0 rfl) ?_
        refine lv_iconst (v := 1) hx hb dX4_saw_27 (by decide) ?_
        refine ln_sub (S k 3) 1 hx hb rfl rfl (by omega) dX4_saw_28 ?_
        refine lv_i2l hx hb dX4_saw_29 rfl ?_
        refine cs_i (q := 641) [.long ((y : Int32).toInt64), .long 1, .long ((nI ((S k 3) - 1) : Int32).toInt64)] hx hb hml hown hG v_X4_in (by decide +kernel) (c_X4_in l ((y : Int32).toInt64) (1) ((nI ((S k 3) - 1) : Int32).toInt64)) (preT _) rfl hl.1 (Nat.le_of_ble_eq_true rfl) dX4_saw_30 ⟨rfl, rfl, Nat.le_of_ble_eq_true rfl, Nat.le_of_ble_eq_true rfl⟩ ⟨Nat.le_of_ble_eq_true rfl, Nat.le_of_ble_eq_true rfl⟩ ?_
        refine lv_eqi (y := 0) (by rw [nI_l (show S k 3 - 1 < 2 ^ 31 by omega), show inL y.toInt64 1 _ = _ from inF0 (S k 3) hc1 (by omega) hy0]; rfl) ?_
        refine lv_if_ne (tgt := 39) hx hb dX4_saw_33 (by decide) (fun c_33 => ?_) (fun c_33 => ?_)
        · skip
          exact absurd (by decide) c_33
        · skip
          refine lv_bipush (v := (-102)) hx hb dX4_saw_36 (by decide) ?_
          exact W.iret (v := (-102)) hx hb hr (fun t9 ht9 hW9 => ⟨⟨_, (μ, hs), rfl, (Dn ((wG_k hk (by omega)).trans (wG_f hy0)) rfl (RC.rf hg)), (by have h8 := hW.1; rw [← ht9] at h8; exact h8)⟩, hS.F ht9⟩) hS.2.2 dX4_saw_38
      · skip
        exact absurd c_5 (by decide)
    · skip
      rcases Nat.eq_zero_or_pos t with ht0 | ht0
      · skip
        refine met_of [.ref (gm G 0), .int (nI k), .int (nI t)] [(0, .ref (gm G 0)), (1, .int (nI k)), (2, .int (nI t))] (by decide) (Nat.le_of_ble_eq_true rfl) rfl ?_
        intro p e s m below meth c hx hb hr hown hml hlocks hW ls hl
        have hG : GW s := hW.2.2.2
        have hS : va_S (aM G) s.heap s.heap [] := va_S.rf
        refine lv_aload_n hx hb dX4_saw_0 rfl (lv_at hl 0 rfl) ?_
        refine lv_iload_n hx hb dX4_saw_1 rfl (lv_at hl 1 rfl) ?_
        refine cr_i (q := 676) [.int (nI k)] hx hb hml hown hG v_X4_isStick (by decide +kernel) (c_X4_isStick l G μ hs n S q V ch hg (nI k)) (preM hW _) rfl hl.1 (Nat.le_of_ble_eq_true rfl) dX4_saw_2 ⟨rfl, rfl, Nat.le_of_ble_eq_true rfl, Nat.le_of_ble_eq_true rfl⟩ ⟨Nat.le_of_ble_eq_true rfl, Nat.le_of_ble_eq_true rfl⟩ ?_
        refine lv_eqi (y := 1) (by rw [hasB_k hk (by omega)]; rfl) ?_
        refine lv_if_ne (tgt := 11) hx hb dX4_saw_5 (by decide) (fun c_5 => ?_) (fun c_5 => ?_)
        · skip
          refine lv_aload_n hx hb dX4_saw_11 rfl (lv_at hl 0 rfl) ?_
          refine rd_X4_16 hx hb hown hW dX4_saw_12 ?_
          refine lv_bipush (v := 9) hx hb dX4_saw_15 (by decide) ?_
          refine lv_iload_n hx hb dX4_saw_17 rfl (lv_at hl 1 rfl) ?_
          refine ln_mul 9 k hx hb rfl rfl dX4_saw_18 ?_
          refine lv_iconst (v := 3) hx hb dX4_saw_19 (by decide) ?_
          refine ln_add (9 * k) 3 hx hb rfl rfl dX4_saw_20 ?_
          refine al_M (k := (9 * k) + 3) 3 hx hb hW rfl (show _ < 54 by omega) dX4_saw_21 ?_
          refine lv_eqi (y := nI (S k 3)) (hg.2.2.2.1 k (by omega)).2.2.2.2.2.2.1 ?_
          refine lv_istore_n (lv' := [(3, .int (nI (S k 3))), (0, .ref (gm G 0)), (1, .int (nI k)), (2, .int (nI t))]) hx hb dX4_saw_22 rfl hl (by decide) rfl (fun ls hl => ?_)
          refine lv_iload_n hx hb dX4_saw_23 rfl (lv_at hl 3 rfl) ?_
          refine lv_i2l hx hb dX4_saw_24 rfl ?_
          refine lv_lconst (v := 1) hx hb dX4_saw_25 rfl ?_
          refine lv_iload_n hx hb dX4_saw_26 rfl (lv_at hl 0 rfl) ?_
          refine lv_iconst (v := 1) hx hb dX4_saw_27 (by decide) ?_
          refine ln_sub (S k 3) 1 hx hb rfl rfl (by omega) dX4_saw_28 ?_
          refine lv_i2l hx hb dX4_saw_29 rfl ?_
          refine cs_i (q := 641) [.long ((nI t : Int32).toInt64), .long 1, .long ((nI ((S k 3) - 1) : Int32).toInt64)] hx hb hml hown hG v_X4_in (by decide +kernel) (c_X4_in l ((nI t : Int32).toInt64) (1) ((nI ((S k 3) - 1) : Int32).toInt64)) (preT _) rfl hl.1 (Nat.le_of_ble_eq_true rfl) dX4_saw_30 ⟨rfl, rfl, Nat.le_of_ble_eq_true rfl, Nat.le_of_ble_eq_true rfl⟩ ⟨Nat.le_of_ble_eq_true rfl, Nat.le_of_ble_eq_true rfl⟩ ?_
          refine lv_eqi (y := 0) (by rw [nI_l (show S k 3 - 1 < 2 ^ 31 by omega), show inL (nI t).toInt64 1 _ = _ from @inL_n t 1 (S k 3 - 1) (by omega) (by omega) (by omega), decide_eq_false (by omega)]; rfl) ?_
          refine lv_if_ne (tgt := 39) hx hb dX4_saw_33 (by decide) (fun c_33 => ?_) (fun c_33 => ?_)
          · skip
            exact absurd (by decide) c_33
          · skip
            refine lv_bipush (v := (-102)) hx hb dX4_saw_36 (by decide) ?_
            exact W.iret (v := (-102)) hx hb hr (fun t9 ht9 hW9 => ⟨⟨_, (μ, hs), rfl, (Dn ((wG_k hk (by omega)).trans ((wG_k ht (by omega)).trans (if_pos ht0))) rfl (RC.rf hg)), (by have h8 := hW.1; rw [← ht9] at h8; exact h8)⟩, hS.F ht9⟩) hS.2.2 dX4_saw_38
        · skip
          exact absurd c_5 (by decide)
      · skip
        refine met_of [.ref (gm G 0), .int (nI k), .int (nI t)] [(0, .ref (gm G 0)), (1, .int (nI k)), (2, .int (nI t))] (by decide) (Nat.le_of_ble_eq_true rfl) rfl ?_
        intro p e s m below meth c hx hb hr hown hml hlocks hW ls hl
        have hG : GW s := hW.2.2.2
        have hS : va_S (aM G) s.heap s.heap [] := va_S.rf
        refine lv_aload_n hx hb dX4_saw_0 rfl (lv_at hl 0 rfl) ?_
        refine lv_iload_n hx hb dX4_saw_1 rfl (lv_at hl 1 rfl) ?_
        refine cr_i (q := 676) [.int (nI k)] hx hb hml hown hG v_X4_isStick (by decide +kernel) (c_X4_isStick l G μ hs n S q V ch hg (nI k)) (preM hW _) rfl hl.1 (Nat.le_of_ble_eq_true rfl) dX4_saw_2 ⟨rfl, rfl, Nat.le_of_ble_eq_true rfl, Nat.le_of_ble_eq_true rfl⟩ ⟨Nat.le_of_ble_eq_true rfl, Nat.le_of_ble_eq_true rfl⟩ ?_
        refine lv_eqi (y := 1) (by rw [hasB_k hk (by omega)]; rfl) ?_
        refine lv_if_ne (tgt := 11) hx hb dX4_saw_5 (by decide) (fun c_5 => ?_) (fun c_5 => ?_)
        · skip
          refine lv_aload_n hx hb dX4_saw_11 rfl (lv_at hl 0 rfl) ?_
          refine rd_X4_16 hx hb hown hW dX4_saw_12 ?_
          refine lv_bipush (v := 9) hx hb dX4_saw_15 (by decide) ?_
          refine lv_iload_n hx hb dX4_saw_17 rfl (lv_at hl 1 rfl) ?_
          refine ln_mul 9 k hx hb rfl rfl dX4_saw_18 ?_
          refine lv_iconst (v := 3) hx hb dX4_saw_19 (by decide) ?_
          refine ln_add (9 * k) 3 hx hb rfl rfl dX4_saw_20 ?_
          refine al_M (k := (9 * k) + 3) 3 hx hb hW rfl (show _ < 54 by omega) dX4_saw_21 ?_
          refine lv_eqi (y := nI (S k 3)) (hg.2.2.2.1 k (by omega)).2.2.2.2.2.2.1 ?_
          refine lv_istore_n (lv' := [(3, .int (nI (S k 3))), (0, .ref (gm G 0)), (1, .int (nI k)), (2, .int (nI t))]) hx hb dX4_saw_22 rfl hl (by decide) rfl (fun ls hl => ?_)
          refine lv_iload_n hx hb dX4_saw_23 rfl (lv_at hl 3 rfl) ?_
          refine lv_i2l hx hb dX4_saw_24 rfl ?_
          refine lv_lconst (v := 1) hx hb dX4_saw_25 rfl ?_
          refine lv_iload_n hx hb dX4_saw_26 rfl (lv_at hl 0 rfl) ?_
          refine lv_iconst (v := 1) hx hb dX4_saw_27 (by decide) ?_
          refine ln_sub (S k 3) 1 hx hb rfl rfl (by omega) dX4_saw_28 ?_
          refine lv_i2l hx hb dX4_saw_29 rfl ?_
          refine cs_i (q := 641) [.long ((nI t : Int32).toInt64), .long 1, .long ((nI ((S k 3) - 1) : Int32).toInt64)] hx hb hml hown hG v_X4_in (by decide +kernel) (c_X4_in l ((nI t : Int32).toInt64) (1) ((nI ((S k 3) - 1) : Int32).toInt64)) (preT _) rfl hl.1 (Nat.le_of_ble_eq_true rfl) dX4_saw_30 ⟨rfl, rfl, Nat.le_of_ble_eq_true rfl, Nat.le_of_ble_eq_true rfl⟩ ⟨Nat.le_of_ble_eq_true rfl, Nat.le_of_ble_eq_true rfl⟩ ?_
          refine lv_eqi (y := 1) (by rw [nI_l (show S k 3 - 1 < 2 ^ 31 by omega), show inL (nI t).toInt64 1 _ = _ from @inL_n t 1 (S k 3 - 1) (by omega) (by omega) (by omega), decide_eq_true (by omega)]; rfl) ?_
          refine lv_if_ne (tgt := 39) hx hb dX4_saw_33 (by decide) (fun c_33 => ?_) (fun c_33 => ?_)
          · skip
            refine lv_aload_n hx hb dX4_saw_39 rfl (lv_at hl 1 rfl) ?_
            refine rd_X4_75 hx hb hown hW dX4_saw_40 ?_
            refine lv_eqi (y := nI n) hg.1.1 ?_
            refine lv_bipush (v := 6) hx hb dX4_saw_43 (by decide) ?_
            refine lv_icmp_ne (tgt := 51) hx hb dX4_saw_45 (by decide) (fun c_45 => ?_) (fun c_45 => ?_)
            · skip
              have q_45 := tN_ne n 6 c_45 rfl rfl (by omega) (by omega)
              refine lv_aload_n hx hb dX4_saw_51 rfl (lv_at hl 1 rfl) ?_
              refine rd_X4_16 hx hb hown hW dX4_saw_52 ?_
              refine lv_bipush (v := 9) hx hb dX4_saw_55 (by decide) ?_
              refine lv_iload_n hx hb dX4_saw_57 rfl (lv_at hl 2 rfl) ?_
              refine ln_mul 9 k hx hb rfl rfl dX4_saw_58 ?_
              refine lv_iconst (v := 1) hx hb dX4_saw_59 (by decide) ?_
              refine ln_add (9 * k) 1 hx hb rfl rfl dX4_saw_60 ?_
              refine al_M (k := (9 * k) + 1) 3 hx hb hW rfl (show _ < 54 by omega) dX4_saw_61 ?_
              refine lv_eqi (y := nI (S k 1)) (hg.2.2.2.1 k (by omega)).2.2.2.2.1 ?_
              refine lv_istore (lv' := [(4, .int (nI (S k 1))), (3, .int (nI (S k 3))), (0, .ref (gm G 0)), (1, .int (nI k)), (2, .int (nI t))]) hx hb dX4_saw_62 hl (by decide) rfl (fun ls hl => ?_)
              refine lv_iconst (v := 0) hx hb dX4_saw_64 (by decide) ?_
              refine lv_istore (lv' := [(5, .int 0), (4, .int (nI (S k 1))), (3, .int (nI (S k 3))), (0, .ref (gm G 0)), (1, .int (nI k)), (2, .int (nI t))]) hx hb dX4_saw_65 hl (by decide) rfl (fun ls hl => ?_)
              have loop_67 : ∀ (N9 : Nat) (i : Nat) (po : Int32) (io : Int32), t - i < N9 → po = nI (plainN (S k) i) → io = nI i → i ≤ t → ∀ ls : Array Slot, lv_has ls 7 [(4, .int po), (5, .int io), (3, .int (nI (S k 3))), (0, .ref (gm G 0)), (1, .int (nI k)), (2, .int (nI t))] → W p l e (headSpec (w1 yX4_saw cX4_saw 7 (some .int)) ({ frames := 2, cells := 0, slots := 0, locals := 48 })).room s m [.ref (gm G 0), .int (nI k), .int (nI t)].toArray below meth c s.heap [] 0 0 (MQ below (QiM G (fun r u9 => r = (dSaw n S ch (nI k) (nI t)).1 ∧ RC μ q V u9 (dSaw n S ch (nI k) (nI t)).2.1 (dSaw n S ch (nI k) (nI t)).2.2.1 (dSaw n S ch (nI k) (nI t)).2.2.2)) [.ref (gm G 0), .int (nI k), .int (nI t)].toArray s 0 0 (aM G)) (F0 m 67 ls []) := by
                intro N9
                induction N9 with
                | zero => intro i po io hN; exact absurd hN (Nat.not_lt_zero _)
                | succ N9 ih =>
                  intro i po io hN e_po e_io hi0_67 ls hl
                  subst e_po
                  subst e_io
                  have ih_67 := ih
                  refine lv_iload hx hb dX4_saw_67 (lv_at hl 1 rfl) ?_
                  refine lv_iload_n hx hb dX4_saw_69 rfl (lv_at hl 5 rfl) ?_
                  refine lv_icmp_ge (tgt := 100) hx hb dX4_saw_70 (by decide) (fun c_70 => ?_) (fun c_70 => ?_)
                  · skip
                    have q_70 := tN_le t i c_70 rfl rfl (by omega) (by omega)
                    refine lv_bipush (v := 9) hx hb dX4_saw_100 (by decide) ?_
                    refine lv_aload_n hx hb dX4_saw_102 rfl (lv_at hl 3 rfl) ?_
                    refine rd_X4_75 hx hb hown hW dX4_saw_103 ?_
                    refine lv_eqi (y := nI n) hg.1.1 ?_
                    refine ln_mul 9 n hx hb rfl rfl dX4_saw_106 ?_
                    refine lv_istore (lv' := [(5, .int (nI (9 * n))), (4, .int (nI (plainN (S k) i))), (3, .int (nI (S k 3))), (0, .ref (gm G 0)), (1, .int (nI k)), (2, .int (nI t))]) hx hb dX4_saw_107 hl (by decide) rfl (fun ls hl => ?_)
                    refine lv_aload_n hx hb dX4_saw_109 rfl (lv_at hl 3 rfl) ?_
                    refine rd_X4_16 hx hb hown hW dX4_saw_110 ?_
                    refine lv_iload hx hb dX4_saw_113 (lv_at hl 0 rfl) ?_
                    refine lv_aload_n hx hb dX4_saw_115 rfl (lv_at hl 3 rfl) ?_
                    refine rd_X4_16 hx hb hown hW dX4_saw_116 ?_
                    refine lv_bipush (v := 9) hx hb dX4_saw_119 (by decide) ?_
                    refine lv_iload_n hx hb dX4_saw_121 rfl (lv_at hl 4 rfl) ?_
                    refine ln_mul 9 k hx hb rfl rfl dX4_saw_122 ?_
                    refine al_M (k := 9 * k) 3 hx hb hW rfl (show _ < 54 by omega) dX4_saw_123 ?_
                    refine lv_eqi (y := nI (S k 0)) (hg.2.2.2.1 k hk).2.2.2.1 ?_
                    refine as_M (k := 9 * n) 3 hx hb hW hS rfl (show _ < 54 by omega) dX4_saw_124 (fun H locs hW hS => ?_)
                    obtain ⟨μ1, hμ1⟩ : ∃ z, z = up2 μ 3 (9 * n) (nI (S k 0)) := ⟨_, rfl⟩
                    rw [← hμ1] at hW
                    refine lv_aload_n hx hb dX4_saw_125 rfl (lv_at hl 3 rfl) ?_
                    refine rd_X4_16 hx hb hown hW dX4_saw_126 ?_
                    refine lv_iload hx hb dX4_saw_129 (lv_at hl 0 rfl) ?_
                    refine lv_iconst (v := 1) hx hb dX4_saw_131 (by decide) ?_
                    refine ln_add (9 * n) 1 hx hb rfl rfl dX4_saw_132 ?_
                    refine lv_iload hx hb dX4_saw_133 (lv_at hl 1 rfl) ?_
                    refine as_M (k := (9 * n) + 1) 3 hx hb hW hS rfl (show _ < 54 by omega) dX4_saw_135 (fun H locs hW hS => ?_)
                    obtain ⟨μ2, hμ2⟩ : ∃ z, z = up2 μ1 3 ((9 * n) + 1) (nI (plainN (S k) i)) := ⟨_, rfl⟩
                    rw [← hμ2] at hW
                    refine lv_aload_n hx hb dX4_saw_136 rfl (lv_at hl 3 rfl) ?_
                    refine rd_X4_16 hx hb hown hW dX4_saw_137 ?_
                    refine lv_iload hx hb dX4_saw_140 (lv_at hl 0 rfl) ?_
                    refine lv_iconst (v := 2) hx hb dX4_saw_142 (by decide) ?_
                    refine ln_add (9 * n) 2 hx hb rfl rfl dX4_saw_143 ?_
                    refine lv_iconst (v := 0) hx hb dX4_saw_144 (by decide) ?_
                    refine as_M (k := (9 * n) + 2) 3 hx hb hW hS rfl (show _ < 54 by omega) dX4_saw_145 (fun H locs hW hS => ?_)
                    obtain ⟨μ3, hμ3⟩ : ∃ z, z = up2 μ2 3 ((9 * n) + 2) 0 := ⟨_, rfl⟩
                    rw [← hμ3] at hW
                    refine lv_aload_n hx hb dX4_saw_146 rfl (lv_at hl 3 rfl) ?_
                    refine rd_X4_16 hx hb hown hW dX4_saw_147 ?_
                    refine lv_iload hx hb dX4_saw_150 (lv_at hl 0 rfl) ?_
                    refine lv_iconst (v := 3) hx hb dX4_saw_152 (by decide) ?_
                    refine ln_add (9 * n) 3 hx hb rfl rfl dX4_saw_153 ?_
                    refine lv_iload_n hx hb dX4_saw_154 rfl (lv_at hl 2 rfl) ?_
                    refine lv_iload_n hx hb dX4_saw_155 rfl (lv_at hl 5 rfl) ?_
                    refine ln_sub (S k 3) t hx hb rfl rfl (by omega) dX4_saw_156 ?_
                    refine as_M (k := (9 * n) + 3) 3 hx hb hW hS rfl (show _ < 54 by omega) dX4_saw_157 (fun H locs hW hS => ?_)
                    obtain ⟨μ4, hμ4⟩ : ∃ z, z = up2 μ3 3 ((9 * n) + 3) (nI ((S k 3) - t)) := ⟨_, rfl⟩
                    rw [← hμ4] at hW
                    refine lv_iload_n hx hb dX4_saw_158 rfl (lv_at hl 5 rfl) ?_
                    refine lv_istore (lv' := [(6, .int (nI t)), (5, .int (nI (9 * n))), (4, .int (nI (plainN (S k) i))), (3, .int (nI (S k 3))), (0, .ref (gm G 0)), (1, .int (nI k)), (2, .int (nI t))]) hx hb dX4_saw_159 hl (by decide) rfl (fun ls hl => ?_)
                    have loop_161 : ∀ (N9 : Nat) (j : Nat) (jo : Int32) (μw : St) (hw : Int64) (H : Heap) (locs : List Loc), S k 3 - j < N9 → jo = nI j → j ≤ S k 3 → t ≤ j → WM G μw hw s H → va_S (aM G) s.heap H locs → SW μ n S k t μw j → ∀ ls : Array Slot, lv_has ls 7 [(6, .int jo), (5, .int (nI (9 * n))), (3, .int (nI (S k 3))), (0, .ref (gm G 0)), (1, .int (nI k)), (2, .int (nI t))] → W p l e (headSpec (w1 yX4_saw cX4_saw 7 (some .int)) ({ frames := 2, cells := 0, slots := 0, locals := 48 })).room s m [.ref (gm G 0), .int (nI k), .int (nI t)].toArray below meth c H locs 0 0 (MQ below (QiM G (fun r u9 => r = (dSaw n S ch (nI k) (nI t)).1 ∧ RC μ q V u9 (dSaw n S ch (nI k) (nI t)).2.1 (dSaw n S ch (nI k) (nI t)).2.2.1 (dSaw n S ch (nI k) (nI t)).2.2.2)) [.ref (gm G 0), .int (nI k), .int (nI t)].toArray s 0 0 (aM G)) (F0 m 161 ls []) := by
                      intro N9
                      induction N9 with
                      | zero => intro j jo μw hw H locs hN; exact absurd hN (Nat.not_lt_zero _)
                      | succ N9 ih =>
                        intro j jo μw hw H locs hN e_jo hi0_161 hi1_161 hW hS hw0_161 ls hl
                        subst e_jo
                        have ih_161 := ih
                        refine lv_iload hx hb dX4_saw_161 (lv_at hl 0 rfl) ?_
                        refine lv_iload_n hx hb dX4_saw_163 rfl (lv_at hl 2 rfl) ?_
                        refine lv_icmp_ge (tgt := 201) hx hb dX4_saw_164 (by decide) (fun c_164 => ?_) (fun c_164 => ?_)
                        · skip
                          have q_164 := tN_le (S k 3) j c_164 rfl rfl (by omega) (by omega)
                          refine lv_aload_n hx hb dX4_saw_201 rfl (lv_at hl 3 rfl) ?_
                          refine rd_X4_16 hx hb hown hW dX4_saw_202 ?_
                          refine lv_bipush (v := 9) hx hb dX4_saw_205 (by decide) ?_
                          refine lv_iload_n hx hb dX4_saw_207 rfl (lv_at hl 4 rfl) ?_
                          refine ln_mul 9 k hx hb rfl rfl dX4_saw_208 ?_
                          refine lv_iconst (v := 3) hx hb dX4_saw_209 (by decide) ?_
                          refine ln_add (9 * k) 3 hx hb rfl rfl dX4_saw_210 ?_
                          refine lv_iload_n hx hb dX4_saw_211 rfl (lv_at hl 5 rfl) ?_
                          refine as_M (k := (9 * k) + 3) 3 hx hb hW hS rfl (show _ < 54 by omega) dX4_saw_212 (fun H locs hW hS => ?_)
                          obtain ⟨μ5, hμ5⟩ : ∃ z, z = up2 μw 3 ((9 * k) + 3) (nI t) := ⟨_, rfl⟩
                          rw [← hμ5] at hW
                          refine lv_aload_n hx hb dX4_saw_213 rfl (lv_at hl 3 rfl) ?_
                          refine lv_dup hx hb dX4_saw_214 rfl ?_
                          refine rd_X4_75 hx hb hown hW dX4_saw_215 ?_
                          refine lv_eqi (y := nI n) (by rw [hμ5, up2_ne (by decide), hw0_161.2.2.2.2.2 0 5 (fun z => absurd z (by decide))]; exact hg.1.1) ?_
                          refine lv_iconst (v := 1) hx hb dX4_saw_218 (by decide) ?_
                          refine ln_add n 1 hx hb rfl rfl dX4_saw_219 ?_
                          refine wr_X4_75 hx hb hown hW hS dX4_saw_220 (fun H locs hW hS => ?_)
                          obtain ⟨μ6, hμ6⟩ : ∃ z, z = up2 μ5 (0) 5 (nI (n + 1)) := ⟨_, rfl⟩
                          rw [← hμ6] at hW
                          refine lv_aload_n hx hb dX4_saw_223 rfl (lv_at hl 3 rfl) ?_
                          refine lv_dup hx hb dX4_saw_224 rfl ?_
                          refine rd_X4_78 hx hb hown hW dX4_saw_225 ?_
                          refine lv_eqi (y := ch) (by rw [hμ6, up2_nf (by decide), hμ5, up2_ne (by decide), hw0_161.2.2.2.2.2 0 6 (fun z => absurd z (by decide))]; exact hg.2.1) ?_
                          refine lv_iconst (v := 1) hx hb dX4_saw_228 (by decide) ?_
                          refine lv_iadd hx hb dX4_saw_229 ?_
                          refine wr_X4_78 hx hb hown hW hS dX4_saw_230 (fun H locs hW hS => ?_)
                          obtain ⟨μ7, hμ7⟩ : ∃ z, z = up2 μ6 (0) 6 (ch + 1) := ⟨_, rfl⟩
                          rw [← hμ7] at hW
                          refine lv_aload_n hx hb dX4_saw_233 rfl (lv_at hl 3 rfl) ?_
                          refine rd_X4_75 hx hb hown hW dX4_saw_234 ?_
                          refine lv_eqi (y := nI (n + 1)) (by rw [hμ7, up2_nf (by decide), hμ6, up2_eq]) ?_
                          refine lv_iconst (v := 1) hx hb dX4_saw_237 (by decide) ?_
                          refine ln_sub (n + 1) 1 hx hb rfl rfl (by omega) dX4_saw_238 ?_
                          exact W.iret (v := nI ((n + 1) - 1)) hx hb hr (fun t9 ht9 hW9 => ⟨⟨_, (μ7, hw), rfl, (Dn ((wG_k hk (by omega)).trans ((wG_k ht (by omega)).trans ((if_neg (by omega)).trans (if_neg (by omega))))) rfl (by subst hμ7; subst hμ6; subst hμ5; exact hw0_161.fin (by omega) hg hk (by omega) (by omega) ht)), (by have h8 := hW.1; rw [← ht9] at h8; exact h8)⟩, hS.F ht9⟩) hS.2.2 dX4_saw_239
                        · skip
                          have q_164 := tN_nle (S k 3) j c_164 rfl rfl (by omega) (by omega)
                          refine lv_aload_n hx hb dX4_saw_167 rfl (lv_at hl 3 rfl) ?_
                          refine rd_X4_16 hx hb hown hW dX4_saw_168 ?_
                          refine lv_iload hx hb dX4_saw_171 (lv_at hl 1 rfl) ?_
                          refine lv_iconst (v := 4) hx hb dX4_saw_173 (by decide) ?_
                          refine ln_add (9 * n) 4 hx hb rfl rfl dX4_saw_174 ?_
                          refine lv_iload hx hb dX4_saw_175 (lv_at hl 0 rfl) ?_
                          refine ln_add ((9 * n) + 4) j hx hb rfl rfl dX4_saw_177 ?_
                          refine lv_iload_n hx hb dX4_saw_178 rfl (lv_at hl 5 rfl) ?_
                          refine ln_sub (((9 * n) + 4) + j) t hx hb rfl rfl (by omega) dX4_saw_179 ?_
                          refine lv_aload_n hx hb dX4_saw_180 rfl (lv_at hl 3 rfl) ?_
                          refine rd_X4_16 hx hb hown hW dX4_saw_181 ?_
                          refine lv_bipush (v := 9) hx hb dX4_saw_184 (by decide) ?_
                          refine lv_iload_n hx hb dX4_saw_186 rfl (lv_at hl 4 rfl) ?_
                          refine ln_mul 9 k hx hb rfl rfl dX4_saw_187 ?_
                          refine lv_iconst (v := 4) hx hb dX4_saw_188 (by decide) ?_
                          refine ln_add (9 * k) 4 hx hb rfl rfl dX4_saw_189 ?_
                          refine lv_iload hx hb dX4_saw_190 (lv_at hl 0 rfl) ?_
                          refine ln_add ((9 * k) + 4) j hx hb rfl rfl dX4_saw_192 ?_
                          refine al_M (k := ((9 * k) + 4) + j) 3 hx hb hW rfl (show _ < 54 by omega) dX4_saw_193 ?_
                          refine lv_eqi (y := nI (S k (4 + j))) (by rw [hw0_161.2.2.2.2.2 3 _ (fun _ => by omega)]; exact (hg.2.2.2.1 k hk).2.2.2.2.2.2.2 j (by omega)) ?_
                          refine as_M (k := (((9 * n) + 4) + j) - t) 3 hx hb hW hS rfl (show _ < 54 by omega) dX4_saw_194 (fun H locs hW hS => ?_)
                          obtain ⟨μ8, hμ8⟩ : ∃ z, z = up2 μw 3 ((((9 * n) + 4) + j) - t) (nI (S k (4 + j))) := ⟨_, rfl⟩
                          rw [← hμ8] at hW
                          refine lv_iinc (v := nI (j + 1)) (lv' := [(6, .int (nI (j + 1))), (5, .int (nI (9 * n))), (3, .int (nI (S k 3))), (0, .ref (gm G 0)), (1, .int (nI k)), (2, .int (nI t))]) hx hb dX4_saw_195 hl (k := 0) rfl (inc1 j) (by decide) rfl (fun ls hl => ?_)
                          refine lv_goto (tgt := 161) hx hb dX4_saw_198 (by decide) ?_
                          exact ih_161 (j + 1) _ _ _ _ _ (by omega) rfl (by omega) (by omega) hW hS (by subst hμ8; exact SW_s hw0_161 hi1_161) ls (lv_sub hl [0, 1, 2, 3, 4, 5] rfl)
                    exact loop_161 _ t _ _ _ _ _ (Nat.lt_succ_self _) rfl (by omega) (Nat.le_refl _) hW hS (by have h9 : i = t := (by omega); rw [h9] at hμ2; subst hμ4; subst hμ3; subst hμ2; subst hμ1; exact SW_0) ls (lv_sub hl [0, 1, 3, 4, 5, 6] rfl)
                  · skip
                    have q_70 := tN_nle t i c_70 rfl rfl (by omega) (by omega)
                    refine lv_iload hx hb dX4_saw_73 (lv_at hl 0 rfl) ?_
                    refine lv_aload_n hx hb dX4_saw_75 rfl (lv_at hl 3 rfl) ?_
                    refine rd_X4_16 hx hb hown hW dX4_saw_76 ?_
                    refine lv_bipush (v := 9) hx hb dX4_saw_79 (by decide) ?_
                    refine lv_iload_n hx hb dX4_saw_81 rfl (lv_at hl 4 rfl) ?_
                    refine ln_mul 9 k hx hb rfl rfl dX4_saw_82 ?_
                    refine lv_iconst (v := 4) hx hb dX4_saw_83 (by decide) ?_
                    refine ln_add (9 * k) 4 hx hb rfl rfl dX4_saw_84 ?_
                    refine lv_iload hx hb dX4_saw_85 (lv_at hl 1 rfl) ?_
                    refine ln_add ((9 * k) + 4) i hx hb rfl rfl dX4_saw_87 ?_
                    refine al_M (k := ((9 * k) + 4) + i) 3 hx hb hW rfl (show _ < 54 by omega) dX4_saw_88 ?_
                    refine lv_eqi (y := nI (S k (4 + i))) ((hg.2.2.2.1 k (by omega)).2.2.2.2.2.2.2 i (by omega)) ?_
                    refine cs_i (q := 702) [.int (nI (plainN (S k) i)), .int (nI (S k (4 + i)))] hx hb hml hown hG v_X4_stepped (by decide +kernel) (c_X4_stepped l (plainN (S k) i) (S k (4 + i)) (plainN_lt hv9 i (by omega)) (hv9.2.2.2 i (by omega))) (preG hG _) rfl hl.1 (Nat.le_of_ble_eq_true rfl) dX4_saw_89 ⟨rfl, rfl, Nat.le_of_ble_eq_true rfl, Nat.le_of_ble_eq_true rfl⟩ ⟨Nat.le_of_ble_eq_true rfl, Nat.le_of_ble_eq_true rfl⟩ ?_
                    refine lv_istore (lv' := [(4, .int (nI (stepN (plainN (S k) i) (S k (4 + i))))), (5, .int (nI i)), (3, .int (nI (S k 3))), (0, .ref (gm G 0)), (1, .int (nI k)), (2, .int (nI t))]) hx hb dX4_saw_92 hl (by decide) rfl (fun ls hl => ?_)
                    refine lv_iinc (v := nI (i + 1)) (lv' := [(5, .int (nI (i + 1))), (4, .int (nI (stepN (plainN (S k) i) (S k (4 + i))))), (3, .int (nI (S k 3))), (0, .ref (gm G 0)), (1, .int (nI k)), (2, .int (nI t))]) hx hb dX4_saw_94 hl (k := 1) rfl (inc1 i) (by decide) rfl (fun ls hl => ?_)
                    refine lv_goto (tgt := 67) hx hb dX4_saw_97 (by decide) ?_
                    exact ih_67 (i + 1) _ _ (by omega) rfl rfl (by omega) ls (lv_sub hl [1, 0, 2, 3, 4, 5] rfl)
              exact loop_67 _ 0 _ _ (Nat.lt_succ_self _) rfl rfl (by omega) ls (lv_sub hl [1, 0, 2, 3, 4, 5] rfl)
            · skip
              have q_45 := tN_eq n 6 c_45 rfl rfl (by omega) (by omega)
              refine lv_bipush (v := (-104)) hx hb dX4_saw_48 (by decide) ?_
              exact W.iret (v := (-104)) hx hb hr (fun t9 ht9 hW9 => ⟨⟨_, (μ, hs), rfl, (Dn ((wG_k hk (by omega)).trans ((wG_k ht (by omega)).trans ((if_neg (by omega)).trans (if_pos (by omega))))) rfl (RC.rf hg)), (by have h8 := hW.1; rw [← ht9] at h8; exact h8)⟩, hS.F ht9⟩) hS.2.2 dX4_saw_50
          · skip
            exact absurd c_33 (by decide)
        · skip
          exact absurd c_5 (by decide)
