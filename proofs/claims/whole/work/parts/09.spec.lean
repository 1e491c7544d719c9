/-! bits, and the walk's steps -/
theorem nI_or (a b : Nat) : nI a ||| nI b = nI (a ||| b) := by
  apply Int32.toBitVec_inj.1
  show BitVec.ofNat 32 a ||| BitVec.ofNat 32 b = BitVec.ofNat 32 (a ||| b)
  apply BitVec.eq_of_getLsbD_eq
  intro i hi
  simp [hi]
theorem nI_and (a b : Nat) : nI a &&& nI b = nI (a &&& b) := by
  apply Int32.toBitVec_inj.1
  show BitVec.ofNat 32 a &&& BitVec.ofNat 32 b = BitVec.ofNat 32 (a &&& b)
  apply BitVec.eq_of_getLsbD_eq
  intro i hi
  simp [hi]
theorem bitI : ∀ q, q < 31 → (1 : Int32) <<< (nI q &&& 31) = nI (2 ^ q) := by decide +kernel
theorem hp_12 (K : Nat) : hpN K = 1 ∨ hpN K = 2 := by unfold hpN; split <;> simp
theorem hw_20 {K C : Nat} (h : C ≤ 5) : hwN K C ≤ 20 := by
  unfold hwN swN hpN
  by_cases h1 : K = 1 <;> by_cases h4 : K = 4 <;> by_cases h2 : K = 2 <;> simp [h1, h4, h2] <;> omega
theorem st_take {h w q : Nat} (hq : q = 1 ∨ q = 2) (h1 : h + 1 ≤ w) (h2 : (h + 1) % q = 0) : min h w / q = (h + 1) / q - 1 ∧ min h w / q + 1 = min (h + 1) w / q := by
  have e1 : min h w = h := by omega
  have e2 : min (h + 1) w = h + 1 := by omega
  rw [e1, e2]
  rcases hq with rfl | rfl <;> omega
theorem st_stay {h w q : Nat} (hq : q = 1 ∨ q = 2) (h1 : w < h + 1 ∨ (h + 1) % q ≠ 0) : min h w / q = min (h + 1) w / q := by
  rcases Nat.lt_or_ge w (h + 1) with q1 | q1
  · have e1 : min h w = w := by omega
    have e2 : min (h + 1) w = w := by omega
    rw [e1, e2]
  · have e1 : min h w = h := by omega
    have e2 : min (h + 1) w = h + 1 := by omega
    rw [e1, e2]
    have h3 : (h + 1) % q ≠ 0 := h1.elim (fun z => by omega) id
    rcases hq with rfl | rfl <;> omega
theorem posN_take {S : Sk} {h : Nat} (h1 : h + 1 ≤ hwN (S 0) (S 3)) (h2 : (h + 1) % hpN (S 0) = 0) : nI (stepN (posN S h) (dirN S (min h (hwN (S 0) (S 3)) / hpN (S 0)))) = nI (posN S (h + 1)) := by
  rw [posN, if_pos ⟨h1, h2⟩, (st_take (hp_12 _) h1 h2).1]
theorem posN_far {S : Sk} {h : Nat} (h1 : hwN (S 0) (S 3) < h + 1) : nI (posN S h) = nI (posN S (h + 1)) := by
  rw [posN, if_neg (fun z => by omega)]
theorem posN_off {S : Sk} {h : Nat} (h2 : (h + 1) % hpN (S 0) ≠ 0) : nI (posN S h) = nI (posN S (h + 1)) := by
  rw [posN, if_neg (fun z => h2 z.2)]
theorem stN_take {S : Sk} {h : Nat} (h1 : h + 1 ≤ hwN (S 0) (S 3)) (h2 : (h + 1) % hpN (S 0) = 0) : nI (min h (hwN (S 0) (S 3)) / hpN (S 0) + 1) = nI (min (h + 1) (hwN (S 0) (S 3)) / hpN (S 0)) := by
  rw [(st_take (hp_12 _) h1 h2).2]
theorem stN_far {S : Sk} {h : Nat} (h1 : hwN (S 0) (S 3) < h + 1) : nI (min h (hwN (S 0) (S 3)) / hpN (S 0)) = nI (min (h + 1) (hwN (S 0) (S 3)) / hpN (S 0)) := by
  rw [st_stay (hp_12 _) (Or.inl h1)]
theorem stN_off {S : Sk} {h : Nat} (h2 : (h + 1) % hpN (S 0) ≠ 0) : nI (min h (hwN (S 0) (S 3)) / hpN (S 0)) = nI (min (h + 1) (hwN (S 0) (S 3)) / hpN (S 0)) := by
  rw [st_stay (hp_12 _) (Or.inr h2)]
/-- while the walk is traced: up to h -/
def RTP (σ : St) (j : Nat) (S : Sk) (σ' : St) (h : Nat) : Prop :=
  (∀ a, a ≠ 3 * j + 14 → a ≠ 3 * j + 16 → σ' a = σ a) ∧ (∀ f, f ≠ 5 → σ' (3 * j + 14) f = σ (3 * j + 14) f) ∧ (∀ t, t ≤ h → σ' (3 * j + 16) t = nI (posN S t)) ∧ σ' (3 * j + 14) 5 = nI (orN (posN S) (h + 1))
/-- behind retrace() -/
def RT (σ : St) (j : Nat) (S : Sk) (σ' : St) : Prop :=
  (∀ a, a ≠ 3 * j + 14 → a ≠ 3 * j + 16 → σ' a = σ a) ∧ (∀ f, f ≠ 5 → σ' (3 * j + 14) f = σ (3 * j + 14) f) ∧ GT σ' j S
theorem RTP_0 {σ : St} {j : Nat} {S : Sk} (h : S 1 < 16) : RTP σ j S (up2 (up2 σ (3 * j + 16) 0 (nI (S 1))) (3 * j + 14) 5 (1 <<< (nI (S 1) &&& 31))) 0 := by
  refine ⟨fun a h1 h2 => ?_, fun f hf => ?_, fun t ht => ?_, ?_⟩
  · rw [up2_ne h1, up2_ne h2]
  · rw [up2_nf hf, up2_nr (by omega)]
  · have : t = 0 := by omega
    subst this
    rw [up2_nr (by omega), up2_eq]; rfl
  · rw [up2_eq, bitI _ (by omega)]
    show _ = nI (0 ||| 2 ^ S 1)
    rw [Nat.zero_or]
theorem RTP_s {σ σ' : St} {j h : Nat} {S : Sk} (hv : VS S) (H : RTP σ j S σ' h) : RTP σ j S (up2 (up2 σ' (3 * j + 16) (h + 1) (nI (posN S (h + 1)))) (3 * j + 14) 5 ((up2 σ' (3 * j + 16) (h + 1) (nI (posN S (h + 1)))) (3 * j + 14) 5 ||| 1 <<< (nI (posN S (h + 1)) &&& 31))) (h + 1) := by
  obtain ⟨h1, h2, h3, h4⟩ := H
  refine ⟨fun a q1 q2 => ?_, fun f hf => ?_, fun t ht => ?_, ?_⟩
  · rw [up2_ne q1, up2_ne q2]; exact h1 a q1 q2
  · rw [up2_nf hf, up2_nr (by omega)]; exact h2 f hf
  · rw [up2_nr (by omega)]
    by_cases e : t = h + 1
    · subst e; rw [up2_eq]
    · rw [up2_nf e]; exact h3 t (by omega)
  · rw [up2_eq, up2_nr (by omega), h4, bitI _ (by have := posN_lt hv (h + 1); omega), nI_or]
    rfl
theorem RTP.fin {σ σ' : St} {j : Nat} {S : Sk} (H : RTP σ j S σ' 30) : RT σ j S σ' := ⟨H.1, H.2.1, fun t ht => H.2.2.1 t (by omega), H.2.2.2⟩
theorem RTP.gs {σ σ' : St} {j h : Nat} {S : Sk} (H : RTP σ j S σ' h) (g : GS σ j S) : GS σ' j S := by
  obtain ⟨g1, g2, g3, g4⟩ := g
  refine ⟨(H.2.1 0 (by omega)).trans g1, (H.2.1 1 (by omega)).trans g2, (H.2.1 2 (by omega)).trans g3, fun i hi => ?_⟩
  rw [H.1 (3 * j + 15) (by omega) (by omega)]; exact g4 i hi
theorem RT.gs {σ σ' : St} {j : Nat} {S : Sk} (H : RT σ j S σ') (g : GS σ j S) : GS σ' j S := by
  obtain ⟨g1, g2, g3, g4⟩ := g
  refine ⟨(H.2.1 0 (by omega)).trans g1, (H.2.1 1 (by omega)).trans g2, (H.2.1 2 (by omega)).trans g3, fun i hi => ?_⟩
  rw [H.1 (3 * j + 15) (by omega) (by omega)]; exact g4 i hi
/-- a plain walk of the first steps -/
def plainN (S : Sk) : Nat → Nat
  | 0 => S 1
  | t + 1 => stepN (plainN S t) (S (4 + t))
theorem plainN_lt {S : Sk} (h : VS S) : ∀ t, t ≤ S 3 → plainN S t < 16 := by
  intro t
  induction t with
  | zero => intro _; exact h.2.1
  | succ t ih => intro ht; exact stepN_lt _ (ih (by omega)) _ (h.2.2.2 t (by omega))
/-- is a stick of that kind -/
def isK (K k : Nat) : Bool := k == 0 || k == K || (k == 1 && K == 4)
