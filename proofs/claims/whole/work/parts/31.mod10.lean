/-! ===== the text of hills, as both sides read it ===== -/
def kdN (c9 : Nat) : Nat := if c9 = 107 then 0 else if c9 = 99 then 1 else if c9 = 108 then 2 else if c9 = 120 then 3 else if c9 = 97 then 4 else 9
def stN (c9 : Nat) : Nat := if c9 = 110 then 0 else if c9 = 101 then 1 else if c9 = 115 then 2 else if c9 = 119 then 3 else 9
def oN (k : Nat) : Int32 := if k = 9 then -1 else nI k
def fitN (c9 ps b : Nat) : Bool := if ps = 0 then decide (kdN c9 < 5) else if ps = 1 then decide (97 ≤ c9 ∧ c9 < 113) else if c9 = 44 then decide (2 < ps ∧ b < 3) else decide (ps < 7 ∧ stN c9 < 4)
def prN (P : Nat → Nat) : Nat → Nat × Nat
  | 0 => (0, 0)
  | i + 1 => if P i = 44 then ((prN P i).1 + 1, 0) else ((prN P i).1, (prN P i).2 + 1)
def pgU (c9 ps : Nat) (S : Sk) : Sk := fun f =>
  if ps = 0 then (if f = 0 then kdN c9 else S f)
  else if ps = 1 then (if f = 1 then c9 - 97 else if f = 2 then 0 else if f = 3 then 0 else S f)
  else (if f = 3 then ps - 1 else if f = ps + 2 then stN c9 else S f)
def pgS (P : Nat → Nat) : Nat → Nat → Sk
  | 0 => fun _ _ => 0
  | i + 1 => if P i = 44 then pgS P i else putS (pgS P i) (prN P i).1 (pgU (P i) (prN P i).2 (pgS P i (prN P i).1))
def ftF (P : Nat → Nat) : Nat → Nat → Nat
  | 0, i => i
  | k + 1, i => if fitN (P i) (prN P i).2 (prN P i).1 = true then ftF P k (i + 1) else i
def ftN (P : Nat → Nat) (pn : Nat) : Nat := ftF P pn 0
theorem kd_9 (c9 : Nat) : kdN c9 < 5 ∨ kdN c9 = 9 := by
  unfold kdN
  repeat (first | (split; · (left; decide)) | (right; rfl))
theorem st_9 (c9 : Nat) : stN c9 < 4 ∨ stN c9 = 9 := by
  unfold stN
  repeat (first | (split; · (left; decide)) | (right; rfl))
theorem oN_y {k : Nat} (h : k < 9) : oN k = nI k := if_neg (by omega)
theorem oN_9 {k : Nat} (h : k = 9) : oN k = -1 := if_pos h
theorem prN_n {P : Nat → Nat} {i b ps : Nat} (hbp : prN P i = (b, ps)) (h : P i ≠ 44) : prN P (i + 1) = (b, ps + 1) := by rw [prN, if_neg h, hbp]
theorem prN_s {P : Nat → Nat} {i b ps : Nat} (hbp : prN P i = (b, ps)) (h : P i = 44) : prN P (i + 1) = (b + 1, 0) := by rw [prN, if_pos h, hbp]
theorem pgS_s {P : Nat → Nat} {i : Nat} (h : P i = 44) : pgS P (i + 1) = pgS P i := by rw [pgS, if_pos h]
theorem pgS_o {P : Nat → Nat} {i b ps k : Nat} (hbp : prN P i = (b, ps)) (h : k ≠ b) : pgS P (i + 1) k = pgS P i k := by
  rw [pgS]
  split
  · rfl
  · rw [hbp]; exact putS_ne h
theorem pgS_b {P : Nat → Nat} {i b ps : Nat} (hbp : prN P i = (b, ps)) (h : P i ≠ 44) : pgS P (i + 1) b = pgU (P i) ps (pgS P i b) := by
  rw [pgS, if_neg h, hbp]; exact putS_eq
theorem pgS_p {P : Nat → Nat} {i b ps : Nat} (hbp : prN P i = (b, ps)) (h : P i ≠ 44) : pgS P (i + 1) = putS (pgS P i) b (pgU (P i) ps (pgS P i b)) := by
  rw [pgS, if_neg h, hbp]
theorem pgU_2 {c9 ps : Nat} {S : Sk} (h : 2 ≤ ps) : pgU c9 ps S = fun f => if f = 3 then ps - 1 else if f = ps + 2 then stN c9 else S f := by
  funext f
  unfold pgU
  rw [if_neg (show ¬ ps = 0 by omega), if_neg (show ¬ ps = 1 by omega)]
/-- what holds of the sticks behind letters that all fit -/
def PV (P : Nat → Nat) (i b ps : Nat) : Prop := prN P i = (b, ps) ∧ b ≤ 3 ∧ ps ≤ 7 ∧ (∀ k, k < b → VS (pgS P i k) ∧ 1 ≤ pgS P i k 3 ∧ pgS P i k 2 = 0) ∧ (1 ≤ ps → pgS P i b 0 < 5) ∧ (2 ≤ ps → VS (pgS P i b) ∧ pgS P i b 3 = ps - 2 ∧ pgS P i b 2 = 0)
theorem PV_0 {P : Nat → Nat} : PV P 0 0 0 := ⟨rfl, by omega, by omega, fun k hk => absurd hk (Nat.not_lt_zero k), fun h => absurd h (by omega), fun h => absurd h (by omega)⟩
theorem fit_s {c9 ps b : Nat} (h : fitN c9 ps b = true) (h4 : c9 = 44) : 2 < ps ∧ b < 3 := by
  subst h4
  unfold fitN at h
  by_cases h0 : ps = 0
  · rw [if_pos h0] at h; exact absurd h (by decide)
  · rw [if_neg h0] at h
    by_cases h1 : ps = 1
    · rw [if_pos h1] at h; exact absurd h (by decide)
    · rw [if_neg h1, if_pos rfl] at h; exact of_decide_eq_true h
theorem fit_0 {c9 b : Nat} (h : fitN c9 0 b = true) : kdN c9 < 5 := of_decide_eq_true h
theorem fit_1 {c9 b : Nat} (h : fitN c9 1 b = true) : 97 ≤ c9 ∧ c9 < 113 := of_decide_eq_true h
theorem fit_2 {c9 ps b : Nat} (h : fitN c9 ps b = true) (h2 : 2 ≤ ps) (h4 : c9 ≠ 44) : ps < 7 ∧ stN c9 < 4 := by
  unfold fitN at h
  rw [if_neg (show ¬ ps = 0 by omega), if_neg (show ¬ ps = 1 by omega), if_neg h4] at h
  exact of_decide_eq_true h
theorem fit_2e {c9 ps b : Nat} (h2 : 2 ≤ ps) (h4 : c9 ≠ 44) : fitN c9 ps b = decide (ps < 7 ∧ stN c9 < 4) := by
  unfold fitN
  rw [if_neg (show ¬ ps = 0 by omega), if_neg (show ¬ ps = 1 by omega), if_neg h4]
theorem fit_se {ps b : Nat} (h2 : 2 ≤ ps) : fitN 44 ps b = decide (2 < ps ∧ b < 3) := by
  unfold fitN
  rw [if_neg (show ¬ ps = 0 by omega), if_neg (show ¬ ps = 1 by omega), if_pos rfl]
theorem PV.sep {P : Nat → Nat} {i b ps : Nat} (h : PV P i b ps) (hf : fitN (P i) ps b = true) (h4 : P i = 44) : PV P (i + 1) (b + 1) 0 := by
  obtain ⟨a0, a1, a2, a3, a4, a5⟩ := h
  obtain ⟨f1, f2⟩ := fit_s hf h4
  refine ⟨prN_s a0 h4, by omega, by omega, fun k hk => ?_, fun h => absurd h (by omega), fun h => absurd h (by omega)⟩
  rw [pgS_s h4]
  by_cases e9 : k = b
  · subst e9
    obtain ⟨b1, b2, b3⟩ := a5 (by omega)
    exact ⟨b1, by omega, b3⟩
  · exact a3 k (by omega)
theorem PV.kind {P : Nat → Nat} {i b : Nat} (h : PV P i b 0) (hf : kdN (P i) < 5) (h4 : P i ≠ 44) : PV P (i + 1) b 1 := by
  obtain ⟨a0, a1, a2, a3, a4, a5⟩ := h
  refine ⟨prN_n a0 h4, a1, by omega, fun k hk => ?_, fun _ => ?_, fun h => absurd h (by omega)⟩
  · rw [pgS_o a0 (by omega)]; exact a3 k hk
  · rw [pgS_b a0 h4]; exact hf
theorem pgU_1v {c9 : Nat} {S : Sk} (h0 : S 0 < 5) (hc : 97 ≤ c9 ∧ c9 < 113) : VS (pgU c9 1 S) := ⟨h0, (show c9 - 97 < 16 by omega), (show 0 ≤ 5 by omega), fun i hi => absurd hi (Nat.not_lt_zero i)⟩
theorem PV.place {P : Nat → Nat} {i b : Nat} (h : PV P i b 1) (hf : 97 ≤ P i ∧ P i < 113) (h4 : P i ≠ 44) : PV P (i + 1) b 2 := by
  obtain ⟨a0, a1, a2, a3, a4, a5⟩ := h
  refine ⟨prN_n a0 h4, a1, by omega, fun k hk => ?_, fun _ => ?_, fun _ => ?_⟩
  · rw [pgS_o a0 (by omega)]; exact a3 k hk
  · rw [pgS_b a0 h4]; exact a4 (by omega)
  · rw [pgS_b a0 h4]; exact ⟨pgU_1v (a4 (by omega)) hf, rfl, rfl⟩
theorem pgU_2v {c9 ps : Nat} {S : Sk} (h2 : 2 ≤ ps) (h7 : ps < 7) (hs : stN c9 < 4) (hv : VS S) (h3 : S 3 = ps - 2) : VS (pgU c9 ps S) := by
  rw [pgU_2 h2]
  refine ⟨?_, ?_, ?_, fun i hi => ?_⟩
  · show (if 0 = 3 then _ else if 0 = ps + 2 then _ else S 0) < 5
    rw [if_neg (by decide), if_neg (by omega)]; exact hv.1
  · show (if 1 = 3 then _ else if 1 = ps + 2 then _ else S 1) < 16
    rw [if_neg (by decide), if_neg (by omega)]; exact hv.2.1
  · show ps - 1 ≤ 5
    omega
  · have hi : i < ps - 1 := hi
    show (if 4 + i = 3 then _ else if 4 + i = ps + 2 then _ else S (4 + i)) < 4
    rw [if_neg (show ¬ 4 + i = 3 by omega)]
    by_cases e9 : 4 + i = ps + 2
    · rw [if_pos e9]; exact hs
    · rw [if_neg e9]; exact hv.2.2.2 i (by omega)
theorem PV.step {P : Nat → Nat} {i b ps : Nat} (h : PV P i b ps) (h2 : 2 ≤ ps) (hf : ps < 7 ∧ stN (P i) < 4) (h4 : P i ≠ 44) : PV P (i + 1) b (ps + 1) := by
  obtain ⟨a0, a1, a2, a3, a4, a5⟩ := h
  obtain ⟨b1, b2, b3⟩ := a5 h2
  refine ⟨prN_n a0 h4, a1, by omega, fun k hk => ?_, fun _ => ?_, fun _ => ?_⟩
  · rw [pgS_o a0 (by omega)]; exact a3 k hk
  · rw [pgS_b a0 h4]; exact (pgU_2v h2 hf.1 hf.2 b1 b2).1
  · rw [pgS_b a0 h4]
    refine ⟨pgU_2v h2 hf.1 hf.2 b1 b2, ?_, ?_⟩
    · rw [pgU_2 h2]; show ps - 1 = ps + 1 - 2; omega
    · rw [pgU_2 h2]
      show (if 2 = 3 then _ else if 2 = ps + 2 then _ else pgS P i b 2) = 0
      rw [if_neg (by decide), if_neg (by omega)]; exact b3
theorem k44 : ¬ kdN 44 < 5 := by decide
theorem PV.nx {P : Nat → Nat} {i b ps : Nat} (h : PV P i b ps) (hf : fitN (P i) ps b = true) : PV P (i + 1) (prN P (i + 1)).1 (prN P (i + 1)).2 := by
  by_cases h4 : P i = 44
  · rw [prN_s h.1 h4]; exact h.sep hf h4
  · rw [prN_n h.1 h4]
    rcases Nat.lt_or_ge ps 2 with q | q
    · rcases Nat.lt_or_ge ps 1 with q1 | q1
      · have e9 : ps = 0 := by omega
        subst e9; exact h.kind (fit_0 hf) h4
      · have e9 : ps = 1 := by omega
        subst e9; exact h.place (fit_1 hf) h4
    · exact h.step q (fit_2 hf q h4) h4
theorem ft_y {P : Nat → Nat} {pn i r : Nat} (h : ftF P (pn - i) i = r) (hi : i < pn) (hf : fitN (P i) (prN P i).2 (prN P i).1 = true) : ftF P (pn - (i + 1)) (i + 1) = r := by
  obtain ⟨k, hk⟩ : ∃ k, pn - i = k + 1 := ⟨pn - i - 1, by omega⟩
  rw [hk, ftF, if_pos hf] at h
  rw [show pn - (i + 1) = k by omega]; exact h
theorem ft_n {P : Nat → Nat} {pn i r : Nat} (h : ftF P (pn - i) i = r) (hi : i < pn) (hf : fitN (P i) (prN P i).2 (prN P i).1 = false) : i = r := by
  obtain ⟨k, hk⟩ : ∃ k, pn - i = k + 1 := ⟨pn - i - 1, by omega⟩
  rw [hk, ftF, if_neg (by rw [hf]; decide)] at h; exact h
theorem ft_e {P : Nat → Nat} {pn r : Nat} (h : ftF P (pn - pn) pn = r) : pn = r := by
  rw [Nat.sub_self] at h; exact h
/-- the reference's reading: cell 2 -/
def RG (μ : St) (P : Nat → Nat) (i b ps : Nat) : Prop := μ 0 3 = nI b ∧ μ 0 4 = nI (min ps 3) ∧ (∀ k, k < b → RR (fun _ => μ 2) k (pgS P i k)) ∧ (1 ≤ ps → μ 2 (9 * b) = nI (pgS P i b 0)) ∧ (2 ≤ ps → RR (fun _ => μ 2) b (pgS P i b))
theorem RG.row {μ μ' : St} {P : Nat → Nat} {i b ps : Nat} (h : RG μ P i b ps) (hv : PV P i b ps) (ho : ∀ f, f < 9 * b → μ' 2 f = μ 2 f) : ∀ k, k < b → RR (fun _ => μ' 2) k (pgS P (i + 1) k) := by
  intro k hk
  rw [pgS_o hv.1 (by omega)]
  exact (h.2.2.1 k hk).mv (hv.2.2.2.1 k hk).1.2.2.1 (fun f hf => ho _ (by omega))
theorem RG.sep {μ : St} {P : Nat → Nat} {i b ps : Nat} (h : RG μ P i b ps) (hv : PV P i b ps) (h2 : 2 ≤ ps) (h4 : P i = 44) : RG (up2 (up2 μ 0 3 (nI (b + 1))) 0 4 0) P (i + 1) (b + 1) 0 := by
  have f2 : up2 (up2 μ 0 3 (nI (b + 1))) 0 4 0 2 = μ 2 := (up2_ne (by decide)).trans (up2_ne (by decide))
  refine ⟨(up2_nf (by decide)).trans up2_eq, up2_eq, fun k hk => ?_, fun h => absurd h (by omega), fun h => absurd h (by omega)⟩
  rw [f2, pgS_s h4]
  by_cases e9 : k = b
  · subst e9; exact h.2.2.2.2 h2
  · exact h.2.2.1 k (by omega)
theorem RG.kind {μ : St} {P : Nat → Nat} {i b : Nat} (h : RG μ P i b 0) (hv : PV P i b 0) (h4 : P i ≠ 44) : RG (up2 (up2 μ 2 (9 * b) (nI (kdN (P i)))) 0 4 1) P (i + 1) b 1 := by
  have f2 : up2 (up2 μ 2 (9 * b) (nI (kdN (P i)))) 0 4 1 2 = up2 μ 2 (9 * b) (nI (kdN (P i))) 2 := up2_ne (by decide)
  refine ⟨(up2_nf (by decide)).trans ((congrFun (up2_ne (by decide)) 3).trans h.1), up2_eq, h.row hv (fun f hf => ?_), fun _ => ?_, fun h => absurd h (by omega)⟩
  · rw [f2, up2_nf (by omega)]
  · rw [f2, up2_eq, pgS_b hv.1 h4]; rfl
theorem RG.place {μ : St} {P : Nat → Nat} {i b : Nat} (h : RG μ P i b 1) (hv : PV P i b 1) (h4 : P i ≠ 44) : RG (up2 (up2 (up2 (up2 μ 2 (9 * b + 1) (nI (P i - 97))) 2 (9 * b + 2) 0) 2 (9 * b + 3) 0) 0 4 2) P (i + 1) b 2 := by
  have f2 : up2 (up2 (up2 (up2 μ 2 (9 * b + 1) (nI (P i - 97))) 2 (9 * b + 2) 0) 2 (9 * b + 3) 0) 0 4 2 2 = up2 (up2 (up2 μ 2 (9 * b + 1) (nI (P i - 97))) 2 (9 * b + 2) 0) 2 (9 * b + 3) 0 2 := up2_ne (by decide)
  have f0 : up2 (up2 (up2 (up2 μ 2 (9 * b + 1) (nI (P i - 97))) 2 (9 * b + 2) 0) 2 (9 * b + 3) 0) 0 4 2 2 (9 * b) = nI (pgS P (i + 1) b 0) := by
    rw [f2, up2_nf (by omega), up2_nf (by omega), up2_nf (by omega), pgS_b hv.1 h4]; exact h.2.2.2.1 (by omega)
  refine ⟨(up2_nf (by decide)).trans ((congrFun ((up2_ne (by decide)).trans ((up2_ne (by decide)).trans (up2_ne (by decide)))) 3).trans h.1), up2_eq, h.row hv (fun f hf => ?_), fun _ => f0, fun _ => ⟨f0, ?_, ?_, ?_, fun j hj => ?_⟩⟩
  · rw [f2, up2_nf (by omega), up2_nf (by omega), up2_nf (by omega)]
  · rw [f2]; dsimp only; rw [up2_nf (by omega), up2_nf (by omega), up2_eq, pgS_b hv.1 h4]; rfl
  · rw [f2]; dsimp only; rw [up2_nf (by omega), up2_eq, pgS_b hv.1 h4]; rfl
  · rw [f2]; dsimp only; rw [up2_eq, pgS_b hv.1 h4]; rfl
  · rw [pgS_b hv.1 h4] at hj; exact absurd hj (Nat.not_lt_zero j)
theorem RG.step {μ : St} {P : Nat → Nat} {i b ps : Nat} (h : RG μ P i b ps) (hv : PV P i b ps) (h2 : 2 ≤ ps) (h4 : P i ≠ 44) : RG (up2 (up2 (up2 μ 2 (9 * b + 4 + (ps - 2)) (nI (stN (P i)))) 2 (9 * b + 3) (nI (ps - 2 + 1))) 0 4 3) P (i + 1) b (ps + 1) := by
  have f2 : up2 (up2 (up2 μ 2 (9 * b + 4 + (ps - 2)) (nI (stN (P i)))) 2 (9 * b + 3) (nI (ps - 2 + 1))) 0 4 3 2 = up2 (up2 μ 2 (9 * b + 4 + (ps - 2)) (nI (stN (P i)))) 2 (9 * b + 3) (nI (ps - 2 + 1)) 2 := up2_ne (by decide)
  obtain ⟨r0, r1, r2, r3, r4⟩ := h.2.2.2.2 h2
  obtain ⟨b1, b2, b3⟩ := hv.2.2.2.2.2 h2
  have eS : pgS P (i + 1) b = fun f => if f = 3 then ps - 1 else if f = ps + 2 then stN (P i) else pgS P i b f := (pgS_b hv.1 h4).trans (pgU_2 h2)
  have f0 : up2 (up2 (up2 μ 2 (9 * b + 4 + (ps - 2)) (nI (stN (P i)))) 2 (9 * b + 3) (nI (ps - 2 + 1))) 0 4 3 2 (9 * b) = nI (pgS P (i + 1) b 0) := by
    rw [f2, up2_nf (by omega), up2_nf (by omega), eS]
    show _ = nI (if 0 = 3 then _ else if 0 = ps + 2 then _ else pgS P i b 0)
    rw [if_neg (by decide), if_neg (by omega)]; exact r0
  have m3 : min (ps + 1) 3 = 3 := by omega
  refine ⟨(up2_nf (by decide)).trans ((congrFun ((up2_ne (by decide)).trans (up2_ne (by decide))) 3).trans h.1), by rw [up2_eq, m3]; rfl, h.row hv (fun f hf => ?_), fun _ => f0, fun _ => ⟨f0, ?_, ?_, ?_, fun j hj => ?_⟩⟩
  · rw [f2, up2_nf (by omega), up2_nf (by omega)]
  · rw [f2]; dsimp only; rw [up2_nf (by omega), up2_nf (by omega), eS]
    show _ = nI (if 1 = 3 then _ else if 1 = ps + 2 then _ else pgS P i b 1)
    rw [if_neg (by decide), if_neg (by omega)]; exact r1
  · rw [f2]; dsimp only; rw [up2_nf (by omega), up2_nf (by omega), eS]
    show _ = nI (if 2 = 3 then _ else if 2 = ps + 2 then _ else pgS P i b 2)
    rw [if_neg (by decide), if_neg (by omega)]; exact r2
  · rw [f2]; dsimp only; rw [up2_eq, eS]
    show _ = nI (ps - 1)
    rw [show ps - 2 + 1 = ps - 1 by omega]
  · rw [eS] at hj
    have hj : j < ps - 1 := hj
    rw [f2]; dsimp only; rw [up2_nf (by omega), eS]
    show _ = nI (if 4 + j = 3 then _ else if 4 + j = ps + 2 then _ else pgS P i b (4 + j))
    rw [if_neg (show ¬ 4 + j = 3 by omega)]
    by_cases e9 : 4 + j = ps + 2
    · rw [if_pos e9, show 9 * b + 4 + j = 9 * b + 4 + (ps - 2) by omega, up2_eq]
    · rw [if_neg e9, up2_nf (by omega)]; exact r4 j (by omega)
def KF (μ : St) (u : StM) : Prop := ∀ a f, a ≠ 2 → (a = 0 → f ≠ 3 ∧ f ≠ 4) → u.1 a f = μ a f
theorem KF.rf {μ : St} {hs : Int64} : KF μ (μ, hs) := fun _ _ _ _ => rfl
theorem KF.u2 {μ μ1 : St} {hs : Int64} {k : Nat} {v : Int32} (h : KF μ (μ1, hs)) : KF μ (up2 μ1 2 k v, hs) := fun a f h1 h2 => (up2_o (fun z => absurd z h1)).trans (h a f h1 h2)
theorem KF.u3 {μ μ1 : St} {hs : Int64} {v : Int32} (h : KF μ (μ1, hs)) : KF μ (up2 μ1 0 3 v, hs) := fun a f h1 h2 => (up2_o (fun z => (h2 z).1)).trans (h a f h1 h2)
theorem KF.u4 {μ μ1 : St} {hs : Int64} {v : Int32} (h : KF μ (μ1, hs)) : KF μ (up2 μ1 0 4 v, hs) := fun a f h1 h2 => (up2_o (fun z => (h2 z).2)).trans (h a f h1 h2)
theorem KF.tr {μ μ1 : St} {hs1 : Int64} {u : StM} (h : KF μ (μ1, hs1)) (k : KF μ1 u) : KF μ u := fun a f h1 h2 => (k a f h1 h2).trans (h a f h1 h2)
theorem KF.rp {μ : St} {u : StM} {pn : Nat} {P : Nat → Nat} (h : KF μ u) (hp : RP μ pn P) : RP u.1 pn P :=
  ⟨⟨(h 0 1 (by decide) (by decide)).trans hp.1.1, hp.1.2⟩, fun i hi => ⟨(h 1 i (by decide) (fun z => absurd z (by decide))).trans (hp.2 i hi).1, (hp.2 i hi).2⟩⟩
theorem ps4 (ps : Nat) : ps = 0 ∨ ps = 1 ∨ ps = 2 ∨ 3 ≤ ps := by omega
theorem sub97 {c9 : Nat} (h : 97 ≤ c9) (hc : c9 < 200) : nI c9 - 97 = nI (c9 - 97) := pk_sub h
set_option maxHeartbeats 4000000 in
set_option maxRecDepth 100000 in
theorem c_X4_kindBy (l : Launch) (c9 : Nat) (hc : c9 < 128) : Met l yX4_kindBy (w1 yX4_kindBy cX4_kindBy 1 (some .int)) ({ frames := 0, cells := 0, slots := 0, locals := 0 }) (PcT [.int (nI c9)]) (vp_Si (fun r => r = oN (kdN c9))) 0 0 (fun _ => False) := by
  refine met_of [.int (nI c9)] [(0, .int (nI c9))] (by decide) (Nat.le_of_ble_eq_true rfl) rfl ?_
  intro p e s m below meth c hx hb hr hown hml hlocks hW ls hl
  refine lv_iload_n hx hb dX4_kindBy_0 rfl (lv_at hl 0 rfl) ?_
  refine lv_bipush (v := 107) hx hb dX4_kindBy_1 (by decide) ?_
  refine lv_icmp_ne (tgt := 10) hx hb dX4_kindBy_3 (by decide) (fun c_3 => ?_) (fun c_3 => ?_)
  · skip
    have q_3 := tN_ne c9 107 c_3 rfl rfl (by omega) (by omega)
    refine lv_iload_n hx hb dX4_kindBy_10 rfl (lv_at hl 0 rfl) ?_
    refine lv_bipush (v := 99) hx hb dX4_kindBy_11 (by decide) ?_
    refine lv_icmp_ne (tgt := 20) hx hb dX4_kindBy_13 (by decide) (fun c_13 => ?_) (fun c_13 => ?_)
    · skip
      have q_13 := tN_ne c9 99 c_13 rfl rfl (by omega) (by omega)
      refine lv_iload_n hx hb dX4_kindBy_20 rfl (lv_at hl 0 rfl) ?_
      refine lv_bipush (v := 108) hx hb dX4_kindBy_21 (by decide) ?_
      refine lv_icmp_ne (tgt := 30) hx hb dX4_kindBy_23 (by decide) (fun c_23 => ?_) (fun c_23 => ?_)
      · skip
        have q_23 := tN_ne c9 108 c_23 rfl rfl (by omega) (by omega)
        refine lv_iload_n hx hb dX4_kindBy_30 rfl (lv_at hl 0 rfl) ?_
        refine lv_bipush (v := 120) hx hb dX4_kindBy_31 (by decide) ?_
        refine lv_icmp_ne (tgt := 40) hx hb dX4_kindBy_33 (by decide) (fun c_33 => ?_) (fun c_33 => ?_)
        · skip
          have q_33 := tN_ne c9 120 c_33 rfl rfl (by omega) (by omega)
          refine lv_iload_n hx hb dX4_kindBy_40 rfl (lv_at hl 0 rfl) ?_
          refine lv_bipush (v := 97) hx hb dX4_kindBy_41 (by decide) ?_
          refine lv_icmp_ne (tgt := 50) hx hb dX4_kindBy_43 (by decide) (fun c_43 => ?_) (fun c_43 => ?_)
          · skip
            have q_43 := tN_ne c9 97 c_43 rfl rfl (by omega) (by omega)
            refine lv_iconst (v := (-1)) hx hb dX4_kindBy_50 (by decide) ?_
            exact W.iret (v := (-1)) hx hb hr (fun t9 ht9 hW9 => ⟨_, rfl, (by unfold kdN; rw [if_neg q_3, if_neg q_13, if_neg q_23, if_neg q_33, if_neg q_43]; rfl), ht9⟩) (fun q h => by cases h) dX4_kindBy_51
          · skip
            have q_43 := tN_eq c9 97 c_43 rfl rfl (by omega) (by omega)
            refine lv_iconst (v := 4) hx hb dX4_kindBy_46 (by decide) ?_
            refine lv_goto (tgt := 51) hx hb dX4_kindBy_47 (by decide) ?_
            exact W.iret (v := 4) hx hb hr (fun t9 ht9 hW9 => ⟨_, rfl, (by unfold kdN; rw [if_neg q_3, if_neg q_13, if_neg q_23, if_neg q_33, if_pos q_43]; rfl), ht9⟩) (fun q h => by cases h) dX4_kindBy_51
        · skip
          have q_33 := tN_eq c9 120 c_33 rfl rfl (by omega) (by omega)
          refine lv_iconst (v := 3) hx hb dX4_kindBy_36 (by decide) ?_
          refine lv_goto (tgt := 51) hx hb dX4_kindBy_37 (by decide) ?_
          exact W.iret (v := 3) hx hb hr (fun t9 ht9 hW9 => ⟨_, rfl, (by unfold kdN; rw [if_neg q_3, if_neg q_13, if_neg q_23, if_pos q_33]; rfl), ht9⟩) (fun q h => by cases h) dX4_kindBy_51
      · skip
        have q_23 := tN_eq c9 108 c_23 rfl rfl (by omega) (by omega)
        refine lv_iconst (v := 2) hx hb dX4_kindBy_26 (by decide) ?_
        refine lv_goto (tgt := 51) hx hb dX4_kindBy_27 (by decide) ?_
        exact W.iret (v := 2) hx hb hr (fun t9 ht9 hW9 => ⟨_, rfl, (by unfold kdN; rw [if_neg q_3, if_neg q_13, if_pos q_23]; rfl), ht9⟩) (fun q h => by cases h) dX4_kindBy_51
    · skip
      have q_13 := tN_eq c9 99 c_13 rfl rfl (by omega) (by omega)
      refine lv_iconst (v := 1) hx hb dX4_kindBy_16 (by decide) ?_
      refine lv_goto (tgt := 51) hx hb dX4_kindBy_17 (by decide) ?_
      exact W.iret (v := 1) hx hb hr (fun t9 ht9 hW9 => ⟨_, rfl, (by unfold kdN; rw [if_neg q_3, if_pos q_13]; rfl), ht9⟩) (fun q h => by cases h) dX4_kindBy_51
  · skip
    have q_3 := tN_eq c9 107 c_3 rfl rfl (by omega) (by omega)
    refine lv_iconst (v := 0) hx hb dX4_kindBy_6 (by decide) ?_
    refine lv_goto (tgt := 51) hx hb dX4_kindBy_7 (by decide) ?_
    exact W.iret (v := 0) hx hb hr (fun t9 ht9 hW9 => ⟨_, rfl, (by unfold kdN; rw [if_pos q_3]; rfl), ht9⟩) (fun q h => by cases h) dX4_kindBy_51
set_option maxHeartbeats 4000000 in
set_option maxRecDepth 100000 in
theorem c_X4_stepBy (l : Launch) (c9 : Nat) (hc : c9 < 128) : Met l yX4_stepBy (w1 yX4_stepBy cX4_stepBy 1 (some .int)) ({ frames := 0, cells := 0, slots := 0, locals := 0 }) (PcT [.int (nI c9)]) (vp_Si (fun r => r = oN (stN c9))) 0 0 (fun _ => False) := by
  refine met_of [.int (nI c9)] [(0, .int (nI c9))] (by decide) (Nat.le_of_ble_eq_true rfl) rfl ?_
  intro p e s m below meth c hx hb hr hown hml hlocks hW ls hl
  refine lv_iload_n hx hb dX4_stepBy_0 rfl (lv_at hl 0 rfl) ?_
  refine lv_bipush (v := 110) hx hb dX4_stepBy_1 (by decide) ?_
  refine lv_icmp_ne (tgt := 10) hx hb dX4_stepBy_3 (by decide) (fun c_3 => ?_) (fun c_3 => ?_)
  · skip
    have q_3 := tN_ne c9 110 c_3 rfl rfl (by omega) (by omega)
    refine lv_iload_n hx hb dX4_stepBy_10 rfl (lv_at hl 0 rfl) ?_
    refine lv_bipush (v := 101) hx hb dX4_stepBy_11 (by decide) ?_
    refine lv_icmp_ne (tgt := 20) hx hb dX4_stepBy_13 (by decide) (fun c_13 => ?_) (fun c_13 => ?_)
    · skip
      have q_13 := tN_ne c9 101 c_13 rfl rfl (by omega) (by omega)
      refine lv_iload_n hx hb dX4_stepBy_20 rfl (lv_at hl 0 rfl) ?_
      refine lv_bipush (v := 115) hx hb dX4_stepBy_21 (by decide) ?_
      refine lv_icmp_ne (tgt := 30) hx hb dX4_stepBy_23 (by decide) (fun c_23 => ?_) (fun c_23 => ?_)
      · skip
        have q_23 := tN_ne c9 115 c_23 rfl rfl (by omega) (by omega)
        refine lv_iload_n hx hb dX4_stepBy_30 rfl (lv_at hl 0 rfl) ?_
        refine lv_bipush (v := 119) hx hb dX4_stepBy_31 (by decide) ?_
        refine lv_icmp_ne (tgt := 40) hx hb dX4_stepBy_33 (by decide) (fun c_33 => ?_) (fun c_33 => ?_)
        · skip
          have q_33 := tN_ne c9 119 c_33 rfl rfl (by omega) (by omega)
          refine lv_iconst (v := (-1)) hx hb dX4_stepBy_40 (by decide) ?_
          exact W.iret (v := (-1)) hx hb hr (fun t9 ht9 hW9 => ⟨_, rfl, (by unfold stN; rw [if_neg q_3, if_neg q_13, if_neg q_23, if_neg q_33]; rfl), ht9⟩) (fun q h => by cases h) dX4_stepBy_41
        · skip
          have q_33 := tN_eq c9 119 c_33 rfl rfl (by omega) (by omega)
          refine lv_iconst (v := 3) hx hb dX4_stepBy_36 (by decide) ?_
          refine lv_goto (tgt := 41) hx hb dX4_stepBy_37 (by decide) ?_
          exact W.iret (v := 3) hx hb hr (fun t9 ht9 hW9 => ⟨_, rfl, (by unfold stN; rw [if_neg q_3, if_neg q_13, if_neg q_23, if_pos q_33]; rfl), ht9⟩) (fun q h => by cases h) dX4_stepBy_41
      · skip
        have q_23 := tN_eq c9 115 c_23 rfl rfl (by omega) (by omega)
        refine lv_iconst (v := 2) hx hb dX4_stepBy_26 (by decide) ?_
        refine lv_goto (tgt := 41) hx hb dX4_stepBy_27 (by decide) ?_
        exact W.iret (v := 2) hx hb hr (fun t9 ht9 hW9 => ⟨_, rfl, (by unfold stN; rw [if_neg q_3, if_neg q_13, if_pos q_23]; rfl), ht9⟩) (fun q h => by cases h) dX4_stepBy_41
    · skip
      have q_13 := tN_eq c9 101 c_13 rfl rfl (by omega) (by omega)
      refine lv_iconst (v := 1) hx hb dX4_stepBy_16 (by decide) ?_
      refine lv_goto (tgt := 41) hx hb dX4_stepBy_17 (by decide) ?_
      exact W.iret (v := 1) hx hb hr (fun t9 ht9 hW9 => ⟨_, rfl, (by unfold stN; rw [if_neg q_3, if_pos q_13]; rfl), ht9⟩) (fun q h => by cases h) dX4_stepBy_41
  · skip
    have q_3 := tN_eq c9 110 c_3 rfl rfl (by omega) (by omega)
    refine lv_iconst (v := 0) hx hb dX4_stepBy_6 (by decide) ?_
    refine lv_goto (tgt := 41) hx hb dX4_stepBy_7 (by decide) ?_
    exact W.iret (v := 0) hx hb hr (fun t9 ht9 hW9 => ⟨_, rfl, (by unfold stN; rw [if_pos q_3]; rfl), ht9⟩) (fun q h => by cases h) dX4_stepBy_41
set_option maxHeartbeats 4000000 in
set_option maxRecDepth 100000 in
theorem c_X4_go (l : Launch) (G : Gam) (μ : St) (hs : Int64) (P : Nat → Nat) (i b ps c9 : Nat) (hrg : RG μ P i b ps) (hv : PV P i b ps) (hP : P i = c9) (hc : c9 < 127) : Met l yX4_go (w1 yX4_go cX4_go 3 (some .boolean)) ({ frames := 1, cells := 0, slots := 0, locals := 25 }) (PcM G μ hs [.ref (gm G 0), .int (nI c9)]) (QiM G (fun r u9 => (fitN c9 ps b = true → r = 1 ∧ RG u9.1 P (i + 1) (prN P (i + 1)).1 (prN P (i + 1)).2) ∧ (fitN c9 ps b = false → r = 0) ∧ KF μ u9)) 0 0 (aM G) := by
  have hb3 := hv.2.1
  have hps := hv.2.2.1
  rcases ps4 ps with rfl | rfl | rfl | h3
  · skip
    refine met_of [.ref (gm G 0), .int (nI c9)] [(0, .ref (gm G 0)), (1, .int (nI c9))] (by decide) (Nat.le_of_ble_eq_true rfl) rfl ?_
    intro p e s m below meth c hx hb hr hown hml hlocks hW ls hl
    have hG : GW s := hW.2.2.2
    have hS : va_S (aM G) s.heap s.heap [] := va_S.rf
    refine lv_bipush (v := 9) hx hb dX4_go_0 (by decide) ?_
    refine lv_aload_n hx hb dX4_go_2 rfl (lv_at hl 0 rfl) ?_
    refine rd_X4_50 hx hb hown hW dX4_go_3 ?_
    refine lv_eqi (y := nI b) hrg.1 ?_
    refine ln_mul 9 b hx hb rfl rfl dX4_go_6 ?_
    refine lv_istore_n (lv' := [(2, .int (nI (9 * b))), (0, .ref (gm G 0)), (1, .int (nI c9))]) hx hb dX4_go_7 rfl hl (by decide) rfl (fun ls hl => ?_)
    refine lv_aload_n hx hb dX4_go_8 rfl (lv_at hl 1 rfl) ?_
    refine rd_X4_53 hx hb hown hW dX4_go_9 ?_
    refine lv_eqi (y := 0) hrg.2.1 ?_
    refine lv_if_ne (tgt := 44) hx hb dX4_go_12 (by decide) (fun c_12 => ?_) (fun c_12 => ?_)
    · skip
      exact absurd (by decide) c_12
    · skip
      refine lv_aload_n hx hb dX4_go_15 rfl (lv_at hl 1 rfl) ?_
      refine rd_X4_13 hx hb hown hW dX4_go_16 ?_
      refine lv_iload_n hx hb dX4_go_19 rfl (lv_at hl 0 rfl) ?_
      refine lv_iload_n hx hb dX4_go_20 rfl (lv_at hl 2 rfl) ?_
      refine cs_i (q := 660) [.int (nI c9)] hx hb hml hown hG v_X4_kindBy (by decide +kernel) (c_X4_kindBy l c9 (by omega)) (preT _) rfl hl.1 (Nat.le_of_ble_eq_true rfl) dX4_go_21 ⟨rfl, rfl, Nat.le_of_ble_eq_true rfl, Nat.le_of_ble_eq_true rfl⟩ ⟨Nat.le_of_ble_eq_true rfl, Nat.le_of_ble_eq_true rfl⟩ ?_
      refine as_M (k := 9 * b) 2 hx hb hW hS rfl (show _ < 36 by omega) dX4_go_24 (fun H locs hW hS => ?_)
      obtain ⟨μ1, hμ1⟩ : ∃ z, z = up2 μ 2 (9 * b) (oN (kdN c9)) := ⟨_, rfl⟩
      rw [← hμ1] at hW
      refine lv_aload_n hx hb dX4_go_25 rfl (lv_at hl 1 rfl) ?_
      refine lv_iconst (v := 1) hx hb dX4_go_26 (by decide) ?_
      refine wr_X4_53 hx hb hown hW hS dX4_go_27 (fun H locs hW hS => ?_)
      obtain ⟨μ2, hμ2⟩ : ∃ z, z = up2 μ1 (0) 4 1 := ⟨_, rfl⟩
      rw [← hμ2] at hW
      refine lv_iload_n hx hb dX4_go_30 rfl (lv_at hl 2 rfl) ?_
      refine cs_i (q := 660) [.int (nI c9)] hx hb hml hown hG v_X4_kindBy (by decide +kernel) (c_X4_kindBy l c9 (by omega)) (preT _) rfl hl.1 (Nat.le_of_ble_eq_true rfl) dX4_go_31 ⟨rfl, rfl, Nat.le_of_ble_eq_true rfl, Nat.le_of_ble_eq_true rfl⟩ ⟨Nat.le_of_ble_eq_true rfl, Nat.le_of_ble_eq_true rfl⟩ ?_
      refine lv_iconst (v := (-1)) hx hb dX4_go_34 (by decide) ?_
      refine lv_icmp_eq (tgt := 42) hx hb dX4_go_35 (by decide) (fun c_35 => ?_) (fun c_35 => ?_)
      · skip
        refine lv_iconst (v := 0) hx hb dX4_go_42 (by decide) ?_
        exact W.zret (v := 0) (ty := .boolean) hx hb hr rfl (fun t9 ht9 hW9 => ⟨⟨_, (μ2, hs), rfl, ⟨fun z => absurd (fit_0 z) (fun z => absurd c_35 (by rw [oN_y (by omega)]; exact nI_nm1 (by omega))), fun _ => rfl, (by subst hμ2; subst hμ1; exact KF.rf.u2.u4)⟩, (by have h8 := hW.1; rw [← ht9] at h8; exact h8)⟩, hS.F ht9⟩) hS.2.2 dX4_go_43
      · skip
        refine lv_iconst (v := 1) hx hb dX4_go_38 (by decide) ?_
        refine lv_goto (tgt := 43) hx hb dX4_go_39 (by decide) ?_
        exact W.zret (v := 1) (ty := .boolean) hx hb hr rfl (fun t9 ht9 hW9 => ⟨⟨_, (μ2, hs), rfl, ⟨fun z => ⟨rfl, (by have hk5 := fit_0 z; have h4 : c9 ≠ 44 := (fun y => by subst y; exact k44 hk5); rw [oN_y (by omega)] at hμ1; subst hμ2; subst hμ1; rw [prN_n hv.1 (by rw [hP]; exact h4), ← hP]; exact hrg.kind hv (by rw [hP]; exact h4))⟩, fun z => absurd z (by rw [show fitN c9 0 b = true from decide_eq_true (by rcases kd_9 c9 with y | y; exact y; exact absurd (oN_9 y) c_35)]; decide), (by subst hμ2; subst hμ1; exact KF.rf.u2.u4)⟩, (by have h8 := hW.1; rw [← ht9] at h8; exact h8)⟩, hS.F ht9⟩) hS.2.2 dX4_go_43
  · skip
    refine met_of [.ref (gm G 0), .int (nI c9)] [(0, .ref (gm G 0)), (1, .int (nI c9))] (by decide) (Nat.le_of_ble_eq_true rfl) rfl ?_
    intro p e s m below meth c hx hb hr hown hml hlocks hW ls hl
    have hG : GW s := hW.2.2.2
    have hS : va_S (aM G) s.heap s.heap [] := va_S.rf
    refine lv_bipush (v := 9) hx hb dX4_go_0 (by decide) ?_
    refine lv_aload_n hx hb dX4_go_2 rfl (lv_at hl 0 rfl) ?_
    refine rd_X4_50 hx hb hown hW dX4_go_3 ?_
    refine lv_eqi (y := nI b) hrg.1 ?_
    refine ln_mul 9 b hx hb rfl rfl dX4_go_6 ?_
    refine lv_istore_n (lv' := [(2, .int (nI (9 * b))), (0, .ref (gm G 0)), (1, .int (nI c9))]) hx hb dX4_go_7 rfl hl (by decide) rfl (fun ls hl => ?_)
    refine lv_aload_n hx hb dX4_go_8 rfl (lv_at hl 1 rfl) ?_
    refine rd_X4_53 hx hb hown hW dX4_go_9 ?_
    refine lv_eqi (y := 1) hrg.2.1 ?_
    refine lv_if_ne (tgt := 44) hx hb dX4_go_12 (by decide) (fun c_12 => ?_) (fun c_12 => ?_)
    · skip
      refine lv_aload_n hx hb dX4_go_44 rfl (lv_at hl 1 rfl) ?_
      refine rd_X4_53 hx hb hown hW dX4_go_45 ?_
      refine lv_eqi (y := 1) hrg.2.1 ?_
      refine lv_iconst (v := 1) hx hb dX4_go_48 (by decide) ?_
      refine lv_icmp_ne (tgt := 99) hx hb dX4_go_49 (by decide) (fun c_49 => ?_) (fun c_49 => ?_)
      · skip
        exact absurd (by decide) c_49
      · skip
        refine lv_aload_n hx hb dX4_go_52 rfl (lv_at hl 1 rfl) ?_
        refine rd_X4_13 hx hb hown hW dX4_go_53 ?_
        refine lv_iload_n hx hb dX4_go_56 rfl (lv_at hl 0 rfl) ?_
        refine lv_iconst (v := 1) hx hb dX4_go_57 (by decide) ?_
        refine ln_add (9 * b) 1 hx hb rfl rfl dX4_go_58 ?_
        refine lv_iload_n hx hb dX4_go_59 rfl (lv_at hl 2 rfl) ?_
        refine lv_bipush (v := 97) hx hb dX4_go_60 (by decide) ?_
        refine lv_isub hx hb dX4_go_62 ?_
        refine as_M (k := (9 * b) + 1) 2 hx hb hW hS rfl (show _ < 36 by omega) dX4_go_63 (fun H locs hW hS => ?_)
        obtain ⟨μ3, hμ3⟩ : ∃ z, z = up2 μ 2 ((9 * b) + 1) ((nI c9) - 97) := ⟨_, rfl⟩
        rw [← hμ3] at hW
        refine lv_aload_n hx hb dX4_go_64 rfl (lv_at hl 1 rfl) ?_
        refine rd_X4_13 hx hb hown hW dX4_go_65 ?_
        refine lv_iload_n hx hb dX4_go_68 rfl (lv_at hl 0 rfl) ?_
        refine lv_iconst (v := 2) hx hb dX4_go_69 (by decide) ?_
        refine ln_add (9 * b) 2 hx hb rfl rfl dX4_go_70 ?_
        refine lv_iconst (v := 0) hx hb dX4_go_71 (by decide) ?_
        refine as_M (k := (9 * b) + 2) 2 hx hb hW hS rfl (show _ < 36 by omega) dX4_go_72 (fun H locs hW hS => ?_)
        obtain ⟨μ4, hμ4⟩ : ∃ z, z = up2 μ3 2 ((9 * b) + 2) 0 := ⟨_, rfl⟩
        rw [← hμ4] at hW
        refine lv_aload_n hx hb dX4_go_73 rfl (lv_at hl 1 rfl) ?_
        refine rd_X4_13 hx hb hown hW dX4_go_74 ?_
        refine lv_iload_n hx hb dX4_go_77 rfl (lv_at hl 0 rfl) ?_
        refine lv_iconst (v := 3) hx hb dX4_go_78 (by decide) ?_
        refine ln_add (9 * b) 3 hx hb rfl rfl dX4_go_79 ?_
        refine lv_iconst (v := 0) hx hb dX4_go_80 (by decide) ?_
        refine as_M (k := (9 * b) + 3) 2 hx hb hW hS rfl (show _ < 36 by omega) dX4_go_81 (fun H locs hW hS => ?_)
        obtain ⟨μ5, hμ5⟩ : ∃ z, z = up2 μ4 2 ((9 * b) + 3) 0 := ⟨_, rfl⟩
        rw [← hμ5] at hW
        refine lv_aload_n hx hb dX4_go_82 rfl (lv_at hl 1 rfl) ?_
        refine lv_iconst (v := 2) hx hb dX4_go_83 (by decide) ?_
        refine wr_X4_53 hx hb hown hW hS dX4_go_84 (fun H locs hW hS => ?_)
        obtain ⟨μ6, hμ6⟩ : ∃ z, z = up2 μ5 (0) 4 2 := ⟨_, rfl⟩
        rw [← hμ6] at hW
        refine lv_iload_n hx hb dX4_go_87 rfl (lv_at hl 2 rfl) ?_
        refine lv_i2l hx hb dX4_go_88 rfl ?_
        refine lv_ldc2 (v := 97) hx hb hown (hG.use (i := 663) (by decide +kernel) rfl _) dX4_go_89 ?_
        refine lv_ldc2 (v := 112) hx hb hown (hG.use (i := 664) (by decide +kernel) rfl _) dX4_go_92 ?_
        refine cs_i (q := 641) [.long ((nI c9 : Int32).toInt64), .long 97, .long 112] hx hb hml hown hG v_X4_in (by decide +kernel) (c_X4_in l ((nI c9 : Int32).toInt64) (97) (112)) (preT _) rfl hl.1 (Nat.le_of_ble_eq_true rfl) dX4_go_95 ⟨rfl, rfl, Nat.le_of_ble_eq_true rfl, Nat.le_of_ble_eq_true rfl⟩ ⟨Nat.le_of_ble_eq_true rfl, Nat.le_of_ble_eq_true rfl⟩ ?_
        refine lv_eqi (y := bI (decide (97 ≤ c9 ∧ c9 ≤ 112))) (congrArg bI (@inL_n c9 97 112 (by omega) (by omega) (by omega))) ?_
        exact W.zret (v := bI (decide (97 ≤ c9 ∧ c9 ≤ 112))) (ty := .boolean) hx hb hr (bI_n _) (fun t9 ht9 hW9 => ⟨⟨_, (μ6, hs), rfl, ⟨fun z => (by have hk5 := fit_1 z; have h4 : c9 ≠ 44 := (by omega); refine ⟨by rw [decide_eq_true (by omega)]; rfl, ?_⟩; rw [sub97 hk5.1 (by omega)] at hμ3; subst hμ6; subst hμ5; subst hμ4; subst hμ3; rw [prN_n hv.1 (by rw [hP]; exact h4), ← hP]; exact hrg.place hv (by rw [hP]; exact h4)), fun z => (by rw [decide_eq_false (fun y => absurd z (by rw [show fitN c9 1 b = true from decide_eq_true (by omega)]; decide))]; rfl), (by subst hμ6; subst hμ5; subst hμ4; subst hμ3; exact KF.rf.u2.u2.u2.u4)⟩, (by have h8 := hW.1; rw [← ht9] at h8; exact h8)⟩, hS.F ht9⟩) hS.2.2 dX4_go_98
    · skip
      exact absurd c_12 (by decide)
  · skip
    have hcnt : μ 2 (9 * b + 3) = nI (2 - 2) := ((hrg.2.2.2.2 (by omega)).2.2.2.1).trans (congrArg nI (hv.2.2.2.2.2 (by omega)).2.1)
    rcases Nat.decEq c9 44 with h49 | h44
    · skip
      refine met_of [.ref (gm G 0), .int (nI c9)] [(0, .ref (gm G 0)), (1, .int (nI c9))] (by decide) (Nat.le_of_ble_eq_true rfl) rfl ?_
      intro p e s m below meth c hx hb hr hown hml hlocks hW ls hl
      have hG : GW s := hW.2.2.2
      have hS : va_S (aM G) s.heap s.heap [] := va_S.rf
      refine lv_bipush (v := 9) hx hb dX4_go_0 (by decide) ?_
      refine lv_aload_n hx hb dX4_go_2 rfl (lv_at hl 0 rfl) ?_
      refine rd_X4_50 hx hb hown hW dX4_go_3 ?_
      refine lv_eqi (y := nI b) hrg.1 ?_
      refine ln_mul 9 b hx hb rfl rfl dX4_go_6 ?_
      refine lv_istore_n (lv' := [(2, .int (nI (9 * b))), (0, .ref (gm G 0)), (1, .int (nI c9))]) hx hb dX4_go_7 rfl hl (by decide) rfl (fun ls hl => ?_)
      refine lv_aload_n hx hb dX4_go_8 rfl (lv_at hl 1 rfl) ?_
      refine rd_X4_53 hx hb hown hW dX4_go_9 ?_
      refine lv_eqi (y := 2) hrg.2.1 ?_
      refine lv_if_ne (tgt := 44) hx hb dX4_go_12 (by decide) (fun c_12 => ?_) (fun c_12 => ?_)
      · skip
        refine lv_aload_n hx hb dX4_go_44 rfl (lv_at hl 1 rfl) ?_
        refine rd_X4_53 hx hb hown hW dX4_go_45 ?_
        refine lv_eqi (y := 2) hrg.2.1 ?_
        refine lv_iconst (v := 1) hx hb dX4_go_48 (by decide) ?_
        refine lv_icmp_ne (tgt := 99) hx hb dX4_go_49 (by decide) (fun c_49 => ?_) (fun c_49 => ?_)
        · skip
          refine lv_aload_n hx hb dX4_go_99 rfl (lv_at hl 1 rfl) ?_
          refine rd_X4_53 hx hb hown hW dX4_go_100 ?_
          refine lv_eqi (y := 2) hrg.2.1 ?_
          refine lv_iconst (v := 3) hx hb dX4_go_103 (by decide) ?_
          refine lv_icmp_ne (tgt := 142) hx hb dX4_go_104 (by decide) (fun c_104 => ?_) (fun c_104 => ?_)
          · skip
            skip
            refine lv_iload_n hx hb dX4_go_142 rfl (lv_at hl 2 rfl) ?_
            refine cs_i (q := 665) [.int (nI c9)] hx hb hml hown hG v_X4_stepBy (by decide +kernel) (c_X4_stepBy l c9 (by omega)) (preT _) rfl hl.1 (Nat.le_of_ble_eq_true rfl) dX4_go_143 ⟨rfl, rfl, Nat.le_of_ble_eq_true rfl, Nat.le_of_ble_eq_true rfl⟩ ⟨Nat.le_of_ble_eq_true rfl, Nat.le_of_ble_eq_true rfl⟩ ?_
            refine lv_iconst (v := (-1)) hx hb dX4_go_146 (by decide) ?_
            refine lv_icmp_eq (tgt := 162) hx hb dX4_go_147 (by decide) (fun c_147 => ?_) (fun c_147 => ?_)
            · skip
              refine lv_iconst (v := 0) hx hb dX4_go_162 (by decide) ?_
              exact W.zret (v := 0) (ty := .boolean) hx hb hr rfl (fun t9 ht9 hW9 => ⟨⟨_, (μ, hs), rfl, ⟨fun z => absurd (fit_2 z (by omega) h49) (fun y => absurd c_147 (by rw [oN_y (by omega)]; exact nI_nm1 (by omega))), fun _ => rfl, KF.rf⟩, (by have h8 := hW.1; rw [← ht9] at h8; exact h8)⟩, hS.F ht9⟩) hS.2.2 dX4_go_163
            · skip
              refine lv_aload_n hx hb dX4_go_150 rfl (lv_at hl 1 rfl) ?_
              refine rd_X4_13 hx hb hown hW dX4_go_151 ?_
              refine lv_iload_n hx hb dX4_go_154 rfl (lv_at hl 0 rfl) ?_
              refine lv_iconst (v := 3) hx hb dX4_go_155 (by decide) ?_
              refine ln_add (9 * b) 3 hx hb rfl rfl dX4_go_156 ?_
              refine al_M (k := (9 * b) + 3) 2 hx hb hW rfl (show _ < 36 by omega) dX4_go_157 ?_
              refine lv_eqi (y := 0) hcnt ?_
              refine lv_iconst (v := 5) hx hb dX4_go_158 (by decide) ?_
              refine lv_icmp_ne (tgt := 164) hx hb dX4_go_159 (by decide) (fun c_159 => ?_) (fun c_159 => ?_)
              · skip
                refine lv_aload_n hx hb dX4_go_164 rfl (lv_at hl 1 rfl) ?_
                refine rd_X4_13 hx hb hown hW dX4_go_165 ?_
                refine lv_iload_n hx hb dX4_go_168 rfl (lv_at hl 0 rfl) ?_
                refine lv_iconst (v := 4) hx hb dX4_go_169 (by decide) ?_
                refine ln_add (9 * b) 4 hx hb rfl rfl dX4_go_170 ?_
                refine lv_aload_n hx hb dX4_go_171 rfl (lv_at hl 1 rfl) ?_
                refine rd_X4_13 hx hb hown hW dX4_go_172 ?_
                refine lv_iload_n hx hb dX4_go_175 rfl (lv_at hl 0 rfl) ?_
                refine lv_iconst (v := 3) hx hb dX4_go_176 (by decide) ?_
                refine ln_add (9 * b) 3 hx hb rfl rfl dX4_go_177 ?_
                refine al_M (k := (9 * b) + 3) 2 hx hb hW rfl (show _ < 36 by omega) dX4_go_178 ?_
                refine lv_eqi (y := 0) hcnt ?_
                refine ln_add ((9 * b) + 4) 0 hx hb rfl rfl dX4_go_179 ?_
                refine lv_iload_n hx hb dX4_go_180 rfl (lv_at hl 2 rfl) ?_
                refine cs_i (q := 665) [.int (nI c9)] hx hb hml hown hG v_X4_stepBy (by decide +kernel) (c_X4_stepBy l c9 (by omega)) (preT _) rfl hl.1 (Nat.le_of_ble_eq_true rfl) dX4_go_181 ⟨rfl, rfl, Nat.le_of_ble_eq_true rfl, Nat.le_of_ble_eq_true rfl⟩ ⟨Nat.le_of_ble_eq_true rfl, Nat.le_of_ble_eq_true rfl⟩ ?_
                refine as_M (k := ((9 * b) + 4) + 0) 2 hx hb hW hS rfl (show _ < 36 by omega) dX4_go_184 (fun H locs hW hS => ?_)
                obtain ⟨μ7, hμ7⟩ : ∃ z, z = up2 μ 2 (((9 * b) + 4) + 0) (oN (stN c9)) := ⟨_, rfl⟩
                rw [← hμ7] at hW
                refine lv_aload_n hx hb dX4_go_185 rfl (lv_at hl 1 rfl) ?_
                refine rd_X4_13 hx hb hown hW dX4_go_186 ?_
                refine lv_iload_n hx hb dX4_go_189 rfl (lv_at hl 0 rfl) ?_
                refine lv_iconst (v := 3) hx hb dX4_go_190 (by decide) ?_
                refine ln_add (9 * b) 3 hx hb rfl rfl dX4_go_191 ?_
                refine lv_dup2_11 hx hb dX4_go_192 rfl rfl ?_
                refine al_M (k := (9 * b) + 3) 2 hx hb hW rfl (show _ < 36 by omega) dX4_go_193 ?_
                refine lv_eqi (y := 0) (by rw [hμ7, up2_nf (by omega)]; exact hcnt) ?_
                refine lv_iconst (v := 1) hx hb dX4_go_194 (by decide) ?_
                refine ln_add 0 1 hx hb rfl rfl dX4_go_195 ?_
                refine lv_eqi (y := 1) rfl ?_
                refine as_M (k := (9 * b) + 3) 2 hx hb hW hS rfl (show _ < 36 by omega) dX4_go_196 (fun H locs hW hS => ?_)
                obtain ⟨μ8, hμ8⟩ : ∃ z, z = up2 μ7 2 ((9 * b) + 3) 1 := ⟨_, rfl⟩
                rw [← hμ8] at hW
                refine lv_aload_n hx hb dX4_go_197 rfl (lv_at hl 1 rfl) ?_
                refine lv_iconst (v := 3) hx hb dX4_go_198 (by decide) ?_
                refine wr_X4_53 hx hb hown hW hS dX4_go_199 (fun H locs hW hS => ?_)
                obtain ⟨μ9, hμ9⟩ : ∃ z, z = up2 μ8 (0) 4 3 := ⟨_, rfl⟩
                rw [← hμ9] at hW
                refine lv_iconst (v := 1) hx hb dX4_go_202 (by decide) ?_
                exact W.zret (v := 1) (ty := .boolean) hx hb hr rfl (fun t9 ht9 hW9 => ⟨⟨_, (μ9, hs), rfl, ⟨fun z => ⟨rfl, (by have hk5 := fit_2 z (by omega) h49; rw [oN_y (show stN c9 < 9 by omega)] at hμ7; subst hμ9; subst hμ8; subst hμ7; rw [prN_n hv.1 (by rw [hP]; exact h49), ← hP]; exact hrg.step hv (by omega) (by rw [hP]; exact h49))⟩, fun z => absurd z (by rw [fit_2e (by omega) h49, decide_eq_true (by refine ⟨by omega, ?_⟩; rcases st_9 c9 with y | y; exact y; exact absurd (oN_9 y) c_147)]; decide), (by subst hμ9; subst hμ8; subst hμ7; exact KF.rf.u2.u2.u4)⟩, (by have h8 := hW.1; rw [← ht9] at h8; exact h8)⟩, hS.F ht9⟩) hS.2.2 dX4_go_203
              · skip
                exact absurd c_159 (by decide)
          · skip
            exact absurd c_104 (by decide)
        · skip
          exact absurd c_49 (by decide)
      · skip
        exact absurd c_12 (by decide)
    · skip
      refine met_of [.ref (gm G 0), .int (nI c9)] [(0, .ref (gm G 0)), (1, .int (nI c9))] (by decide) (Nat.le_of_ble_eq_true rfl) rfl ?_
      intro p e s m below meth c hx hb hr hown hml hlocks hW ls hl
      have hG : GW s := hW.2.2.2
      have hS : va_S (aM G) s.heap s.heap [] := va_S.rf
      refine lv_bipush (v := 9) hx hb dX4_go_0 (by decide) ?_
      refine lv_aload_n hx hb dX4_go_2 rfl (lv_at hl 0 rfl) ?_
      refine rd_X4_50 hx hb hown hW dX4_go_3 ?_
      refine lv_eqi (y := nI b) hrg.1 ?_
      refine ln_mul 9 b hx hb rfl rfl dX4_go_6 ?_
      refine lv_istore_n (lv' := [(2, .int (nI (9 * b))), (0, .ref (gm G 0)), (1, .int (nI c9))]) hx hb dX4_go_7 rfl hl (by decide) rfl (fun ls hl => ?_)
      refine lv_aload_n hx hb dX4_go_8 rfl (lv_at hl 1 rfl) ?_
      refine rd_X4_53 hx hb hown hW dX4_go_9 ?_
      refine lv_eqi (y := 2) hrg.2.1 ?_
      refine lv_if_ne (tgt := 44) hx hb dX4_go_12 (by decide) (fun c_12 => ?_) (fun c_12 => ?_)
      · skip
        refine lv_aload_n hx hb dX4_go_44 rfl (lv_at hl 1 rfl) ?_
        refine rd_X4_53 hx hb hown hW dX4_go_45 ?_
        refine lv_eqi (y := 2) hrg.2.1 ?_
        refine lv_iconst (v := 1) hx hb dX4_go_48 (by decide) ?_
        refine lv_icmp_ne (tgt := 99) hx hb dX4_go_49 (by decide) (fun c_49 => ?_) (fun c_49 => ?_)
        · skip
          refine lv_aload_n hx hb dX4_go_99 rfl (lv_at hl 1 rfl) ?_
          refine rd_X4_53 hx hb hown hW dX4_go_100 ?_
          refine lv_eqi (y := 2) hrg.2.1 ?_
          refine lv_iconst (v := 3) hx hb dX4_go_103 (by decide) ?_
          refine lv_icmp_ne (tgt := 142) hx hb dX4_go_104 (by decide) (fun c_104 => ?_) (fun c_104 => ?_)
          · skip
            skip
            refine lv_iload_n hx hb dX4_go_142 rfl (lv_at hl 2 rfl) ?_
            refine cs_i (q := 665) [.int (nI c9)] hx hb hml hown hG v_X4_stepBy (by decide +kernel) (c_X4_stepBy l c9 (by omega)) (preT _) rfl hl.1 (Nat.le_of_ble_eq_true rfl) dX4_go_143 ⟨rfl, rfl, Nat.le_of_ble_eq_true rfl, Nat.le_of_ble_eq_true rfl⟩ ⟨Nat.le_of_ble_eq_true rfl, Nat.le_of_ble_eq_true rfl⟩ ?_
            refine lv_iconst (v := (-1)) hx hb dX4_go_146 (by decide) ?_
            refine lv_icmp_eq (tgt := 162) hx hb dX4_go_147 (by decide) (fun c_147 => ?_) (fun c_147 => ?_)
            · skip
              refine lv_iconst (v := 0) hx hb dX4_go_162 (by decide) ?_
              exact W.zret (v := 0) (ty := .boolean) hx hb hr rfl (fun t9 ht9 hW9 => ⟨⟨_, (μ, hs), rfl, ⟨fun z => absurd (fit_s z h44).1 (by omega), fun _ => rfl, KF.rf⟩, (by have h8 := hW.1; rw [← ht9] at h8; exact h8)⟩, hS.F ht9⟩) hS.2.2 dX4_go_163
            · skip
              exact absurd (by subst h44; rfl) c_147
          · skip
            exact absurd c_104 (by decide)
        · skip
          exact absurd c_49 (by decide)
      · skip
        exact absurd c_12 (by decide)
  · skip
    have hcnt : μ 2 (9 * b + 3) = nI (ps - 2) := ((hrg.2.2.2.2 (by omega)).2.2.2.1).trans (congrArg nI (hv.2.2.2.2.2 (by omega)).2.1)
    skip
    · skip
      refine met_of [.ref (gm G 0), .int (nI c9)] [(0, .ref (gm G 0)), (1, .int (nI c9))] (by decide) (Nat.le_of_ble_eq_true rfl) rfl ?_
      intro p e s m below meth c hx hb hr hown hml hlocks hW ls hl
      have hG : GW s := hW.2.2.2
      have hS : va_S (aM G) s.heap s.heap [] := va_S.rf
      refine lv_bipush (v := 9) hx hb dX4_go_0 (by decide) ?_
      refine lv_aload_n hx hb dX4_go_2 rfl (lv_at hl 0 rfl) ?_
      refine rd_X4_50 hx hb hown hW dX4_go_3 ?_
      refine lv_eqi (y := nI b) hrg.1 ?_
      refine ln_mul 9 b hx hb rfl rfl dX4_go_6 ?_
      refine lv_istore_n (lv' := [(2, .int (nI (9 * b))), (0, .ref (gm G 0)), (1, .int (nI c9))]) hx hb dX4_go_7 rfl hl (by decide) rfl (fun ls hl => ?_)
      refine lv_aload_n hx hb dX4_go_8 rfl (lv_at hl 1 rfl) ?_
      refine rd_X4_53 hx hb hown hW dX4_go_9 ?_
      refine lv_eqi (y := 3) (hrg.2.1.trans (congrArg nI (Nat.min_eq_right h3))) ?_
      refine lv_if_ne (tgt := 44) hx hb dX4_go_12 (by decide) (fun c_12 => ?_) (fun c_12 => ?_)
      · skip
        refine lv_aload_n hx hb dX4_go_44 rfl (lv_at hl 1 rfl) ?_
        refine rd_X4_53 hx hb hown hW dX4_go_45 ?_
        refine lv_eqi (y := 3) (hrg.2.1.trans (congrArg nI (Nat.min_eq_right h3))) ?_
        refine lv_iconst (v := 1) hx hb dX4_go_48 (by decide) ?_
        refine lv_icmp_ne (tgt := 99) hx hb dX4_go_49 (by decide) (fun c_49 => ?_) (fun c_49 => ?_)
        · skip
          refine lv_aload_n hx hb dX4_go_99 rfl (lv_at hl 1 rfl) ?_
          refine rd_X4_53 hx hb hown hW dX4_go_100 ?_
          refine lv_eqi (y := 3) (hrg.2.1.trans (congrArg nI (Nat.min_eq_right h3))) ?_
          refine lv_iconst (v := 3) hx hb dX4_go_103 (by decide) ?_
          refine lv_icmp_ne (tgt := 142) hx hb dX4_go_104 (by decide) (fun c_104 => ?_) (fun c_104 => ?_)
          · skip
            exact absurd (by decide) c_104
          · skip
            refine lv_iload_n hx hb dX4_go_107 rfl (lv_at hl 2 rfl) ?_
            refine lv_bipush (v := 44) hx hb dX4_go_108 (by decide) ?_
            refine lv_icmp_ne (tgt := 142) hx hb dX4_go_110 (by decide) (fun c_110 => ?_) (fun c_110 => ?_)
            · skip
              have q_110 := tN_ne c9 44 c_110 rfl rfl (by omega) (by omega)
              have h49 : c9 ≠ 44 := q_110
              refine lv_iload_n hx hb dX4_go_142 rfl (lv_at hl 2 rfl) ?_
              refine cs_i (q := 665) [.int (nI c9)] hx hb hml hown hG v_X4_stepBy (by decide +kernel) (c_X4_stepBy l c9 (by omega)) (preT _) rfl hl.1 (Nat.le_of_ble_eq_true rfl) dX4_go_143 ⟨rfl, rfl, Nat.le_of_ble_eq_true rfl, Nat.le_of_ble_eq_true rfl⟩ ⟨Nat.le_of_ble_eq_true rfl, Nat.le_of_ble_eq_true rfl⟩ ?_
              refine lv_iconst (v := (-1)) hx hb dX4_go_146 (by decide) ?_
              refine lv_icmp_eq (tgt := 162) hx hb dX4_go_147 (by decide) (fun c_147 => ?_) (fun c_147 => ?_)
              · skip
                refine lv_iconst (v := 0) hx hb dX4_go_162 (by decide) ?_
                exact W.zret (v := 0) (ty := .boolean) hx hb hr rfl (fun t9 ht9 hW9 => ⟨⟨_, (μ, hs), rfl, ⟨fun z => absurd (fit_2 z (by omega) h49) (fun y => absurd c_147 (by rw [oN_y (by omega)]; exact nI_nm1 (by omega))), fun _ => rfl, KF.rf⟩, (by have h8 := hW.1; rw [← ht9] at h8; exact h8)⟩, hS.F ht9⟩) hS.2.2 dX4_go_163
              · skip
                refine lv_aload_n hx hb dX4_go_150 rfl (lv_at hl 1 rfl) ?_
                refine rd_X4_13 hx hb hown hW dX4_go_151 ?_
                refine lv_iload_n hx hb dX4_go_154 rfl (lv_at hl 0 rfl) ?_
                refine lv_iconst (v := 3) hx hb dX4_go_155 (by decide) ?_
                refine ln_add (9 * b) 3 hx hb rfl rfl dX4_go_156 ?_
                refine al_M (k := (9 * b) + 3) 2 hx hb hW rfl (show _ < 36 by omega) dX4_go_157 ?_
                refine lv_eqi (y := nI (ps - 2)) hcnt ?_
                refine lv_iconst (v := 5) hx hb dX4_go_158 (by decide) ?_
                refine lv_icmp_ne (tgt := 164) hx hb dX4_go_159 (by decide) (fun c_159 => ?_) (fun c_159 => ?_)
                · skip
                  have q_159 := tN_ne (ps - 2) 5 c_159 rfl rfl (by omega) (by omega)
                  refine lv_aload_n hx hb dX4_go_164 rfl (lv_at hl 1 rfl) ?_
                  refine rd_X4_13 hx hb hown hW dX4_go_165 ?_
                  refine lv_iload_n hx hb dX4_go_168 rfl (lv_at hl 0 rfl) ?_
                  refine lv_iconst (v := 4) hx hb dX4_go_169 (by decide) ?_
                  refine ln_add (9 * b) 4 hx hb rfl rfl dX4_go_170 ?_
                  refine lv_aload_n hx hb dX4_go_171 rfl (lv_at hl 1 rfl) ?_
                  refine rd_X4_13 hx hb hown hW dX4_go_172 ?_
                  refine lv_iload_n hx hb dX4_go_175 rfl (lv_at hl 0 rfl) ?_
                  refine lv_iconst (v := 3) hx hb dX4_go_176 (by decide) ?_
                  refine ln_add (9 * b) 3 hx hb rfl rfl dX4_go_177 ?_
                  refine al_M (k := (9 * b) + 3) 2 hx hb hW rfl (show _ < 36 by omega) dX4_go_178 ?_
                  refine lv_eqi (y := nI (ps - 2)) hcnt ?_
                  refine ln_add ((9 * b) + 4) (ps - 2) hx hb rfl rfl dX4_go_179 ?_
                  refine lv_iload_n hx hb dX4_go_180 rfl (lv_at hl 2 rfl) ?_
                  refine cs_i (q := 665) [.int (nI c9)] hx hb hml hown hG v_X4_stepBy (by decide +kernel) (c_X4_stepBy l c9 (by omega)) (preT _) rfl hl.1 (Nat.le_of_ble_eq_true rfl) dX4_go_181 ⟨rfl, rfl, Nat.le_of_ble_eq_true rfl, Nat.le_of_ble_eq_true rfl⟩ ⟨Nat.le_of_ble_eq_true rfl, Nat.le_of_ble_eq_true rfl⟩ ?_
                  refine as_M (k := ((9 * b) + 4) + (ps - 2)) 2 hx hb hW hS rfl (show _ < 36 by omega) dX4_go_184 (fun H locs hW hS => ?_)
                  obtain ⟨μ10, hμ10⟩ : ∃ z, z = up2 μ 2 (((9 * b) + 4) + (ps - 2)) (oN (stN c9)) := ⟨_, rfl⟩
                  rw [← hμ10] at hW
                  refine lv_aload_n hx hb dX4_go_185 rfl (lv_at hl 1 rfl) ?_
                  refine rd_X4_13 hx hb hown hW dX4_go_186 ?_
                  refine lv_iload_n hx hb dX4_go_189 rfl (lv_at hl 0 rfl) ?_
                  refine lv_iconst (v := 3) hx hb dX4_go_190 (by decide) ?_
                  refine ln_add (9 * b) 3 hx hb rfl rfl dX4_go_191 ?_
                  refine lv_dup2_11 hx hb dX4_go_192 rfl rfl ?_
                  refine al_M (k := (9 * b) + 3) 2 hx hb hW rfl (show _ < 36 by omega) dX4_go_193 ?_
                  refine lv_eqi (y := nI (ps - 2)) (by rw [hμ10, up2_nf (by omega)]; exact hcnt) ?_
                  refine lv_iconst (v := 1) hx hb dX4_go_194 (by decide) ?_
                  refine ln_add (ps - 2) 1 hx hb rfl rfl dX4_go_195 ?_
                  refine as_M (k := (9 * b) + 3) 2 hx hb hW hS rfl (show _ < 36 by omega) dX4_go_196 (fun H locs hW hS => ?_)
                  obtain ⟨μ11, hμ11⟩ : ∃ z, z = up2 μ10 2 ((9 * b) + 3) (nI ((ps - 2) + 1)) := ⟨_, rfl⟩
                  rw [← hμ11] at hW
                  refine lv_aload_n hx hb dX4_go_197 rfl (lv_at hl 1 rfl) ?_
                  refine lv_iconst (v := 3) hx hb dX4_go_198 (by decide) ?_
                  refine wr_X4_53 hx hb hown hW hS dX4_go_199 (fun H locs hW hS => ?_)
                  obtain ⟨μ12, hμ12⟩ : ∃ z, z = up2 μ11 (0) 4 3 := ⟨_, rfl⟩
                  rw [← hμ12] at hW
                  refine lv_iconst (v := 1) hx hb dX4_go_202 (by decide) ?_
                  exact W.zret (v := 1) (ty := .boolean) hx hb hr rfl (fun t9 ht9 hW9 => ⟨⟨_, (μ12, hs), rfl, ⟨fun z => ⟨rfl, (by have hk5 := fit_2 z (by omega) h49; rw [oN_y (show stN c9 < 9 by omega)] at hμ10; subst hμ12; subst hμ11; subst hμ10; rw [prN_n hv.1 (by rw [hP]; exact h49), ← hP]; exact hrg.step hv (by omega) (by rw [hP]; exact h49))⟩, fun z => absurd z (by rw [fit_2e (by omega) h49, decide_eq_true (by refine ⟨by omega, ?_⟩; rcases st_9 c9 with y | y; exact y; exact absurd (oN_9 y) c_147)]; decide), (by subst hμ12; subst hμ11; subst hμ10; exact KF.rf.u2.u2.u4)⟩, (by have h8 := hW.1; rw [← ht9] at h8; exact h8)⟩, hS.F ht9⟩) hS.2.2 dX4_go_203
                · skip
                  have q_159 := tN_eq (ps - 2) 5 c_159 rfl rfl (by omega) (by omega)
                  refine lv_iconst (v := 0) hx hb dX4_go_162 (by decide) ?_
                  exact W.zret (v := 0) (ty := .boolean) hx hb hr rfl (fun t9 ht9 hW9 => ⟨⟨_, (μ, hs), rfl, ⟨fun z => absurd (fit_2 z (by omega) h49) (by omega), fun _ => rfl, KF.rf⟩, (by have h8 := hW.1; rw [← ht9] at h8; exact h8)⟩, hS.F ht9⟩) hS.2.2 dX4_go_163
            · skip
              have q_110 := tN_eq c9 44 c_110 rfl rfl (by omega) (by omega)
              refine lv_aload_n hx hb dX4_go_113 rfl (lv_at hl 1 rfl) ?_
              refine lv_dup hx hb dX4_go_114 rfl ?_
              refine rd_X4_50 hx hb hown hW dX4_go_115 ?_
              refine lv_eqi (y := nI b) hrg.1 ?_
              refine lv_iconst (v := 1) hx hb dX4_go_118 (by decide) ?_
              refine ln_add b 1 hx hb rfl rfl dX4_go_119 ?_
              refine wr_X4_50 hx hb hown hW hS dX4_go_120 (fun H locs hW hS => ?_)
              obtain ⟨μ13, hμ13⟩ : ∃ z, z = up2 μ (0) 3 (nI (b + 1)) := ⟨_, rfl⟩
              rw [← hμ13] at hW
              refine lv_aload_n hx hb dX4_go_123 rfl (lv_at hl 1 rfl) ?_
              refine lv_iconst (v := 0) hx hb dX4_go_124 (by decide) ?_
              refine wr_X4_53 hx hb hown hW hS dX4_go_125 (fun H locs hW hS => ?_)
              obtain ⟨μ14, hμ14⟩ : ∃ z, z = up2 μ13 (0) 4 0 := ⟨_, rfl⟩
              rw [← hμ14] at hW
              refine lv_aload_n hx hb dX4_go_128 rfl (lv_at hl 1 rfl) ?_
              refine rd_X4_50 hx hb hown hW dX4_go_129 ?_
              refine lv_eqi (y := nI (b + 1)) (by rw [hμ14, up2_nf (by decide), hμ13, up2_eq]) ?_
              refine lv_iconst (v := 4) hx hb dX4_go_132 (by decide) ?_
              refine lv_icmp_ge (tgt := 140) hx hb dX4_go_133 (by decide) (fun c_133 => ?_) (fun c_133 => ?_)
              · skip
                have q_133 := tN_le 4 (b + 1) c_133 rfl rfl (by omega) (by omega)
                refine lv_iconst (v := 0) hx hb dX4_go_140 (by decide) ?_
                exact W.zret (v := 0) (ty := .boolean) hx hb hr rfl (fun t9 ht9 hW9 => ⟨⟨_, (μ14, hs), rfl, ⟨fun z => absurd (fit_s z q_110).2 (by omega), fun _ => rfl, (by subst hμ14; subst hμ13; exact KF.rf.u3.u4)⟩, (by have h8 := hW.1; rw [← ht9] at h8; exact h8)⟩, hS.F ht9⟩) hS.2.2 dX4_go_141
              · skip
                have q_133 := tN_nle 4 (b + 1) c_133 rfl rfl (by omega) (by omega)
                refine lv_iconst (v := 1) hx hb dX4_go_136 (by decide) ?_
                refine lv_goto (tgt := 141) hx hb dX4_go_137 (by decide) ?_
                exact W.zret (v := 1) (ty := .boolean) hx hb hr rfl (fun t9 ht9 hW9 => ⟨⟨_, (μ14, hs), rfl, ⟨fun z => ⟨rfl, (by subst hμ14; subst hμ13; rw [prN_s hv.1 (by rw [hP]; exact q_110)]; exact hrg.sep hv (by omega) (by rw [hP]; exact q_110))⟩, fun z => absurd z (by rw [q_110, fit_se (by omega), decide_eq_true (by omega)]; decide), (by subst hμ14; subst hμ13; exact KF.rf.u3.u4)⟩, (by have h8 := hW.1; rw [← ht9] at h8; exact h8)⟩, hS.F ht9⟩) hS.2.2 dX4_go_141
        · skip
          exact absurd c_49 (by decide)
      · skip
        exact absurd c_12 (by decide)
