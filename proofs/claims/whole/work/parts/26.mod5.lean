theorem RM.keep {μ μ' : St} {n : Nat} {S : Nat → Sk} {q : Nat} {V : Nat → Nat} {ch : Int32} (hg : RM μ n S q V ch) (h5 : μ' 0 5 = μ 0 5) (h6 : μ' 0 6 = μ 0 6) (h10 : μ' 0 10 = μ 0 10) (h3 : μ' 3 = μ 3) (h9 : μ' 5 = μ 5) : RM μ' n S q V ch := by
  unfold RM RR at *
  rw [h5, h6, h10, h3, h9]; exact hg
/-- only scratch cells have changed -/
def KP (μ : St) (hs : Int64) (u : StM) : Prop := u.2 = hs ∧ ∀ a, a ≠ 4 → a ≠ 6 → u.1 a = μ a
theorem KP.rm {μ : St} {hs : Int64} {u : StM} {n : Nat} {S : Nat → Sk} {q : Nat} {V : Nat → Nat} {ch : Int32} (h : KP μ hs u) (hg : RM μ n S q V ch) : RM u.1 n S q V ch :=
  hg.keep (congrFun (h.2 0 (by omega) (by omega)) 5) (congrFun (h.2 0 (by omega) (by omega)) 6) (congrFun (h.2 0 (by omega) (by omega)) 10) (h.2 3 (by omega) (by omega)) (h.2 5 (by omega) (by omega))
theorem KP.rf {μ : St} {hs : Int64} : KP μ hs (μ, hs) := ⟨rfl, fun _ _ _ => rfl⟩
theorem KP.up {μ : St} {hs : Int64} {u : StM} {i j : Nat} {v : Int32} (h : KP μ hs u) (hi : i = 4 ∨ i = 6) : KP μ hs (up2 u.1 i j v, u.2) := ⟨h.1, fun a h4 h6 => (up2_ne (show a ≠ i by omega)).trans (h.2 a h4 h6)⟩
theorem KP.tr {μ μ2 : St} {hs hs2 : Int64} {u : StM} (h : KP μ hs (μ2, hs2)) (k : KP μ2 hs2 u) : KP μ hs u := ⟨k.1.trans h.1, fun a h4 h6 => (k.2 a h4 h6).trans (h.2 a h4 h6)⟩
theorem grN_c {P Q : Nat → Nat} {g : Nat} : ∀ i, (∀ j, j < i → P j = Q j) → grN P g i = grN Q g i := by
  intro i
  induction i with
  | zero => intro _; rfl
  | succ i ih =>
    intro h
    unfold grN
    rw [ih (fun j hj => h j (by omega)), h i (by omega)]
theorem all1 : ∀ n, n < 7 → ∀ i, i < n → (2 ^ n - 1) / 2 ^ i % 2 = 1 := by decide +kernel
theorem gq_y {P : Nat → Nat} {g i : Nat} (h : g / 2 ^ i % 2 = 1) : grN P g i ||| P i = grN P g (i + 1) := by rw [grN, if_pos h]
theorem gq_n0 {P : Nat → Nat} {g i : Nat} (h : g / 2 ^ i % 2 ≠ 1) : grN P g i ||| 0 = grN P g (i + 1) := by rw [grN, if_neg h, Nat.or_zero]
def rwN (M : Nat → Nat → Nat) (b : Nat) : Nat → Nat
  | 0 => 0
  | a + 1 => rwN M b a + M b a
def trN (M : Nat → Nat → Nat) : Nat → Nat
  | 0 => 0
  | b + 1 => trN M b + rwN M b b
theorem tr_ou {M : Nat → Nat → Nat} (hs : ∀ a b, M a b = M b a) {n : Nat} (hn : n ≤ 6) : trN M n = ouN M n n := by
  have h7 : n = 0 ∨ n = 1 ∨ n = 2 ∨ n = 3 ∨ n = 4 ∨ n = 5 ∨ n = 6 := by omega
  rcases h7 with rfl | rfl | rfl | rfl | rfl | rfl | rfl <;>
    simp only [trN, rwN, ouN, inN, hs 1 0, hs 2 0, hs 3 0, hs 4 0, hs 5 0, hs 2 1, hs 3 1, hs 4 1, hs 5 1, hs 3 2, hs 4 2, hs 5 2, hs 4 3, hs 5 3, hs 5 4, Nat.zero_add, Nat.add_zero, Nat.reduceAdd, Nat.reduceSub] <;> omega
theorem meetN_s {f g : Nat → Nat} : ∀ t, meetN f g t = meetN g f t := by
  intro t
  induction t with
  | zero => rfl
  | succ t ih =>
    unfold meetN
    rw [ih]
    by_cases h : f t = g t
    · rw [if_pos h, if_pos h.symm]
    · rw [if_neg h, if_neg (fun z => h z.symm)]
theorem meL_s {S : Nat → Sk} {L : Nat → Nat} (a b : Nat) : meL S L a b = meL S L b a := meetN_s 31
/-- the reference's page -/
def RP (μ : St) (pn : Nat) (P : Nat → Nat) : Prop := (μ 0 1 = nI pn ∧ pn ≤ 32) ∧ ∀ i, i < pn → μ 1 i = nI (P i) ∧ 1 ≤ P i ∧ P i ≤ 126
theorem fill_s {μ : St} {c9 k : Nat} {f : Nat → Nat} (h : ∀ i, i < k → μ c9 i = nI (f i)) : ∀ i, i < k + 1 → up2 μ c9 k (nI (f k)) c9 i = nI (f i) := by
  intro i hi
  by_cases e9 : i = k
  · subst e9; rw [up2_eq]
  · rw [up2_nf e9]; exact h i (by omega)
/-! the most that are together, as the reference counts them -/
def ctN (C : Nat) (f : Nat → Nat) (P : Nat) : Nat → Nat
  | 0 => 0
  | i + 1 => ctN C f P i + (if C / 2 ^ i % 2 = 1 ∧ f i = P then 1 else 0)
def wsN (C : Nat) (f : Nat → Nat) : Nat → Nat
  | 0 => 0
  | k + 1 => if wsN C f k < ctN C f (f k) (k + 1) then ctN C f (f k) (k + 1) else wsN C f k
theorem ct_tg {C : Nat} {f : Nat → Nat} {k : Nat} : ∀ i, tgN C f k i = ctN C f (f k) i := by
  intro i
  induction i with
  | zero => rfl
  | succ i ih => unfold tgN ctN; rw [ih]
theorem ct_mono {C : Nat} {f : Nat → Nat} {P a : Nat} : ∀ b, a ≤ b → ctN C f P a ≤ ctN C f P b := by
  intro b
  induction b with
  | zero => intro h; have : a = 0 := by omega
            subst this; exact Nat.le_refl _
  | succ b ih =>
    intro h
    by_cases e9 : a = b + 1
    · subst e9; exact Nat.le_refl _
    · have := ih (by omega)
      show _ ≤ ctN C f P b + _
      omega
theorem ct_le {C : Nat} {f : Nat → Nat} {P : Nat} : ∀ k, ctN C f P k ≤ k := by
  intro k
  induction k with
  | zero => exact Nat.le_refl _
  | succ k ih => unfold ctN; split <;> omega
theorem ct_last {C : Nat} {f : Nat → Nat} {P : Nat} : ∀ k, 0 < ctN C f P k → ∃ j, j < k ∧ C / 2 ^ j % 2 = 1 ∧ f j = P ∧ ctN C f P k = ctN C f P (j + 1) := by
  intro k
  induction k with
  | zero => intro h; exact absurd h (Nat.lt_irrefl 0)
  | succ k ih =>
    intro h
    by_cases hq : C / 2 ^ k % 2 = 1 ∧ f k = P
    · exact ⟨k, by omega, hq.1, hq.2, rfl⟩
    · have e9 : ctN C f P (k + 1) = ctN C f P k := by
        show ctN C f P k + _ = _
        rw [if_neg hq, Nat.add_zero]
      rw [e9] at h
      obtain ⟨j, h1, h2, h3, h4⟩ := ih h
      exact ⟨j, by omega, h2, h3, e9.trans h4⟩
theorem ws_le {C : Nat} {f : Nat → Nat} {X : Nat} : ∀ k, (∀ j, j < k → ctN C f (f j) (j + 1) ≤ X) → wsN C f k ≤ X := by
  intro k
  induction k with
  | zero => intro _; exact Nat.zero_le _
  | succ k ih =>
    intro h
    unfold wsN
    split
    · exact h k (by omega)
    · exact ih (fun j hj => h j (by omega))
theorem ws_ge {C : Nat} {f : Nat → Nat} {j : Nat} : ∀ k, j < k → ctN C f (f j) (j + 1) ≤ wsN C f k := by
  intro k
  induction k with
  | zero => intro h; omega
  | succ k ih =>
    intro h
    by_cases e9 : j = k
    · subst e9; unfold wsN; split <;> omega
    · have := ih (by omega)
      unfold wsN; split <;> omega
theorem ml_ge {C : Nat} {f : Nat → Nat} {n i : Nat} (hb : C / 2 ^ i % 2 = 1) : ∀ k, i < k → tgN C f i n ≤ mlN C f n k := by
  intro k
  induction k with
  | zero => intro h; omega
  | succ k ih =>
    intro h
    by_cases e9 : i = k
    · subst e9; unfold mlN; rw [if_pos hb]; exact Nat.le_max_right _ _
    · have := ih (by omega)
      unfold mlN
      split
      · exact Nat.le_trans this (Nat.le_max_left _ _)
      · exact this
theorem ml_le2 {C : Nat} {f : Nat → Nat} {n X : Nat} : ∀ k, (∀ i, i < k → C / 2 ^ i % 2 = 1 → tgN C f i n ≤ X) → mlN C f n k ≤ X := by
  intro k
  induction k with
  | zero => intro _; exact Nat.zero_le _
  | succ k ih =>
    intro h
    unfold mlN
    split
    · rename_i hb
      exact Nat.max_le.mpr ⟨ih (fun i hi => h i (by omega)), h k (by omega) hb⟩
    · exact ih (fun i hi => h i (by omega))
theorem ws_ml {C : Nat} {f : Nat → Nat} {n : Nat} : wsN C f n = mlN C f n n := by
  apply Nat.le_antisymm
  · apply ws_le
    intro j hj
    rcases Nat.eq_zero_or_pos (ctN C f (f j) (j + 1)) with z | z
    · omega
    · obtain ⟨i, h1, h2, h3, h4⟩ := ct_last _ z
      have h5 := ml_ge (f := f) (n := n) h2 n (by omega)
      rw [ct_tg, h3] at h5
      have h6 := ct_mono (C := C) (f := f) (P := f j) (a := j + 1) n (by omega)
      omega
  · apply ml_le2
    intro i hi hb
    rw [ct_tg]
    rcases Nat.eq_zero_or_pos (ctN C f (f i) n) with z | z
    · omega
    · obtain ⟨j, h1, h2, h3, h4⟩ := ct_last _ z
      have h5 := ws_ge (C := C) (f := f) (j := j) n h1
      rw [h3] at h5
      omega
theorem ws_n6 {C : Nat} {f : Nat → Nat} : ∀ k, wsN C f k ≤ k := by
  intro k
  exact ws_le k (fun j hj => Nat.le_trans (ct_le _) (by omega))
theorem ws_y {C : Nat} {f : Nat → Nat} {k : Nat} (h : wsN C f k < ctN C f (f k) (k + 1)) : ctN C f (f k) (k + 1) = wsN C f (k + 1) := by rw [wsN, if_pos h]
theorem ws_n {C : Nat} {f : Nat → Nat} {k : Nat} (h : ctN C f (f k) (k + 1) ≤ wsN C f k) : wsN C f k = wsN C f (k + 1) := by rw [wsN, if_neg (by omega)]
theorem ct_step {μ : St} {C k : Nat} {f : Nat → Nat} (h : ∀ y9, y9 < 16 → μ 6 y9 = nI (ctN C f y9 k)) : ∀ y9, y9 < 16 → up2 μ 6 (f k) (nI (ctN C f (f k) k + C / 2 ^ k % 2)) 6 y9 = nI (ctN C f y9 (k + 1)) := by
  intro y9 hy
  have h2 : C / 2 ^ k % 2 = 0 ∨ C / 2 ^ k % 2 = 1 := by omega
  by_cases e9 : y9 = f k
  · subst e9
    rw [up2_eq]
    show _ = nI (ctN C f (f k) k + _)
    rcases h2 with h2 | h2
    · rw [h2, if_neg (fun z => absurd z.1 (by decide))]
    · rw [h2, if_pos ⟨rfl, rfl⟩]
  · rw [up2_nf e9, h y9 hy]
    show _ = nI (ctN C f y9 k + _)
    rw [if_neg (fun z => e9 z.2.symm), Nat.add_zero]
def lbI (w : Nat → Nat) : Nat → Int32
  | 0 => -1
  | t + 1 => nI (lkN w t).1
def llN (w : Nat → Nat) : Nat → Nat
  | 0 => 7
  | t + 1 => (lkN w t).2
theorem lb_y {w : Nat → Nat} {t : Nat} (h : w t < llN w t) : nI t = lbI w (t + 1) ∧ w t = llN w (t + 1) := by
  cases t with
  | zero => exact ⟨rfl, rfl⟩
  | succ t =>
    have e9 := lk_y (w := w) (t := t) h
    exact ⟨by rw [lbI, e9], by rw [llN, e9]⟩
theorem lb_n {w : Nat → Nat} {t : Nat} (h : llN w t ≤ w t) (h6 : w t ≤ 6) : lbI w t = lbI w (t + 1) ∧ llN w t = llN w (t + 1) := by
  cases t with
  | zero => exact absurd h (by show ¬ 7 ≤ _; omega)
  | succ t =>
    have e9 := lk_n (w := w) (t := t) h
    exact ⟨by rw [lbI, lbI, e9], by rw [llN, llN, e9]⟩
theorem ll_le {w : Nat → Nat} (h : ∀ t, w t ≤ 6) : ∀ t, llN w t ≤ 7 := by
  intro t
  cases t with
  | zero => exact Nat.le_refl _
  | succ t => exact Nat.le_trans (lk_le h t) (by omega)
def ifO (C : Nat) (a : Int32) : Int32 := if C = 0 then -1 else a
set_option maxHeartbeats 4000000 in
set_option maxRecDepth 100000 in
theorem c_X4_stepsAll (l : Launch) (G : Gam) (μ : St) (hs : Int64) (n : Nat) (S : Nat → Sk) (q : Nat) (V : Nat → Nat) (ch : Int32) (hg : RM μ n S q V ch) : Met l yX4_stepsAll (w1 yX4_stepsAll cX4_stepsAll 3 (some .int)) ({ frames := 0, cells := 0, slots := 0, locals := 0 }) (PcM G μ hs [.ref (gm G 0)]) (vp_Si (fun r => r = nI (sumN (fun k => S k 3) n))) 0 0 (fun _ => False) := by
  refine met_of [.ref (gm G 0)] [(0, .ref (gm G 0))] (by decide) (Nat.le_of_ble_eq_true rfl) rfl ?_
  intro p e s m below meth c hx hb hr hown hml hlocks hW ls hl
  have hG : GW s := hW.2.2.2
  have hn6 := hg.1.2
  have hq8 := hg.2.2.1.2
  refine lv_iconst (v := 0) hx hb dX4_stepsAll_0 (by decide) ?_
  refine lv_istore_n (lv' := [(1, .int 0), (0, .ref (gm G 0))]) hx hb dX4_stepsAll_1 rfl hl (by decide) rfl (fun ls hl => ?_)
  refine lv_iconst (v := 0) hx hb dX4_stepsAll_2 (by decide) ?_
  refine lv_istore_n (lv' := [(2, .int 0), (1, .int 0), (0, .ref (gm G 0))]) hx hb dX4_stepsAll_3 rfl hl (by decide) rfl (fun ls hl => ?_)
  have loop_4 : ∀ (N9 : Nat) (i : Nat) (so : Int32) (io : Int32), n - i < N9 → so = nI (sumN (fun k => S k 3) i) → io = nI i → i ≤ n → ∀ ls : Array Slot, lv_has ls 3 [(1, .int so), (2, .int io), (0, .ref (gm G 0))] → W p l e (headSpec (w1 yX4_stepsAll cX4_stepsAll 3 (some .int)) ({ frames := 0, cells := 0, slots := 0, locals := 0 })).room s m [.ref (gm G 0)].toArray below meth c s.heap [] 0 0 (MQ below (vp_Si (fun r => r = nI (sumN (fun k => S k 3) n))) [.ref (gm G 0)].toArray s 0 0 (fun _ => False)) (F0 m 4 ls []) := by
    intro N9
    induction N9 with
    | zero => intro i so io hN; exact absurd hN (Nat.not_lt_zero _)
    | succ N9 ih =>
      intro i so io hN e_so e_io hi0_4 ls hl
      subst e_so
      subst e_io
      have ih_4 := ih
      refine lv_iload_n hx hb dX4_stepsAll_4 rfl (lv_at hl 1 rfl) ?_
      refine lv_aload_n hx hb dX4_stepsAll_5 rfl (lv_at hl 2 rfl) ?_
      refine rd_X4_75 hx hb hown hW dX4_stepsAll_6 ?_
      refine lv_eqi (y := nI n) hg.1.1 ?_
      refine lv_icmp_ge (tgt := 32) hx hb dX4_stepsAll_9 (by decide) (fun c_9 => ?_) (fun c_9 => ?_)
      · skip
        have q_9 := tN_le n i c_9 rfl rfl (by omega) (by omega)
        refine lv_iload_n hx hb dX4_stepsAll_32 rfl (lv_at hl 0 rfl) ?_
        exact W.iret (v := nI (sumN (fun k => S k 3) i)) hx hb hr (fun t9 ht9 hW9 => ⟨_, rfl, (by have h9 : i = n := (by omega); subst h9; rfl), ht9⟩) (fun q h => by cases h) dX4_stepsAll_33
      · skip
        have q_9 := tN_nle n i c_9 rfl rfl (by omega) (by omega)
        refine lv_iload_n hx hb dX4_stepsAll_12 rfl (lv_at hl 0 rfl) ?_
        refine lv_aload_n hx hb dX4_stepsAll_13 rfl (lv_at hl 2 rfl) ?_
        refine rd_X4_16 hx hb hown hW dX4_stepsAll_14 ?_
        refine lv_bipush (v := 9) hx hb dX4_stepsAll_17 (by decide) ?_
        refine lv_iload_n hx hb dX4_stepsAll_19 rfl (lv_at hl 1 rfl) ?_
        refine ln_mul 9 i hx hb rfl rfl dX4_stepsAll_20 ?_
        refine lv_iconst (v := 3) hx hb dX4_stepsAll_21 (by decide) ?_
        refine ln_add (9 * i) 3 hx hb rfl rfl dX4_stepsAll_22 ?_
        refine al_M (k := (9 * i) + 3) 3 hx hb hW rfl (show _ < 54 by omega) dX4_stepsAll_23 ?_
        refine lv_eqi (y := nI (S i 3)) (hg.2.2.2.1 i (by omega)).2.2.2.2.2.2.1 ?_
        refine ln_add (sumN (fun k => S k 3) i) (S i 3) hx hb rfl rfl dX4_stepsAll_24 ?_
        refine lv_istore_n (lv' := [(1, .int (nI ((sumN (fun k => S k 3) i) + (S i 3)))), (2, .int (nI i)), (0, .ref (gm G 0))]) hx hb dX4_stepsAll_25 rfl hl (by decide) rfl (fun ls hl => ?_)
        refine lv_iinc (v := nI (i + 1)) (lv' := [(2, .int (nI (i + 1))), (1, .int (nI ((sumN (fun k => S k 3) i) + (S i 3)))), (0, .ref (gm G 0))]) hx hb dX4_stepsAll_26 hl (k := 1) rfl (inc1 i) (by decide) rfl (fun ls hl => ?_)
        refine lv_goto (tgt := 4) hx hb dX4_stepsAll_29 (by decide) ?_
        exact ih_4 (i + 1) _ _ (by omega) rfl rfl (by omega) ls (lv_sub hl [1, 0, 2] rfl)
  exact loop_4 _ 0 _ _ (Nat.lt_succ_self _) rfl rfl (by omega) ls (lv_sub hl [1, 0, 2] rfl)
set_option maxHeartbeats 4000000 in
set_option maxRecDepth 100000 in
theorem c_X4_placesAll (l : Launch) (G : Gam) (μ : St) (hs : Int64) (n : Nat) (S : Nat → Sk) (q : Nat) (V : Nat → Nat) (ch : Int32) (hg : RM μ n S q V ch) : Met l yX4_placesAll (w1 yX4_placesAll cX4_placesAll 3 (some .int)) ({ frames := 4, cells := 0, slots := 0, locals := 98 }) (PcM G μ hs [.ref (gm G 0)]) (vp_Si (fun r => r = nI (allP S n))) 0 0 (fun _ => False) := by
  refine met_of [.ref (gm G 0)] [(0, .ref (gm G 0))] (by decide) (Nat.le_of_ble_eq_true rfl) rfl ?_
  intro p e s m below meth c hx hb hr hown hml hlocks hW ls hl
  have hG : GW s := hW.2.2.2
  have hn6 := hg.1.2
  have hq8 := hg.2.2.1.2
  have hbt : ∀ i, i ≤ n → grN (fun k => orN (atN (S k)) 31) (2 ^ n - 1) i < 65536 := fun i hi => grN_lt (n := n) (fun j hj => orN_lt (atN_lt (hg.2.2.2.1 j hj).1) 31) i hi
  have heq : grN (fun k => orN (atN (S k)) 31) (2 ^ n - 1) n = grN (PL S) (2 ^ n - 1) n := grN_c n (fun j hj => orN_at (hg.2.2.2.1 j hj).1.2.2.1 (hg.2.2.2.1 j hj).2.2.1)
  refine lv_iconst (v := 0) hx hb dX4_placesAll_0 (by decide) ?_
  refine lv_istore_n (lv' := [(1, .int 0), (0, .ref (gm G 0))]) hx hb dX4_placesAll_1 rfl hl (by decide) rfl (fun ls hl => ?_)
  refine lv_iconst (v := 0) hx hb dX4_placesAll_2 (by decide) ?_
  refine lv_istore_n (lv' := [(2, .int 0), (1, .int 0), (0, .ref (gm G 0))]) hx hb dX4_placesAll_3 rfl hl (by decide) rfl (fun ls hl => ?_)
  have loop_4 : ∀ (N9 : Nat) (i : Nat) (bo : Int32) (io : Int32), n - i < N9 → bo = nI (grN (fun k => orN (atN (S k)) 31) (2 ^ n - 1) i) → io = nI i → i ≤ n → ∀ ls : Array Slot, lv_has ls 3 [(1, .int bo), (2, .int io), (0, .ref (gm G 0))] → W p l e (headSpec (w1 yX4_placesAll cX4_placesAll 3 (some .int)) ({ frames := 4, cells := 0, slots := 0, locals := 98 })).room s m [.ref (gm G 0)].toArray below meth c s.heap [] 0 0 (MQ below (vp_Si (fun r => r = nI (allP S n))) [.ref (gm G 0)].toArray s 0 0 (fun _ => False)) (F0 m 4 ls []) := by
    intro N9
    induction N9 with
    | zero => intro i bo io hN; exact absurd hN (Nat.not_lt_zero _)
    | succ N9 ih =>
      intro i bo io hN e_bo e_io hi0_4 ls hl
      subst e_bo
      subst e_io
      have ih_4 := ih
      refine lv_iload_n hx hb dX4_placesAll_4 rfl (lv_at hl 1 rfl) ?_
      refine lv_aload_n hx hb dX4_placesAll_5 rfl (lv_at hl 2 rfl) ?_
      refine rd_X4_75 hx hb hown hW dX4_placesAll_6 ?_
      refine lv_eqi (y := nI n) hg.1.1 ?_
      refine lv_icmp_ge (tgt := 26) hx hb dX4_placesAll_9 (by decide) (fun c_9 => ?_) (fun c_9 => ?_)
      · skip
        have q_9 := tN_le n i c_9 rfl rfl (by omega) (by omega)
        refine lv_iload_n hx hb dX4_placesAll_26 rfl (lv_at hl 0 rfl) ?_
        refine cs_i (q := 710) [.int (nI (grN (fun k => orN (atN (S k)) 31) (2 ^ n - 1) i))] hx hb hml hown hG v_X4_ones (by decide +kernel) (c_X4_ones l (grN (fun k => orN (atN (S k)) 31) (2 ^ n - 1) i) (hbt i (by omega))) (preT _) rfl hl.1 (Nat.le_of_ble_eq_true rfl) dX4_placesAll_27 ⟨rfl, rfl, Nat.le_of_ble_eq_true rfl, Nat.le_of_ble_eq_true rfl⟩ ⟨Nat.le_of_ble_eq_true rfl, Nat.le_of_ble_eq_true rfl⟩ ?_
        exact W.iret (v := nI (popN (grN (fun k => orN (atN (S k)) 31) (2 ^ n - 1) i))) hx hb hr (fun t9 ht9 hW9 => ⟨_, rfl, (by have h9 : i = n := (by omega); subst h9; rw [heq]), ht9⟩) (fun q h => by cases h) dX4_placesAll_30
      · skip
        have q_9 := tN_nle n i c_9 rfl rfl (by omega) (by omega)
        refine lv_iload_n hx hb dX4_placesAll_12 rfl (lv_at hl 0 rfl) ?_
        refine lv_aload_n hx hb dX4_placesAll_13 rfl (lv_at hl 2 rfl) ?_
        refine lv_iload_n hx hb dX4_placesAll_14 rfl (lv_at hl 1 rfl) ?_
        refine cr_i (q := 706) [.int (nI i)] hx hb hml hown hG v_X4_placesOf (by decide +kernel) (c_X4_placesOf l G μ hs n S q V ch hg i (by omega)) (preM hW _) rfl hl.1 (Nat.le_of_ble_eq_true rfl) dX4_placesAll_15 ⟨rfl, rfl, Nat.le_of_ble_eq_true rfl, Nat.le_of_ble_eq_true rfl⟩ ⟨Nat.le_of_ble_eq_true rfl, Nat.le_of_ble_eq_true rfl⟩ ?_
        refine lv_ior hx hb dX4_placesAll_18 ?_
        refine lv_eqi (y := nI ((grN (fun k => orN (atN (S k)) 31) (2 ^ n - 1) i) ||| (orN (atN (S i)) 31))) (nI_or (grN (fun k => orN (atN (S k)) 31) (2 ^ n - 1) i) (orN (atN (S i)) 31)) ?_
        refine lv_istore_n (lv' := [(1, .int (nI ((grN (fun k => orN (atN (S k)) 31) (2 ^ n - 1) i) ||| (orN (atN (S i)) 31)))), (2, .int (nI i)), (0, .ref (gm G 0))]) hx hb dX4_placesAll_19 rfl hl (by decide) rfl (fun ls hl => ?_)
        refine lv_iinc (v := nI (i + 1)) (lv' := [(2, .int (nI (i + 1))), (1, .int (nI ((grN (fun k => orN (atN (S k)) 31) (2 ^ n - 1) i) ||| (orN (atN (S i)) 31)))), (0, .ref (gm G 0))]) hx hb dX4_placesAll_20 hl (k := 1) rfl (inc1 i) (by decide) rfl (fun ls hl => ?_)
        refine lv_goto (tgt := 4) hx hb dX4_placesAll_23 (by decide) ?_
        exact ih_4 (i + 1) _ _ (by omega) (congrArg nI (gq_y (P := (fun k => orN (atN (S k)) 31)) (all1 n (by omega) i (by omega)))) rfl (by omega) ls (lv_sub hl [1, 0, 2] rfl)
  exact loop_4 _ 0 _ _ (Nat.lt_succ_self _) rfl rfl (by omega) ls (lv_sub hl [1, 0, 2] rfl)
set_option maxHeartbeats 4000000 in
set_option maxRecDepth 100000 in
theorem c_X4_meetAll (l : Launch) (G : Gam) (μ : St) (hs : Int64) (n : Nat) (S : Nat → Sk) (q : Nat) (V : Nat → Nat) (ch : Int32) (hg : RM μ n S q V ch) : Met l yX4_meetAll (w1 yX4_meetAll cX4_meetAll 4 (some .int)) ({ frames := 4, cells := 0, slots := 0, locals := 99 }) (PcM G μ hs [.ref (gm G 0)]) (vp_Si (fun r => r = nI (ouN (meL S (fun k => S k 2)) n n))) 0 0 (fun _ => False) := by
  refine met_of [.ref (gm G 0)] [(0, .ref (gm G 0))] (by decide) (Nat.le_of_ble_eq_true rfl) rfl ?_
  intro p e s m below meth c hx hb hr hown hml hlocks hW ls hl
  have hG : GW s := hW.2.2.2
  have hn6 := hg.1.2
  have hq8 := hg.2.2.1.2
  refine lv_iconst (v := 0) hx hb dX4_meetAll_0 (by decide) ?_
  refine lv_istore_n (lv' := [(1, .int 0), (0, .ref (gm G 0))]) hx hb dX4_meetAll_1 rfl hl (by decide) rfl (fun ls hl => ?_)
  refine lv_iconst (v := 0) hx hb dX4_meetAll_2 (by decide) ?_
  refine lv_istore_n (lv' := [(2, .int 0), (1, .int 0), (0, .ref (gm G 0))]) hx hb dX4_meetAll_3 rfl hl (by decide) rfl (fun ls hl => ?_)
  have loop_4 : ∀ (N9 : Nat) (i : Nat) (mo : Int32) (io : Int32), n - i < N9 → mo = nI (trN (meL S (fun k => S k 2)) i) → io = nI i → i ≤ n → ∀ ls : Array Slot, lv_has ls 4 [(1, .int mo), (2, .int io), (0, .ref (gm G 0))] → W p l e (headSpec (w1 yX4_meetAll cX4_meetAll 4 (some .int)) ({ frames := 4, cells := 0, slots := 0, locals := 99 })).room s m [.ref (gm G 0)].toArray below meth c s.heap [] 0 0 (MQ below (vp_Si (fun r => r = nI (ouN (meL S (fun k => S k 2)) n n))) [.ref (gm G 0)].toArray s 0 0 (fun _ => False)) (F0 m 4 ls []) := by
    intro N9
    induction N9 with
    | zero => intro i mo io hN; exact absurd hN (Nat.not_lt_zero _)
    | succ N9 ih =>
      intro i mo io hN e_mo e_io hi0_4 ls hl
      subst e_mo
      subst e_io
      have ih_4 := ih
      refine lv_iload_n hx hb dX4_meetAll_4 rfl (lv_at hl 1 rfl) ?_
      refine lv_aload_n hx hb dX4_meetAll_5 rfl (lv_at hl 2 rfl) ?_
      refine rd_X4_75 hx hb hown hW dX4_meetAll_6 ?_
      refine lv_eqi (y := nI n) hg.1.1 ?_
      refine lv_icmp_ge (tgt := 40) hx hb dX4_meetAll_9 (by decide) (fun c_9 => ?_) (fun c_9 => ?_)
      · skip
        have q_9 := tN_le n i c_9 rfl rfl (by omega) (by omega)
        refine lv_iload_n hx hb dX4_meetAll_40 rfl (lv_at hl 0 rfl) ?_
        exact W.iret (v := nI (trN (meL S (fun k => S k 2)) i)) hx hb hr (fun t9 ht9 hW9 => ⟨_, rfl, (by have h9 : i = n := (by omega); subst h9; exact congrArg nI (tr_ou meL_s (by omega))), ht9⟩) (fun q h => by cases h) dX4_meetAll_41
      · skip
        have q_9 := tN_nle n i c_9 rfl rfl (by omega) (by omega)
        refine lv_iconst (v := 0) hx hb dX4_meetAll_12 (by decide) ?_
        refine lv_istore_n (lv' := [(3, .int 0), (1, .int (nI (trN (meL S (fun k => S k 2)) i))), (2, .int (nI i)), (0, .ref (gm G 0))]) hx hb dX4_meetAll_13 rfl hl (by decide) rfl (fun ls hl => ?_)
        have loop_14 : ∀ (N9 : Nat) (j : Nat) (mo : Int32) (jo : Int32), i - j < N9 → mo = nI (trN (meL S (fun k => S k 2)) i + rwN (meL S (fun k => S k 2)) i j) → jo = nI j → j ≤ i → ∀ ls : Array Slot, lv_has ls 4 [(1, .int mo), (3, .int jo), (2, .int (nI i)), (0, .ref (gm G 0))] → W p l e (headSpec (w1 yX4_meetAll cX4_meetAll 4 (some .int)) ({ frames := 4, cells := 0, slots := 0, locals := 99 })).room s m [.ref (gm G 0)].toArray below meth c s.heap [] 0 0 (MQ below (vp_Si (fun r => r = nI (ouN (meL S (fun k => S k 2)) n n))) [.ref (gm G 0)].toArray s 0 0 (fun _ => False)) (F0 m 14 ls []) := by
          intro N9
          induction N9 with
          | zero => intro j mo jo hN; exact absurd hN (Nat.not_lt_zero _)
          | succ N9 ih =>
            intro j mo jo hN e_mo e_jo hi0_14 ls hl
            subst e_mo
            subst e_jo
            have ih_14 := ih
            refine lv_iload_n hx hb dX4_meetAll_14 rfl (lv_at hl 1 rfl) ?_
            refine lv_iload_n hx hb dX4_meetAll_15 rfl (lv_at hl 2 rfl) ?_
            refine lv_icmp_ge (tgt := 34) hx hb dX4_meetAll_16 (by decide) (fun c_16 => ?_) (fun c_16 => ?_)
            · skip
              have q_16 := tN_le i j c_16 rfl rfl (by omega) (by omega)
              refine lv_iinc (v := nI (i + 1)) (lv' := [(2, .int (nI (i + 1))), (1, .int (nI (trN (meL S (fun k => S k 2)) i + rwN (meL S (fun k => S k 2)) i j))), (3, .int (nI j)), (0, .ref (gm G 0))]) hx hb dX4_meetAll_34 hl (k := 2) rfl (inc1 i) (by decide) rfl (fun ls hl => ?_)
              refine lv_goto (tgt := 4) hx hb dX4_meetAll_37 (by decide) ?_
              exact ih_4 (i + 1) _ _ (by omega) (by have h9 : j = i := (by omega); subst h9; rfl) rfl (by omega) ls (lv_sub hl [1, 0, 3] rfl)
            · skip
              have q_16 := tN_nle i j c_16 rfl rfl (by omega) (by omega)
              refine lv_iload_n hx hb dX4_meetAll_19 rfl (lv_at hl 0 rfl) ?_
              refine lv_aload_n hx hb dX4_meetAll_20 rfl (lv_at hl 3 rfl) ?_
              refine lv_iload_n hx hb dX4_meetAll_21 rfl (lv_at hl 2 rfl) ?_
              refine lv_iload_n hx hb dX4_meetAll_22 rfl (lv_at hl 1 rfl) ?_
              refine cr_i (q := 731) [.int (nI i), .int (nI j)] hx hb hml hown hG v_X4_meetOf (by decide +kernel) (c_X4_meetOf l G μ hs n S q V ch hg i j (by omega) (by omega)) (preM hW _) rfl hl.1 (Nat.le_of_ble_eq_true rfl) dX4_meetAll_23 ⟨rfl, rfl, Nat.le_of_ble_eq_true rfl, Nat.le_of_ble_eq_true rfl⟩ ⟨Nat.le_of_ble_eq_true rfl, Nat.le_of_ble_eq_true rfl⟩ ?_
              refine lv_eqi (y := nI (meL S (fun k => S k 2) i j)) rfl ?_
              refine ln_add (trN (meL S (fun k => S k 2)) i + rwN (meL S (fun k => S k 2)) i j) (meL S (fun k => S k 2) i j) hx hb rfl rfl dX4_meetAll_26 ?_
              refine lv_istore_n (lv' := [(1, .int (nI ((trN (meL S (fun k => S k 2)) i + rwN (meL S (fun k => S k 2)) i j) + (meL S (fun k => S k 2) i j)))), (3, .int (nI j)), (2, .int (nI i)), (0, .ref (gm G 0))]) hx hb dX4_meetAll_27 rfl hl (by decide) rfl (fun ls hl => ?_)
              refine lv_iinc (v := nI (j + 1)) (lv' := [(3, .int (nI (j + 1))), (1, .int (nI ((trN (meL S (fun k => S k 2)) i + rwN (meL S (fun k => S k 2)) i j) + (meL S (fun k => S k 2) i j)))), (2, .int (nI i)), (0, .ref (gm G 0))]) hx hb dX4_meetAll_28 hl (k := 1) rfl (inc1 j) (by decide) rfl (fun ls hl => ?_)
              refine lv_goto (tgt := 14) hx hb dX4_meetAll_31 (by decide) ?_
              exact ih_14 (j + 1) _ _ (by omega) (congrArg nI (Nat.add_assoc _ _ _)) rfl (by omega) ls (lv_sub hl [1, 0, 2, 3] rfl)
        exact loop_14 _ 0 _ _ (Nat.lt_succ_self _) rfl rfl (by omega) ls (lv_sub hl [1, 0, 2, 3] rfl)
  exact loop_4 _ 0 _ _ (Nat.lt_succ_self _) rfl rfl (by omega) ls (lv_sub hl [1, 0, 2] rfl)
set_option maxHeartbeats 4000000 in
set_option maxRecDepth 100000 in
theorem c_X4_countOf (l : Launch) (G : Gam) (μ : St) (hs : Int64) (n : Nat) (S : Nat → Sk) (q : Nat) (V : Nat → Nat) (ch : Int32) (hg : RM μ n S q V ch) (pn : Nat) (P : Nat → Nat) (hp : RP μ pn P) (rd : Int32) (hrd : μ 0 7 = rd) (x : Int32) : Met l yX4_countOf (w1 yX4_countOf cX4_countOf 2 (some .int)) ({ frames := 5, cells := 0, slots := 0, locals := 122 }) (PcM G μ hs [.ref (gm G 0), .int x]) (vp_Si (fun r => r = aCount n S q ch pn rd x)) 0 0 (fun _ => False) := by
  have hn6 := hg.1.2
  have hq8 := hg.2.2.1.2
  rcases hasB_c x (n := 8) (by omega) with hx0 | ⟨u9, hu9, rfl⟩
  · skip
    refine met_of [.ref (gm G 0), .int x] [(0, .ref (gm G 0)), (1, .int x)] (by decide) (Nat.le_of_ble_eq_true rfl) rfl ?_
    intro p e s m below meth c hx hb hr hown hml hlocks hW ls hl
    have hG : GW s := hW.2.2.2
    refine lv_iload_n hx hb dX4_countOf_0 rfl (lv_at hl 1 rfl) ?_
    refine lv_tableOut (tgt := 88) hx hb dX4_countOf_1 (hB_out 8 7 (by omega) (by omega) hx0) (by decide) ?_
    refine lv_bipush (v := (-102)) hx hb dX4_countOf_88 (by decide) ?_
    exact W.iret (v := (-102)) hx hb hr (fun t9 ht9 hW9 => ⟨_, rfl, (wK_f hx0).symm, ht9⟩) (fun q h => by cases h) dX4_countOf_90
  · skip
    rcases sw8 hu9 with rfl | rfl | rfl | rfl | rfl | rfl | rfl | rfl
    · skip
      refine met_of [.ref (gm G 0), .int 0] [(0, .ref (gm G 0)), (1, .int 0)] (by decide) (Nat.le_of_ble_eq_true rfl) rfl ?_
      intro p e s m below meth c hx hb hr hown hml hlocks hW ls hl
      have hG : GW s := hW.2.2.2
      refine lv_iload_n hx hb dX4_countOf_0 rfl (lv_at hl 1 rfl) ?_
      refine lv_tableIn (off := 47) (tgt := 48) hx hb dX4_countOf_1 (by decide) (by decide) rfl (by decide) ?_
      refine lv_aload_n hx hb dX4_countOf_48 rfl (lv_at hl 0 rfl) ?_
      refine rd_X4_75 hx hb hown hW dX4_countOf_49 ?_
      refine lv_eqi (y := nI n) hg.1.1 ?_
      exact W.iret (v := nI n) hx hb hr (fun t9 ht9 hW9 => ⟨_, rfl, (by rw [aCount]; exact (wK_k (f := cntN n S q ch pn rd) (by omega) (by omega)).symm), ht9⟩) (fun q h => by cases h) dX4_countOf_52
    · skip
      refine met_of [.ref (gm G 0), .int 1] [(0, .ref (gm G 0)), (1, .int 1)] (by decide) (Nat.le_of_ble_eq_true rfl) rfl ?_
      intro p e s m below meth c hx hb hr hown hml hlocks hW ls hl
      have hG : GW s := hW.2.2.2
      refine lv_iload_n hx hb dX4_countOf_0 rfl (lv_at hl 1 rfl) ?_
      refine lv_tableIn (off := 52) (tgt := 53) hx hb dX4_countOf_1 (by decide) (by decide) rfl (by decide) ?_
      refine lv_aload_n hx hb dX4_countOf_53 rfl (lv_at hl 0 rfl) ?_
      refine cr_i (q := 850) [] hx hb hml hown hG v_X4_stepsAll (by decide +kernel) (c_X4_stepsAll l G μ hs n S q V ch hg) (preM hW _) rfl hl.1 (Nat.le_of_ble_eq_true rfl) dX4_countOf_54 ⟨rfl, rfl, Nat.le_of_ble_eq_true rfl, Nat.le_of_ble_eq_true rfl⟩ ⟨Nat.le_of_ble_eq_true rfl, Nat.le_of_ble_eq_true rfl⟩ ?_
      exact W.iret (v := nI (sumN (fun k => S k 3) n)) hx hb hr (fun t9 ht9 hW9 => ⟨_, rfl, (by rw [aCount]; exact (wK_k (f := cntN n S q ch pn rd) (by omega) (by omega)).symm), ht9⟩) (fun q h => by cases h) dX4_countOf_57
    · skip
      refine met_of [.ref (gm G 0), .int 2] [(0, .ref (gm G 0)), (1, .int 2)] (by decide) (Nat.le_of_ble_eq_true rfl) rfl ?_
      intro p e s m below meth c hx hb hr hown hml hlocks hW ls hl
      have hG : GW s := hW.2.2.2
      refine lv_iload_n hx hb dX4_countOf_0 rfl (lv_at hl 1 rfl) ?_
      refine lv_tableIn (off := 57) (tgt := 58) hx hb dX4_countOf_1 (by decide) (by decide) rfl (by decide) ?_
      refine lv_aload_n hx hb dX4_countOf_58 rfl (lv_at hl 0 rfl) ?_
      refine cr_i (q := 830) [] hx hb hml hown hG v_X4_placesAll (by decide +kernel) (c_X4_placesAll l G μ hs n S q V ch hg) (preM hW _) rfl hl.1 (Nat.le_of_ble_eq_true rfl) dX4_countOf_59 ⟨rfl, rfl, Nat.le_of_ble_eq_true rfl, Nat.le_of_ble_eq_true rfl⟩ ⟨Nat.le_of_ble_eq_true rfl, Nat.le_of_ble_eq_true rfl⟩ ?_
      exact W.iret (v := nI (allP S n)) hx hb hr (fun t9 ht9 hW9 => ⟨_, rfl, (by rw [aCount]; exact (wK_k (f := cntN n S q ch pn rd) (by omega) (by omega)).symm), ht9⟩) (fun q h => by cases h) dX4_countOf_62
    · skip
      refine met_of [.ref (gm G 0), .int 3] [(0, .ref (gm G 0)), (1, .int 3)] (by decide) (Nat.le_of_ble_eq_true rfl) rfl ?_
      intro p e s m below meth c hx hb hr hown hml hlocks hW ls hl
      have hG : GW s := hW.2.2.2
      refine lv_iload_n hx hb dX4_countOf_0 rfl (lv_at hl 1 rfl) ?_
      refine lv_tableIn (off := 62) (tgt := 63) hx hb dX4_countOf_1 (by decide) (by decide) rfl (by decide) ?_
      refine lv_aload_n hx hb dX4_countOf_63 rfl (lv_at hl 0 rfl) ?_
      refine cr_i (q := 826) [] hx hb hml hown hG v_X4_meetAll (by decide +kernel) (c_X4_meetAll l G μ hs n S q V ch hg) (preM hW _) rfl hl.1 (Nat.le_of_ble_eq_true rfl) dX4_countOf_64 ⟨rfl, rfl, Nat.le_of_ble_eq_true rfl, Nat.le_of_ble_eq_true rfl⟩ ⟨Nat.le_of_ble_eq_true rfl, Nat.le_of_ble_eq_true rfl⟩ ?_
      exact W.iret (v := nI (ouN (meL S (fun k => S k 2)) n n)) hx hb hr (fun t9 ht9 hW9 => ⟨_, rfl, (by rw [aCount]; exact (wK_k (f := cntN n S q ch pn rd) (by omega) (by omega)).symm), ht9⟩) (fun q h => by cases h) dX4_countOf_67
    · skip
      refine met_of [.ref (gm G 0), .int 4] [(0, .ref (gm G 0)), (1, .int 4)] (by decide) (Nat.le_of_ble_eq_true rfl) rfl ?_
      intro p e s m below meth c hx hb hr hown hml hlocks hW ls hl
      have hG : GW s := hW.2.2.2
      refine lv_iload_n hx hb dX4_countOf_0 rfl (lv_at hl 1 rfl) ?_
      refine lv_tableIn (off := 67) (tgt := 68) hx hb dX4_countOf_1 (by decide) (by decide) rfl (by decide) ?_
      refine lv_aload_n hx hb dX4_countOf_68 rfl (lv_at hl 0 rfl) ?_
      refine rd_X4_78 hx hb hown hW dX4_countOf_69 ?_
      refine lv_eqi (y := ch) hg.2.1 ?_
      exact W.iret (v := ch) hx hb hr (fun t9 ht9 hW9 => ⟨_, rfl, (by rw [aCount]; exact (wK_k (f := cntN n S q ch pn rd) (by omega) (by omega)).symm), ht9⟩) (fun q h => by cases h) dX4_countOf_72
    · skip
      refine met_of [.ref (gm G 0), .int 5] [(0, .ref (gm G 0)), (1, .int 5)] (by decide) (Nat.le_of_ble_eq_true rfl) rfl ?_
      intro p e s m below meth c hx hb hr hown hml hlocks hW ls hl
      have hG : GW s := hW.2.2.2
      refine lv_iload_n hx hb dX4_countOf_0 rfl (lv_at hl 1 rfl) ?_
      refine lv_tableIn (off := 72) (tgt := 73) hx hb dX4_countOf_1 (by decide) (by decide) rfl (by decide) ?_
      refine lv_aload_n hx hb dX4_countOf_73 rfl (lv_at hl 0 rfl) ?_
      refine rd_X4_81 hx hb hown hW dX4_countOf_74 ?_
      refine lv_eqi (y := nI q) hg.2.2.1.1 ?_
      exact W.iret (v := nI q) hx hb hr (fun t9 ht9 hW9 => ⟨_, rfl, (by rw [aCount]; exact (wK_k (f := cntN n S q ch pn rd) (by omega) (by omega)).symm), ht9⟩) (fun q h => by cases h) dX4_countOf_77
    · skip
      refine met_of [.ref (gm G 0), .int 6] [(0, .ref (gm G 0)), (1, .int 6)] (by decide) (Nat.le_of_ble_eq_true rfl) rfl ?_
      intro p e s m below meth c hx hb hr hown hml hlocks hW ls hl
      have hG : GW s := hW.2.2.2
      refine lv_iload_n hx hb dX4_countOf_0 rfl (lv_at hl 1 rfl) ?_
      refine lv_tableIn (off := 77) (tgt := 78) hx hb dX4_countOf_1 (by decide) (by decide) rfl (by decide) ?_
      refine lv_aload_n hx hb dX4_countOf_78 rfl (lv_at hl 0 rfl) ?_
      refine rd_X4_47 hx hb hown hW dX4_countOf_79 ?_
      refine lv_eqi (y := nI pn) hp.1.1 ?_
      exact W.iret (v := nI pn) hx hb hr (fun t9 ht9 hW9 => ⟨_, rfl, (by rw [aCount]; exact (wK_k (f := cntN n S q ch pn rd) (by omega) (by omega)).symm), ht9⟩) (fun q h => by cases h) dX4_countOf_82
    · skip
      refine met_of [.ref (gm G 0), .int 7] [(0, .ref (gm G 0)), (1, .int 7)] (by decide) (Nat.le_of_ble_eq_true rfl) rfl ?_
      intro p e s m below meth c hx hb hr hown hml hlocks hW ls hl
      have hG : GW s := hW.2.2.2
      refine lv_iload_n hx hb dX4_countOf_0 rfl (lv_at hl 1 rfl) ?_
      refine lv_tableIn (off := 82) (tgt := 83) hx hb dX4_countOf_1 (by decide) (by decide) rfl (by decide) ?_
      refine lv_aload_n hx hb dX4_countOf_83 rfl (lv_at hl 0 rfl) ?_
      refine rd_X4_84 hx hb hown hW dX4_countOf_84 ?_
      refine lv_eqi (y := rd) hrd ?_
      exact W.iret (v := rd) hx hb hr (fun t9 ht9 hW9 => ⟨_, rfl, (by rw [aCount]; exact (wK_k (f := cntN n S q ch pn rd) (by omega) (by omega)).symm), ht9⟩) (fun q h => by cases h) dX4_countOf_87
set_option maxHeartbeats 4000000 in
set_option maxRecDepth 100000 in
theorem c_X4_count (l : Launch) (G : Gam) (μ : St) (hs : Int64) (n : Nat) (S : Nat → Sk) (q : Nat) (V : Nat → Nat) (ch : Int32) (hg : RM μ n S q V ch) (pn : Nat) (P : Nat → Nat) (hp : RP μ pn P) (rd : Int32) (hrd : μ 0 7 = rd) (x : Int32) : Met l yX4_count (w1 yX4_count cX4_count 2 (some .int)) ({ frames := 6, cells := 0, slots := 0, locals := 143 }) (PcM G μ hs [.ref (gm G 0), .int x]) (vp_Si (fun r => r = aCount n S q ch pn rd x)) 0 0 (fun _ => False) := by
  refine met_of [.ref (gm G 0), .int x] [(0, .ref (gm G 0)), (1, .int x)] (by decide) (Nat.le_of_ble_eq_true rfl) rfl ?_
  intro p e s m below meth c hx hb hr hown hml hlocks hW ls hl
  have hG : GW s := hW.2.2.2
  refine lv_aload_n hx hb dX4_count_0 rfl (lv_at hl 0 rfl) ?_
  refine lv_iload_n hx hb dX4_count_1 rfl (lv_at hl 1 rfl) ?_
  refine cr_i (q := 846) [.int x] hx hb hml hown hG v_X4_countOf (by decide +kernel) (c_X4_countOf l G μ hs n S q V ch hg pn P hp rd hrd x) (preM hW _) rfl hl.1 (Nat.le_of_ble_eq_true rfl) dX4_count_2 ⟨rfl, rfl, Nat.le_of_ble_eq_true rfl, Nat.le_of_ble_eq_true rfl⟩ ⟨Nat.le_of_ble_eq_true rfl, Nat.le_of_ble_eq_true rfl⟩ ?_
  exact W.iret (v := aCount n S q ch pn rd x) hx hb hr (fun t9 ht9 hW9 => ⟨_, rfl, rfl, ht9⟩) (fun q h => by cases h) dX4_count_5
