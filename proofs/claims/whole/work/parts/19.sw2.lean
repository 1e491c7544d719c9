/-- f of the number x is below n, else d -/
def wG {α : Type} (x : Int32) (n : Nat) (f : Nat → α) (d : α) : α := if hasB x n = true then f x.toNatClampNeg else d
theorem wG_f {α : Type} {x : Int32} {n : Nat} {f : Nat → α} {d : α} (h : hasB x n = false) : wG x n f d = d := by unfold wG; rw [h]; rfl
theorem wG_k {α : Type} {k n : Nat} {f : Nat → α} {d : α} (hk : k < n) (hn : n < 2 ^ 31) : wG (nI k) n f d = f k := by
  unfold wG; rw [if_pos (hasB_k hk hn), nI_clamp (by omega)]
theorem covA_n {P : Nat → Nat} {n W u : Nat} (ho : cvN P n W (2 ^ n) = none) : covA P n W u = -1 := by unfold covA; rw [ho]
theorem covA_1 {P : Nat → Nat} {n W u b : Nat} (ho : cvN P n W (2 ^ n) = some b) (h : u = 1) : covA P n W u = nI b := by unfold covA; rw [ho]; exact if_pos h
theorem covA_0 {P : Nat → Nat} {n W u b : Nat} (ho : cvN P n W (2 ^ n) = some b) (h : u ≠ 1) : covA P n W u = nI (popN b) := by unfold covA; rw [ho]; exact if_neg h
abbrev Dt : Type := Int32 × Nat × (Nat → Sk) × Int32
def setL (S : Sk) (t : Nat) : Sk := fun f => if f = 2 then t else S f
def dLate (n : Nat) (S : Nat → Sk) (ch : Int32) (x y : Int32) : Dt := wG x n (fun k => wG y 10 (fun t => (nI (S k 2), n, putS S k (setL (S k) t), ch + 1)) (-102, n, S, ch)) (-101, n, S, ch)
def dCut (n : Nat) (S : Nat → Sk) (ch : Int32) (x y : Int32) : Dt := wG x n (fun k => wG y (S k 3 + 1) (fun t => if t = 0 then (-102, n, S, ch) else (nI (S k 3), n, putS S k (SF (S k) t), ch + 1)) (-102, n, S, ch)) (-101, n, S, ch)
def dSaw (n : Nat) (S : Nat → Sk) (ch : Int32) (x y : Int32) : Dt := wG x n (fun k => wG y (S k 3) (fun t => if t = 0 then (-102, n, S, ch) else if n = 6 then (-104, n, S, ch) else (nI n, n + 1, putS (putS S n (SR (S k) t (S k 3 - t))) k (SF (S k) t), ch + 1)) (-102, n, S, ch)) (-101, n, S, ch)
def setV (V : Nat → Nat) (q a t : Nat) : Nat → Nat := fun i => if i = 2 * q then a else if i = 2 * q + 1 then t else V i
def dSee (q : Nat) (V : Nat → Nat) (x y : Int32) : Int32 × Nat × (Nat → Nat) := wG x 16 (fun a => wG y 31 (fun t => if q < 8 then (nI (q + 1), q + 1, setV V q a t) else (-104, q, V)) (-102, q, V)) (-102, q, V)
/-- behind a change of the hills 0 -/
def Chg (σ σ' : St) (n : Nat) (S : Nat → Sk) (q : Nat) (V : Nat → Nat) (ch : Int32) : Prop := GH σ' 0 n S q V ch ∧ FH σ 0 σ' ∧ (AX σ → AX σ')
theorem Chg.same {σ : St} {n : Nat} {S : Nat → Sk} {q : Nat} {V : Nat → Nat} {ch : Int32} (g : GH σ 0 n S q V ch) : Chg σ σ n S q V ch := ⟨g, FH.rfl, fun z => z⟩
theorem Dp {σ σ' : St} {q : Nat} {V : Nat → Nat} {D d : Dt} {r : Int32} (e : D = d) (hr : r = d.1) (h : Chg σ σ' d.2.1 d.2.2.1 q V d.2.2.2) : r = D.1 ∧ Chg σ σ' D.2.1 D.2.2.1 q V D.2.2.2 := by subst e; exact ⟨hr, h⟩
theorem Dq {σ σ' : St} {n : Nat} {S : Nat → Sk} {ch : Int32} {D d : Int32 × Nat × (Nat → Nat)} {r : Int32} (e : D = d) (hr : r = d.1) (h : Chg σ σ' n S d.2.1 d.2.2 ch) : r = D.1 ∧ Chg σ σ' n S D.2.1 D.2.2 ch := by subst e; exact ⟨hr, h⟩
/-- a row of the hills h that no stick's cells lie in changes: the sticks' cells stay -/
theorem AX.up {σ : St} {i j : Nat} {v : Int32} (hi : i < 14) (h : AX σ) : AX (up2 σ i j v) := by
  intro k hk
  obtain ⟨S, h1, h2⟩ := h k hk
  exact ⟨S, h1, h2.keep (up2_ne (by omega)) (up2_ne (by omega))⟩
theorem GH.keep1 {σ σ' : St} {h n : Nat} {S : Nat → Sk} {q : Nat} {V : Nat → Nat} {ch : Int32} (hh : h < 2) (e : ∀ a, ¬ OutH h a → σ' a = σ a) (g : GH σ h n S q V ch) : GH σ' h n S q V ch := by
  obtain ⟨g1, g2, g3, g4, g5⟩ := g
  have e4 : σ' (5 * h + 4) = σ (5 * h + 4) := e _ (by unfold OutH; omega)
  have e6 : σ' (5 * h + 6) = σ (5 * h + 6) := e _ (by unfold OutH; omega)
  have e7 : σ' (5 * h + 7) = σ (5 * h + 7) := e _ (by unfold OutH; omega)
  have e8 : σ' (5 * h + 8) = σ (5 * h + 8) := e _ (by unfold OutH; omega)
  have hn := g1.2
  refine ⟨⟨by rw [e4]; exact g1.1, g1.2⟩, by rw [e4]; exact g2, ⟨by rw [e4]; exact g3.1, g3.2⟩, fun k hk => ?_, fun i hi => by rw [e7, e8]; exact g5 i hi⟩
  obtain ⟨b1, b2, b3, b4, b5⟩ := g4 k hk
  exact ⟨b1, b2.keep (e _ (by unfold OutH; omega)) (e _ (by unfold OutH; omega)), b3.keep (e _ (by unfold OutH; omega)) (e _ (by unfold OutH; omega)), by rw [e6]; exact b4, b5⟩
theorem GH.chg {σ : St} {h n : Nat} {S : Nat → Sk} {q : Nat} {V : Nat → Nat} {ch v : Int32} (g : GH σ h n S q V ch) : GH (up2 σ (5 * h + 4) 5 v) h n S q V v := by
  obtain ⟨g1, g2, g3, g4, g5⟩ := g
  refine ⟨⟨by rw [up2_nf (by omega)]; exact g1.1, g1.2⟩, up2_eq, ⟨by rw [up2_nf (by omega)]; exact g3.1, g3.2⟩, fun k hk => ?_, fun i hi => by rw [up2_ne (by omega), up2_ne (by omega)]; exact g5 i hi⟩
  obtain ⟨b1, b2, b3, b4, b5⟩ := g4 k hk
  exact ⟨b1, b2.keep (up2_ne (by omega)) (up2_ne (by omega)), b3.keep (up2_ne (by omega)) (up2_ne (by omega)), by rw [up2_ne (by omega)]; exact b4, b5⟩
theorem setL_vs {S : Sk} {t : Nat} (h : VS S) : VS (setL S t) := ⟨h.1, h.2.1, h.2.2.1, fun i hi => by
  have e : setL S t (4 + i) = S (4 + i) := if_neg (by omega)
  rw [e]; exact h.2.2.2 i hi⟩
theorem setL_pos {S : Sk} {t : Nat} (h : VS S) (u : Nat) : posN (setL S t) u = posN S u := (plain_same (S := S) (S' := setL S t) rfl rfl rfl (fun i _ => (show setL S t (4 + i) = S (4 + i) from if_neg (by omega)).symm) h u).symm
theorem GH.late {σ : St} {h n k t : Nat} {S : Nat → Sk} {q : Nat} {V : Nat → Nat} {ch : Int32} (hh : h < 2) (hk : k < n) (ht : t ≤ 9) (g : GH σ h n S q V ch) : GH (up2 σ (5 * h + 6) k (nI t)) h n (putS S k (setL (S k) t)) q V ch := by
  obtain ⟨g1, g2, g3, g4, g5⟩ := g
  refine ⟨⟨by rw [up2_nr (by omega)]; exact g1.1, g1.2⟩, by rw [up2_nr (by omega)]; exact g2, ⟨by rw [up2_nr (by omega)]; exact g3.1, g3.2⟩, fun i hi => ?_, fun i hi => by rw [up2_ne (by omega), up2_ne (by omega)]; exact g5 i hi⟩
  obtain ⟨b1, b2, b3, b4, b5⟩ := g4 i hi
  have c2 : GS (up2 σ (5 * h + 6) k (nI t)) (6 * h + i) (S i) := b2.keep (up2_ne (by omega)) (up2_ne (by omega))
  have c3 : GT (up2 σ (5 * h + 6) k (nI t)) (6 * h + i) (S i) := b3.keep (up2_ne (by omega)) (up2_ne (by omega))
  by_cases e : i = k
  · subst e
    rw [putS_eq]
    refine ⟨setL_vs b1, ⟨c2.1, c2.2.1, c2.2.2.1, fun x hx => ?_⟩, ⟨fun u hu => by rw [setL_pos b1]; exact c3.1 u hu, ?_⟩, ?_, ht⟩
    · have e : setL (S i) t (4 + x) = S i (4 + x) := if_neg (by omega)
      rw [e]; exact c2.2.2.2 x hx
    · rw [c3.2, orN_same (fun u => (setL_pos b1 (t := t) u).symm)]
    · rw [up2_eq]; rfl
  · rw [putS_ne e]
    exact ⟨b1, c2, c3, by rw [up2_nf e]; exact b4, b5⟩
theorem GH.see {σ : St} {h n a t : Nat} {S : Nat → Sk} {q : Nat} {V : Nat → Nat} {ch : Int32} (hh : h < 2) (hq : q < 8) (ha : a < 16) (ht : t ≤ 30) (g : GH σ h n S q V ch) : GH (up2 (up2 (up2 σ (5 * h + 7) q (nI a)) (5 * h + 8) q (nI t)) (5 * h + 4) 6 (nI (q + 1))) h n S (q + 1) (setV V q a t) ch := by
  obtain ⟨g1, g2, g3, g4, g5⟩ := g
  refine ⟨⟨by rw [up2_nf (by omega), up2_nr (by omega), up2_nr (by omega)]; exact g1.1, g1.2⟩, by rw [up2_nf (by omega), up2_nr (by omega), up2_nr (by omega)]; exact g2, ⟨up2_eq, by omega⟩, fun k hk => ?_, fun i hi => ?_⟩
  · obtain ⟨b1, b2, b3, b4, b5⟩ := g4 k hk
    have hn := g1.2
    have e : ∀ z, z ≠ 5 * h + 7 → z ≠ 5 * h + 8 → z ≠ 5 * h + 4 → (up2 (up2 (up2 σ (5 * h + 7) q (nI a)) (5 * h + 8) q (nI t)) (5 * h + 4) 6 (nI (q + 1))) z = σ z := fun z z1 z2 z3 => by rw [up2_ne z3, up2_ne z2, up2_ne z1]
    exact ⟨b1, b2.keep (e _ (by omega) (by omega) (by omega)) (e _ (by omega) (by omega) (by omega)), b3.keep (e _ (by omega) (by omega) (by omega)) (e _ (by omega) (by omega) (by omega)), by rw [e _ (by omega) (by omega) (by omega)]; exact b4, b5⟩
  · by_cases e : i = q
    · subst e
      have v1 : setV V i a t (2 * i) = a := if_pos rfl
      have v2 : setV V i a t (2 * i + 1) = t := by unfold setV; rw [if_neg (by omega), if_pos rfl]
      rw [v1, v2]
      exact ⟨by rw [up2_nr (by omega), up2_nr (by omega), up2_eq], by rw [up2_nr (by omega), up2_eq], ha, ht⟩
    · obtain ⟨b1, b2, b3, b4⟩ := g5 i (by omega)
      have v1 : setV V q a t (2 * i) = V (2 * i) := by unfold setV; rw [if_neg (by omega), if_neg (by omega)]
      have v2 : setV V q a t (2 * i + 1) = V (2 * i + 1) := by unfold setV; rw [if_neg (by omega), if_neg (by omega)]
      rw [v1, v2]
      exact ⟨by rw [up2_nr (by omega), up2_nr (by omega), up2_nf e]; exact b1, by rw [up2_nr (by omega), up2_nf e, up2_nr (by omega)]; exact b2, b3, b4⟩
theorem FHup {σ : St} {i j : Nat} {v : Int32} (hi : 4 ≤ i) (h2 : i ≤ 8) : FH σ 0 (up2 σ i j v) := fun a ha => up2_ne (by unfold OutH at ha; omega)
set_option maxHeartbeats 4000000 in
set_option maxRecDepth 100000 in
theorem c_X3_whose (l : Launch) (G : Gam) (σ : St) (n : Nat) (S : Nat → Sk) (q : Nat) (V : Nat → Nat) (ch : Int32) (hg : GH σ 0 n S q V ch) : Met l yX3_whose (w1 yX3_whose cX3_whose 1 (some .int)) ({ frames := 4, cells := 0, slots := 0, locals := 89 }) (PcX G σ [.ref (ga G 0)]) (vp_Si (fun r => r = aWhose n S q V)) 0 0 (fun _ => False) := by
  refine met_of [.ref (ga G 0)] [(0, .ref (ga G 0))] (by decide) (Nat.le_of_ble_eq_true rfl) rfl ?_
  intro p e s m below meth c hx hb hr hown hml hlocks hW ls hl
  have hG : GW s := hW.2.2.2.1
  have hn6 := hg.1.2
  have hq8 := hg.2.2.1.2
  refine lv_aload_n hx hb dX3_whose_0 rfl (lv_at hl 0 rfl) ?_
  refine rd_X3_19 hx hb hown hW dX3_whose_1 ?_
  refine rd_X3_57 hx hb hown hW (show 0 < 2 by omega) dX3_whose_4 ?_
  refine lv_eqi (y := nI n) hg.1.1 ?_
  refine lv_if_ne (tgt := 15) hx hb dX3_whose_7 (by decide) (fun c_7 => ?_) (fun c_7 => ?_)
  · skip
    have q_7 := tN_ne n 0 c_7 rfl rfl (by omega) (by omega)
    refine lv_aload_n hx hb dX3_whose_15 rfl (lv_at hl 0 rfl) ?_
    refine rd_X3_19 hx hb hown hW dX3_whose_16 ?_
    refine cr_i (q := 469) [] hx hb hml hown hG v_X0_possible (by decide +kernel) (c_X0_possible l G σ 0 (by omega) n S q V ch hg) (preH hW (show 0 < 2 by omega) _) rfl hl.1 (Nat.le_of_ble_eq_true rfl) dX3_whose_19 ⟨rfl, rfl, Nat.le_of_ble_eq_true rfl, Nat.le_of_ble_eq_true rfl⟩ ⟨Nat.le_of_ble_eq_true rfl, Nat.le_of_ble_eq_true rfl⟩ ?_
    exact W.iret (v := nI (whN (OKf S q V) n)) hx hb hr (fun t9 ht9 hW9 => ⟨_, rfl, (by first | rw [aWhose, if_pos q_7] | rw [aWhose, if_neg q_7]), ht9⟩) (fun q h => by cases h) dX3_whose_22
  · skip
    have q_7 := tN_eq n 0 c_7 rfl rfl (by omega) (by omega)
    refine lv_bipush (v := (-103)) hx hb dX3_whose_10 (by decide) ?_
    refine lv_goto (tgt := 22) hx hb dX3_whose_12 (by decide) ?_
    exact W.iret (v := (-103)) hx hb hr (fun t9 ht9 hW9 => ⟨_, rfl, (by first | rw [aWhose, if_pos q_7] | rw [aWhose, if_neg q_7]), ht9⟩) (fun q h => by cases h) dX3_whose_22
set_option maxHeartbeats 4000000 in
set_option maxRecDepth 100000 in
theorem c_X3_look (l : Launch) (G : Gam) (σ : St) (n : Nat) (S : Nat → Sk) (q : Nat) (V : Nat → Nat) (ch : Int32) (hg : GH σ 0 n S q V ch) : Met l yX3_look (w1 yX3_look cX3_look 1 (some .int)) ({ frames := 5, cells := 0, slots := 0, locals := 120 }) (PcX G σ [.ref (ga G 0)]) (vp_Si (fun r => r = aLook n S q V)) 0 0 (fun _ => False) := by
  refine met_of [.ref (ga G 0)] [(0, .ref (ga G 0))] (by decide) (Nat.le_of_ble_eq_true rfl) rfl ?_
  intro p e s m below meth c hx hb hr hown hml hlocks hW ls hl
  have hG : GW s := hW.2.2.2.1
  have hn6 := hg.1.2
  have hq8 := hg.2.2.1.2
  refine lv_aload_n hx hb dX3_look_0 rfl (lv_at hl 0 rfl) ?_
  refine rd_X3_19 hx hb hown hW dX3_look_1 ?_
  refine rd_X3_57 hx hb hown hW (show 0 < 2 by omega) dX3_look_4 ?_
  refine lv_eqi (y := nI n) hg.1.1 ?_
  refine lv_if_ne (tgt := 15) hx hb dX3_look_7 (by decide) (fun c_7 => ?_) (fun c_7 => ?_)
  · skip
    have q_7 := tN_ne n 0 c_7 rfl rfl (by omega) (by omega)
    refine lv_aload_n hx hb dX3_look_15 rfl (lv_at hl 0 rfl) ?_
    refine rd_X3_19 hx hb hown hW dX3_look_16 ?_
    refine cr_i (q := 481) [] hx hb hml hown hG v_X0_bestHourToLook (by decide +kernel) (c_X0_bestHourToLook l G σ 0 (by omega) n S q V ch hg) (preH hW (show 0 < 2 by omega) _) rfl hl.1 (Nat.le_of_ble_eq_true rfl) dX3_look_19 ⟨rfl, rfl, Nat.le_of_ble_eq_true rfl, Nat.le_of_ble_eq_true rfl⟩ ⟨Nat.le_of_ble_eq_true rfl, Nat.le_of_ble_eq_true rfl⟩ ?_
    exact W.iret (v := (if whN (OKf S q V) n = 0 then -1 else nI (lkN (MLf S n (whN (OKf S q V) n)) 30).1)) hx hb hr (fun t9 ht9 hW9 => ⟨_, rfl, (by first | rw [aLook, if_pos q_7] | rw [aLook, if_neg q_7]), ht9⟩) (fun q h => by cases h) dX3_look_22
  · skip
    have q_7 := tN_eq n 0 c_7 rfl rfl (by omega) (by omega)
    refine lv_bipush (v := (-103)) hx hb dX3_look_10 (by decide) ?_
    refine lv_goto (tgt := 22) hx hb dX3_look_12 (by decide) ?_
    exact W.iret (v := (-103)) hx hb hr (fun t9 ht9 hW9 => ⟨_, rfl, (by first | rw [aLook, if_pos q_7] | rw [aLook, if_neg q_7]), ht9⟩) (fun q h => by cases h) dX3_look_22
set_option maxHeartbeats 4000000 in
set_option maxRecDepth 100000 in
theorem c_X3_forget (l : Launch) (G : Gam) (σ : St) (n : Nat) (S : Nat → Sk) (q : Nat) (V : Nat → Nat) (ch : Int32) (hg : GH σ 0 n S q V ch) : Met l yX3_forget (w1 yX3_forget cX3_forget 2 (some .int)) ({ frames := 0, cells := 0, slots := 0, locals := 0 }) (PcX G σ [.ref (ga G 0)]) (QiX G (fun r σ9 => r = nI q ∧ Chg σ σ9 n S 0 V ch)) 0 0 (aX G) := by
  refine met_of [.ref (ga G 0)] [(0, .ref (ga G 0))] (by decide) (Nat.le_of_ble_eq_true rfl) rfl ?_
  intro p e s m below meth c hx hb hr hown hml hlocks hW ls hl
  have hG : GW s := hW.2.2.2.1
  have hS : va_S (aX G) s.heap s.heap [] := va_S.rf
  refine lv_aload_n hx hb dX3_forget_0 rfl (lv_at hl 0 rfl) ?_
  refine rd_X3_19 hx hb hown hW dX3_forget_1 ?_
  refine rd_X3_148 hx hb hown hW (show 0 < 2 by omega) dX3_forget_4 ?_
  refine lv_eqi (y := nI q) hg.2.2.1.1 ?_
  refine lv_istore_n (lv' := [(1, .int (nI q)), (0, .ref (ga G 0))]) hx hb dX3_forget_7 rfl hl (by decide) rfl (fun ls hl => ?_)
  refine lv_aload_n hx hb dX3_forget_8 rfl (lv_at hl 1 rfl) ?_
  refine rd_X3_19 hx hb hown hW dX3_forget_9 ?_
  refine lv_iconst (v := 0) hx hb dX3_forget_12 (by decide) ?_
  refine wr_X3_148 hx hb hown hW hS (show 0 < 2 by omega) dX3_forget_13 (fun H locs hW hS => ?_)
  obtain ⟨σ1, hσ1⟩ : ∃ z, z = up2 σ (5 * 0 + 4) 6 0 := ⟨_, rfl⟩
  rw [← hσ1] at hW
  refine lv_iload_n hx hb dX3_forget_16 rfl (lv_at hl 0 rfl) ?_
  exact W.iret (v := nI q) hx hb hr (fun t9 ht9 hW9 => ⟨⟨_, σ1, rfl, ⟨rfl, by subst hσ1; exact ⟨⟨⟨by rw [up2_nf (by omega)]; exact hg.1.1, hg.1.2⟩, by rw [up2_nf (by omega)]; exact hg.2.1, ⟨up2_eq, by omega⟩, fun k hk => by obtain ⟨b1, b2, b3, b4, b5⟩ := hg.2.2.2.1 k hk; exact ⟨b1, b2.keep (up2_ne (by omega)) (up2_ne (by omega)), b3.keep (up2_ne (by omega)) (up2_ne (by omega)), by rw [up2_ne (by omega)]; exact b4, b5⟩, fun i hi => absurd hi (by omega)⟩, FHup (by omega) (by omega), AX.up (by omega)⟩⟩, (by have h8 := hW.1; rw [← ht9] at h8; exact h8)⟩, hS.F ht9⟩) hS.2.2 dX3_forget_17
set_option maxHeartbeats 4000000 in
set_option maxRecDepth 100000 in
theorem c_X3_cover (l : Launch) (G : Gam) (σ : St) (n : Nat) (S : Nat → Sk) (q : Nat) (V : Nat → Nat) (ch : Int32) (hg : GH σ 0 n S q V ch) (x y : Int32) : Met l yX3_cover (w1 yX3_cover cX3_cover 4 (some .int)) ({ frames := 2, cells := 0, slots := 0, locals := 47 }) (PcX G σ [.ref (ga G 0), .int x, .int y]) (vp_Si (fun r => r = aCover n S x y)) 0 0 (fun _ => False) := by
  have hn6 := hg.1.2
  have hq8 := hg.2.2.1.2
  have h2n := p2_64 hn6
  rcases hasB_c x (n := 65536) (by omega) with hx0 | ⟨k, hk, rfl⟩
  · skip
    refine met_of [.ref (ga G 0), .int x, .int y] [(0, .ref (ga G 0)), (1, .int x), (2, .int y)] (by decide) (Nat.le_of_ble_eq_true rfl) rfl ?_
    intro p e s m below meth c hx hb hr hown hml hlocks hW ls hl
    have hG : GW s := hW.2.2.2.1
    refine lv_iload_n hx hb dX3_cover_0 rfl (lv_at hl 1 rfl) ?_
    refine lv_if_lt (tgt := 19) hx hb dX3_cover_1 (by decide) (fun c_1 => ?_) (fun c_1 => ?_)
    · skip
      refine lv_bipush (v := (-102)) hx hb dX3_cover_19 (by decide) ?_
      exact W.iret (v := (-102)) hx hb hr (fun t9 ht9 hW9 => ⟨_, rfl, (wK_f hx0).symm, ht9⟩) (fun q h => by cases h) dX3_cover_21
    · skip
      refine lv_iload_n hx hb dX3_cover_4 rfl (lv_at hl 1 rfl) ?_
      refine lv_ldc (v := 65536) hx hb hown (hG.use (i := 427) (by decide +kernel) rfl _) dX3_cover_5 ?_
      refine lv_icmp_ge (tgt := 19) hx hb dX3_cover_7 (by decide) (fun c_7 => ?_) (fun c_7 => ?_)
      · skip
        refine lv_bipush (v := (-102)) hx hb dX3_cover_19 (by decide) ?_
        exact W.iret (v := (-102)) hx hb hr (fun t9 ht9 hW9 => ⟨_, rfl, (wK_f hx0).symm, ht9⟩) (fun q h => by cases h) dX3_cover_21
      · skip
        exact absurd (hB_of c_1 c_7) (by rw [hx0]; decide)
  · skip
    rcases hasB_c y (n := 2) (by omega) with hy0 | ⟨t, ht, rfl⟩
    · skip
      refine met_of [.ref (ga G 0), .int (nI k), .int y] [(0, .ref (ga G 0)), (1, .int (nI k)), (2, .int y)] (by decide) (Nat.le_of_ble_eq_true rfl) rfl ?_
      intro p e s m below meth c hx hb hr hown hml hlocks hW ls hl
      have hG : GW s := hW.2.2.2.1
      refine lv_iload_n hx hb dX3_cover_0 rfl (lv_at hl 1 rfl) ?_
      refine lv_if_lt (tgt := 19) hx hb dX3_cover_1 (by decide) (fun c_1 => ?_) (fun c_1 => ?_)
      · skip
        exact absurd c_1 (nI_pos (by omega))
      · skip
        have q_1 := tN_nlt k 0 c_1 rfl rfl (by omega) (by omega)
        refine lv_iload_n hx hb dX3_cover_4 rfl (lv_at hl 1 rfl) ?_
        refine lv_ldc (v := 65536) hx hb hown (hG.use (i := 427) (by decide +kernel) rfl _) dX3_cover_5 ?_
        refine lv_icmp_ge (tgt := 19) hx hb dX3_cover_7 (by decide) (fun c_7 => ?_) (fun c_7 => ?_)
        · skip
          exact absurd (tN_le 65536 k c_7 rfl rfl (by omega) (by omega)) (by omega)
        · skip
          have q_7 := tN_nle 65536 k c_7 rfl rfl (by omega) (by omega)
          refine lv_iload_n hx hb dX3_cover_10 rfl (lv_at hl 2 rfl) ?_
          refine lv_if_lt (tgt := 19) hx hb dX3_cover_11 (by decide) (fun c_11 => ?_) (fun c_11 => ?_)
          · skip
            refine lv_bipush (v := (-102)) hx hb dX3_cover_19 (by decide) ?_
            exact W.iret (v := (-102)) hx hb hr (fun t9 ht9 hW9 => ⟨_, rfl, (by rw [aCover, wK_k hk (by omega), wK_f hy0]), ht9⟩) (fun q h => by cases h) dX3_cover_21
          · skip
            refine lv_iload_n hx hb dX3_cover_14 rfl (lv_at hl 2 rfl) ?_
            refine lv_iconst (v := 1) hx hb dX3_cover_15 (by decide) ?_
            refine lv_icmp_le (tgt := 22) hx hb dX3_cover_16 (by decide) (fun c_16 => ?_) (fun c_16 => ?_)
            · skip
              exact absurd (hB_le 1 (by omega) c_11 c_16) (by rw [hy0]; decide)
            · skip
              refine lv_bipush (v := (-102)) hx hb dX3_cover_19 (by decide) ?_
              exact W.iret (v := (-102)) hx hb hr (fun t9 ht9 hW9 => ⟨_, rfl, (by rw [aCover, wK_k hk (by omega), wK_f hy0]), ht9⟩) (fun q h => by cases h) dX3_cover_21
    · skip
      refine met_of [.ref (ga G 0), .int (nI k), .int (nI t)] [(0, .ref (ga G 0)), (1, .int (nI k)), (2, .int (nI t))] (by decide) (Nat.le_of_ble_eq_true rfl) rfl ?_
      intro p e s m below meth c hx hb hr hown hml hlocks hW ls hl
      have hG : GW s := hW.2.2.2.1
      refine lv_iload_n hx hb dX3_cover_0 rfl (lv_at hl 1 rfl) ?_
      refine lv_if_lt (tgt := 19) hx hb dX3_cover_1 (by decide) (fun c_1 => ?_) (fun c_1 => ?_)
      · skip
        exact absurd c_1 (nI_pos (by omega))
      · skip
        have q_1 := tN_nlt k 0 c_1 rfl rfl (by omega) (by omega)
        refine lv_iload_n hx hb dX3_cover_4 rfl (lv_at hl 1 rfl) ?_
        refine lv_ldc (v := 65536) hx hb hown (hG.use (i := 427) (by decide +kernel) rfl _) dX3_cover_5 ?_
        refine lv_icmp_ge (tgt := 19) hx hb dX3_cover_7 (by decide) (fun c_7 => ?_) (fun c_7 => ?_)
        · skip
          exact absurd (tN_le 65536 k c_7 rfl rfl (by omega) (by omega)) (by omega)
        · skip
          have q_7 := tN_nle 65536 k c_7 rfl rfl (by omega) (by omega)
          refine lv_iload_n hx hb dX3_cover_10 rfl (lv_at hl 2 rfl) ?_
          refine lv_if_lt (tgt := 19) hx hb dX3_cover_11 (by decide) (fun c_11 => ?_) (fun c_11 => ?_)
          · skip
            exact absurd c_11 (nI_pos (by omega))
          · skip
            have q_11 := tN_nlt t 0 c_11 rfl rfl (by omega) (by omega)
            refine lv_iload_n hx hb dX3_cover_14 rfl (lv_at hl 2 rfl) ?_
            refine lv_iconst (v := 1) hx hb dX3_cover_15 (by decide) ?_
            refine lv_icmp_le (tgt := 22) hx hb dX3_cover_16 (by decide) (fun c_16 => ?_) (fun c_16 => ?_)
            · skip
              have q_16 := tN_le t 1 c_16 rfl rfl (by omega) (by omega)
              refine lv_aload_n hx hb dX3_cover_22 rfl (lv_at hl 0 rfl) ?_
              refine rd_X3_19 hx hb hown hW dX3_cover_23 ?_
              refine rd_X3_57 hx hb hown hW (show 0 < 2 by omega) dX3_cover_26 ?_
              refine lv_eqi (y := nI n) hg.1.1 ?_
              refine lv_if_ne (tgt := 35) hx hb dX3_cover_29 (by decide) (fun c_29 => ?_) (fun c_29 => ?_)
              · skip
                have q_29 := tN_ne n 0 c_29 rfl rfl (by omega) (by omega)
                refine lv_aload_n hx hb dX3_cover_35 rfl (lv_at hl 0 rfl) ?_
                refine rd_X3_19 hx hb hown hW dX3_cover_36 ?_
                refine lv_iload_n hx hb dX3_cover_39 rfl (lv_at hl 1 rfl) ?_
                refine cr_i (q := 428) [.int (nI k)] hx hb hml hown hG v_X0_fewestSeeing (by decide +kernel) (c_X0_fewestSeeing l G σ 0 (by omega) n S q V ch hg k hk) (preH hW (show 0 < 2 by omega) _) rfl hl.1 (Nat.le_of_ble_eq_true rfl) dX3_cover_40 ⟨rfl, rfl, Nat.le_of_ble_eq_true rfl, Nat.le_of_ble_eq_true rfl⟩ ⟨Nat.le_of_ble_eq_true rfl, Nat.le_of_ble_eq_true rfl⟩ ?_
                refine lv_istore_n (lv' := [(3, .int (oI (cvN (PL S) n k (2 ^ n)))), (0, .ref (ga G 0)), (1, .int (nI k)), (2, .int (nI t))]) hx hb dX3_cover_43 rfl hl (by decide) rfl (fun ls hl => ?_)
                rcases ho : cvN (PL S) n k (2 ^ n) with _ | b
                · skip
                  rw [ho] at hl
                  have hl : lv_has ls 4 [(3, .int ((-1))), (0, .ref (ga G 0)), (1, .int (nI k)), (2, .int (nI t))] := hl
                  refine lv_iload_n hx hb dX3_cover_44 rfl (lv_at hl 3 rfl) ?_
                  refine lv_iconst (v := 1) hx hb dX3_cover_45 (by decide) ?_
                  refine lv_icmp_eq (tgt := 54) hx hb dX3_cover_46 (by decide) (fun c_46 => ?_) (fun c_46 => ?_)
                  · skip
                    have q_46 := tN_eq t 1 c_46 rfl rfl (by omega) (by omega)
                    refine lv_iload_n hx hb dX3_cover_54 rfl (lv_at hl 0 rfl) ?_
                    refine lv_goto (tgt := 62) hx hb dX3_cover_55 (by decide) ?_
                    exact W.iret (v := (-1)) hx hb hr (fun t9 ht9 hW9 => ⟨_, rfl, (by rw [aCover, wK_k hk (by omega), wK_k ht (by omega)]; exact ((if_neg q_29).trans (covA_n ho)).symm), ht9⟩) (fun q h => by cases h) dX3_cover_62
                  · skip
                    have q_46 := tN_ne t 1 c_46 rfl rfl (by omega) (by omega)
                    refine lv_iload_n hx hb dX3_cover_49 rfl (lv_at hl 0 rfl) ?_
                    refine lv_iconst (v := (-1)) hx hb dX3_cover_50 (by decide) ?_
                    refine lv_icmp_ne (tgt := 58) hx hb dX3_cover_51 (by decide) (fun c_51 => ?_) (fun c_51 => ?_)
                    · skip
                      exact absurd (by decide) c_51
                    · skip
                      refine lv_iload_n hx hb dX3_cover_54 rfl (lv_at hl 0 rfl) ?_
                      refine lv_goto (tgt := 62) hx hb dX3_cover_55 (by decide) ?_
                      exact W.iret (v := (-1)) hx hb hr (fun t9 ht9 hW9 => ⟨_, rfl, (by rw [aCover, wK_k hk (by omega), wK_k ht (by omega)]; exact ((if_neg q_29).trans (covA_n ho)).symm), ht9⟩) (fun q h => by cases h) dX3_cover_62
                · skip
                  rw [ho] at hl
                  have hbg := cvN_lt ho
                  have hl : lv_has ls 4 [(3, .int (nI b)), (0, .ref (ga G 0)), (1, .int (nI k)), (2, .int (nI t))] := hl
                  refine lv_iload_n hx hb dX3_cover_44 rfl (lv_at hl 3 rfl) ?_
                  refine lv_iconst (v := 1) hx hb dX3_cover_45 (by decide) ?_
                  refine lv_icmp_eq (tgt := 54) hx hb dX3_cover_46 (by decide) (fun c_46 => ?_) (fun c_46 => ?_)
                  · skip
                    have q_46 := tN_eq t 1 c_46 rfl rfl (by omega) (by omega)
                    refine lv_iload_n hx hb dX3_cover_54 rfl (lv_at hl 0 rfl) ?_
                    refine lv_goto (tgt := 62) hx hb dX3_cover_55 (by decide) ?_
                    exact W.iret (v := nI b) hx hb hr (fun t9 ht9 hW9 => ⟨_, rfl, (by rw [aCover, wK_k hk (by omega), wK_k ht (by omega)]; exact ((if_neg q_29).trans (covA_1 ho q_46)).symm), ht9⟩) (fun q h => by cases h) dX3_cover_62
                  · skip
                    have q_46 := tN_ne t 1 c_46 rfl rfl (by omega) (by omega)
                    refine lv_iload_n hx hb dX3_cover_49 rfl (lv_at hl 0 rfl) ?_
                    refine lv_iconst (v := (-1)) hx hb dX3_cover_50 (by decide) ?_
                    refine lv_icmp_ne (tgt := 58) hx hb dX3_cover_51 (by decide) (fun c_51 => ?_) (fun c_51 => ?_)
                    · skip
                      refine lv_iload_n hx hb dX3_cover_58 rfl (lv_at hl 0 rfl) ?_
                      refine cs_i (q := 346) [.int (nI b)] hx hb hml hown hG v_J6_bitCount_0f7a4 (by decide +kernel) (c_J6_bitCount l b (by omega)) (preG hG _) rfl hl.1 (Nat.le_of_ble_eq_true rfl) dX3_cover_59 ⟨rfl, rfl, Nat.le_of_ble_eq_true rfl, Nat.le_of_ble_eq_true rfl⟩ ⟨Nat.le_of_ble_eq_true rfl, Nat.le_of_ble_eq_true rfl⟩ ?_
                      exact W.iret (v := nI (popN b)) hx hb hr (fun t9 ht9 hW9 => ⟨_, rfl, (by rw [aCover, wK_k hk (by omega), wK_k ht (by omega)]; exact ((if_neg q_29).trans (covA_0 ho q_46)).symm), ht9⟩) (fun q h => by cases h) dX3_cover_62
                    · skip
                      exact absurd c_51 (nI_nm1 (by omega))
              · skip
                have q_29 := tN_eq n 0 c_29 rfl rfl (by omega) (by omega)
                refine lv_bipush (v := (-103)) hx hb dX3_cover_32 (by decide) ?_
                exact W.iret (v := (-103)) hx hb hr (fun t9 ht9 hW9 => ⟨_, rfl, (by rw [aCover, wK_k hk (by omega), wK_k ht (by omega)]; exact (if_pos q_29).symm), ht9⟩) (fun q h => by cases h) dX3_cover_34
            · skip
              exact absurd (tN_nle t 1 c_16 rfl rfl (by omega) (by omega)) (by omega)
set_option maxHeartbeats 4000000 in
set_option maxRecDepth 100000 in
theorem c_X3_late (l : Launch) (G : Gam) (σ : St) (n : Nat) (S : Nat → Sk) (q : Nat) (V : Nat → Nat) (ch : Int32) (hg : GH σ 0 n S q V ch) (x y : Int32) : Met l yX3_late (w1 yX3_late cX3_late 4 (some .int)) ({ frames := 1, cells := 0, slots := 0, locals := 21 }) (PcX G σ [.ref (ga G 0), .int x, .int y]) (QiX G (fun r σ9 => r = (dLate n S ch x y).1 ∧ Chg σ σ9 (dLate n S ch x y).2.1 (dLate n S ch x y).2.2.1 q V (dLate n S ch x y).2.2.2)) 0 0 (aX G) := by
  have hn6 := hg.1.2
  have hq8 := hg.2.2.1.2
  rcases hasB_c x (n := n) (by omega) with hx0 | ⟨k, hk, rfl⟩
  · skip
    refine met_of [.ref (ga G 0), .int x, .int y] [(0, .ref (ga G 0)), (1, .int x), (2, .int y)] (by decide) (Nat.le_of_ble_eq_true rfl) rfl ?_
    intro p e s m below meth c hx hb hr hown hml hlocks hW ls hl
    have hG : GW s := hW.2.2.2.1
    have hS : va_S (aX G) s.heap s.heap [] := va_S.rf
    refine lv_aload_n hx hb dX3_late_0 rfl (lv_at hl 0 rfl) ?_
    refine rd_X3_19 hx hb hown hW dX3_late_1 ?_
    refine lv_iload_n hx hb dX3_late_4 rfl (lv_at hl 1 rfl) ?_
    refine cr_i (q := 337) [.int x] hx hb hml hown hG v_X0_has (by decide +kernel) (c_X0_has l G σ 0 (by omega) n S q V ch hg (x)) (preH hW (show 0 < 2 by omega) _) rfl hl.1 (Nat.le_of_ble_eq_true rfl) dX3_late_5 ⟨rfl, rfl, Nat.le_of_ble_eq_true rfl, Nat.le_of_ble_eq_true rfl⟩ ⟨Nat.le_of_ble_eq_true rfl, Nat.le_of_ble_eq_true rfl⟩ ?_
    refine lv_eqi (y := 0) (by rw [hx0]; rfl) ?_
    refine lv_if_ne (tgt := 14) hx hb dX3_late_8 (by decide) (fun c_8 => ?_) (fun c_8 => ?_)
    · skip
      exact absurd (by decide) c_8
    · skip
      refine lv_bipush (v := (-101)) hx hb dX3_late_11 (by decide) ?_
      exact W.iret (v := (-101)) hx hb hr (fun t9 ht9 hW9 => ⟨⟨_, σ, rfl, (Dp (wG_f hx0) rfl (Chg.same hg)), (by have h8 := hW.1; rw [← ht9] at h8; exact h8)⟩, hS.F ht9⟩) hS.2.2 dX3_late_13
  · skip
    rcases hasB_c y (n := 10) (by omega) with hy0 | ⟨t, ht, rfl⟩
    · skip
      refine met_of [.ref (ga G 0), .int (nI k), .int y] [(0, .ref (ga G 0)), (1, .int (nI k)), (2, .int y)] (by decide) (Nat.le_of_ble_eq_true rfl) rfl ?_
      intro p e s m below meth c hx hb hr hown hml hlocks hW ls hl
      have hG : GW s := hW.2.2.2.1
      have hS : va_S (aX G) s.heap s.heap [] := va_S.rf
      refine lv_aload_n hx hb dX3_late_0 rfl (lv_at hl 0 rfl) ?_
      refine rd_X3_19 hx hb hown hW dX3_late_1 ?_
      refine lv_iload_n hx hb dX3_late_4 rfl (lv_at hl 1 rfl) ?_
      refine cr_i (q := 337) [.int (nI k)] hx hb hml hown hG v_X0_has (by decide +kernel) (c_X0_has l G σ 0 (by omega) n S q V ch hg (nI k)) (preH hW (show 0 < 2 by omega) _) rfl hl.1 (Nat.le_of_ble_eq_true rfl) dX3_late_5 ⟨rfl, rfl, Nat.le_of_ble_eq_true rfl, Nat.le_of_ble_eq_true rfl⟩ ⟨Nat.le_of_ble_eq_true rfl, Nat.le_of_ble_eq_true rfl⟩ ?_
      refine lv_eqi (y := 1) (by rw [hasB_k hk (by omega)]; rfl) ?_
      refine lv_if_ne (tgt := 14) hx hb dX3_late_8 (by decide) (fun c_8 => ?_) (fun c_8 => ?_)
      · skip
        refine lv_iload_n hx hb dX3_late_14 rfl (lv_at hl 2 rfl) ?_
        refine lv_if_lt (tgt := 24) hx hb dX3_late_15 (by decide) (fun c_15 => ?_) (fun c_15 => ?_)
        · skip
          refine lv_bipush (v := (-102)) hx hb dX3_late_24 (by decide) ?_
          exact W.iret (v := (-102)) hx hb hr (fun t9 ht9 hW9 => ⟨⟨_, σ, rfl, (Dp ((wG_k hk (by omega)).trans (wG_f hy0)) rfl (Chg.same hg)), (by have h8 := hW.1; rw [← ht9] at h8; exact h8)⟩, hS.F ht9⟩) hS.2.2 dX3_late_26
        · skip
          refine lv_iload_n hx hb dX3_late_18 rfl (lv_at hl 2 rfl) ?_
          refine lv_bipush (v := 9) hx hb dX3_late_19 (by decide) ?_
          refine lv_icmp_le (tgt := 27) hx hb dX3_late_21 (by decide) (fun c_21 => ?_) (fun c_21 => ?_)
          · skip
            exact absurd (hB_le 9 (by omega) c_15 c_21) (by rw [hy0]; decide)
          · skip
            refine lv_bipush (v := (-102)) hx hb dX3_late_24 (by decide) ?_
            exact W.iret (v := (-102)) hx hb hr (fun t9 ht9 hW9 => ⟨⟨_, σ, rfl, (Dp ((wG_k hk (by omega)).trans (wG_f hy0)) rfl (Chg.same hg)), (by have h8 := hW.1; rw [← ht9] at h8; exact h8)⟩, hS.F ht9⟩) hS.2.2 dX3_late_26
      · skip
        exact absurd c_8 (by decide)
    · skip
      refine met_of [.ref (ga G 0), .int (nI k), .int (nI t)] [(0, .ref (ga G 0)), (1, .int (nI k)), (2, .int (nI t))] (by decide) (Nat.le_of_ble_eq_true rfl) rfl ?_
      intro p e s m below meth c hx hb hr hown hml hlocks hW ls hl
      have hG : GW s := hW.2.2.2.1
      have hS : va_S (aX G) s.heap s.heap [] := va_S.rf
      refine lv_aload_n hx hb dX3_late_0 rfl (lv_at hl 0 rfl) ?_
      refine rd_X3_19 hx hb hown hW dX3_late_1 ?_
      refine lv_iload_n hx hb dX3_late_4 rfl (lv_at hl 1 rfl) ?_
      refine cr_i (q := 337) [.int (nI k)] hx hb hml hown hG v_X0_has (by decide +kernel) (c_X0_has l G σ 0 (by omega) n S q V ch hg (nI k)) (preH hW (show 0 < 2 by omega) _) rfl hl.1 (Nat.le_of_ble_eq_true rfl) dX3_late_5 ⟨rfl, rfl, Nat.le_of_ble_eq_true rfl, Nat.le_of_ble_eq_true rfl⟩ ⟨Nat.le_of_ble_eq_true rfl, Nat.le_of_ble_eq_true rfl⟩ ?_
      refine lv_eqi (y := 1) (by rw [hasB_k hk (by omega)]; rfl) ?_
      refine lv_if_ne (tgt := 14) hx hb dX3_late_8 (by decide) (fun c_8 => ?_) (fun c_8 => ?_)
      · skip
        refine lv_iload_n hx hb dX3_late_14 rfl (lv_at hl 2 rfl) ?_
        refine lv_if_lt (tgt := 24) hx hb dX3_late_15 (by decide) (fun c_15 => ?_) (fun c_15 => ?_)
        · skip
          exact absurd c_15 (nI_pos (by omega))
        · skip
          have q_15 := tN_nlt t 0 c_15 rfl rfl (by omega) (by omega)
          refine lv_iload_n hx hb dX3_late_18 rfl (lv_at hl 2 rfl) ?_
          refine lv_bipush (v := 9) hx hb dX3_late_19 (by decide) ?_
          refine lv_icmp_le (tgt := 27) hx hb dX3_late_21 (by decide) (fun c_21 => ?_) (fun c_21 => ?_)
          · skip
            have q_21 := tN_le t 9 c_21 rfl rfl (by omega) (by omega)
            refine lv_aload_n hx hb dX3_late_27 rfl (lv_at hl 0 rfl) ?_
            refine rd_X3_19 hx hb hown hW dX3_late_28 ?_
            refine rd_X3_83 hx hb hown hW (show 0 < 2 by omega) dX3_late_31 ?_
            refine lv_iload_n hx hb dX3_late_34 rfl (lv_at hl 1 rfl) ?_
            refine al_lateBy (k := k) hx hb hW (show 0 < 2 by omega) rfl (by omega) dX3_late_35 ?_
            refine lv_eqi (y := nI (S k 2)) (hg.2.2.2.1 k (by omega)).2.2.2.1 ?_
            refine lv_istore_n (lv' := [(3, .int (nI (S k 2))), (0, .ref (ga G 0)), (1, .int (nI k)), (2, .int (nI t))]) hx hb dX3_late_36 rfl hl (by decide) rfl (fun ls hl => ?_)
            refine lv_aload_n hx hb dX3_late_37 rfl (lv_at hl 1 rfl) ?_
            refine rd_X3_19 hx hb hown hW dX3_late_38 ?_
            refine rd_X3_83 hx hb hown hW (show 0 < 2 by omega) dX3_late_41 ?_
            refine lv_iload_n hx hb dX3_late_44 rfl (lv_at hl 2 rfl) ?_
            refine lv_iload_n hx hb dX3_late_45 rfl (lv_at hl 3 rfl) ?_
            refine as_lateBy (k := k) hx hb hW hS (show 0 < 2 by omega) rfl (by omega) dX3_late_46 (fun H locs hW hS => ?_)
            obtain ⟨σ1, hσ1⟩ : ∃ z, z = up2 σ (5 * 0 + 6) k (nI t) := ⟨_, rfl⟩
            rw [← hσ1] at hW
            refine lv_aload_n hx hb dX3_late_47 rfl (lv_at hl 1 rfl) ?_
            refine rd_X3_19 hx hb hown hW dX3_late_48 ?_
            refine lv_dup hx hb dX3_late_51 rfl ?_
            refine rd_X3_124 hx hb hown hW (show 0 < 2 by omega) dX3_late_52 ?_
            refine lv_eqi (y := ch) (by subst hσ1; rw [up2_nr (by omega)]; exact hg.2.1) ?_
            refine lv_iconst (v := 1) hx hb dX3_late_55 (by decide) ?_
            refine lv_iadd hx hb dX3_late_56 ?_
            refine wr_X3_124 hx hb hown hW hS (show 0 < 2 by omega) dX3_late_57 (fun H locs hW hS => ?_)
            obtain ⟨σ2, hσ2⟩ : ∃ z, z = up2 σ1 (5 * 0 + 4) 5 (ch + 1) := ⟨_, rfl⟩
            rw [← hσ2] at hW
            refine lv_iload_n hx hb dX3_late_60 rfl (lv_at hl 0 rfl) ?_
            exact W.iret (v := nI (S k 2)) hx hb hr (fun t9 ht9 hW9 => ⟨⟨_, σ2, rfl, (Dp ((wG_k hk (by omega)).trans (wG_k ht (by omega))) rfl (by subst hσ2; subst hσ1; exact ⟨(hg.late (by omega) hk (by omega)).chg, (FHup (by omega) (by omega)).trans (FHup (by omega) (by omega)), fun z => (z.up (by omega)).up (by omega)⟩)), (by have h8 := hW.1; rw [← ht9] at h8; exact h8)⟩, hS.F ht9⟩) hS.2.2 dX3_late_61
          · skip
            exact absurd (tN_nle t 9 c_21 rfl rfl (by omega) (by omega)) (by omega)
      · skip
        exact absurd c_8 (by decide)
set_option maxHeartbeats 4000000 in
set_option maxRecDepth 100000 in
theorem c_X3_cut (l : Launch) (G : Gam) (σ : St) (n : Nat) (S : Nat → Sk) (q : Nat) (V : Nat → Nat) (ch : Int32) (hg : GH σ 0 n S q V ch) (x y : Int32) : Met l yX3_cut (w1 yX3_cut cX3_cut 4 (some .int)) ({ frames := 4, cells := 0, slots := 0, locals := 84 }) (PcX G σ [.ref (ga G 0), .int x, .int y]) (QiX G (fun r σ9 => r = (dCut n S ch x y).1 ∧ Chg σ σ9 (dCut n S ch x y).2.1 (dCut n S ch x y).2.2.1 q V (dCut n S ch x y).2.2.2)) 0 0 (aX G) := by
  have hn6 := hg.1.2
  have hq8 := hg.2.2.1.2
  rcases hasB_c x (n := n) (by omega) with hx0 | ⟨k, hk, rfl⟩
  · skip
    refine met_of [.ref (ga G 0), .int x, .int y] [(0, .ref (ga G 0)), (1, .int x), (2, .int y)] (by decide) (Nat.le_of_ble_eq_true rfl) rfl ?_
    intro p e s m below meth c hx hb hr hown hml hlocks hW ls hl
    have hG : GW s := hW.2.2.2.1
    have hS : va_S (aX G) s.heap s.heap [] := va_S.rf
    refine lv_aload_n hx hb dX3_cut_0 rfl (lv_at hl 0 rfl) ?_
    refine rd_X3_19 hx hb hown hW dX3_cut_1 ?_
    refine lv_iload_n hx hb dX3_cut_4 rfl (lv_at hl 1 rfl) ?_
    refine cr_i (q := 337) [.int x] hx hb hml hown hG v_X0_has (by decide +kernel) (c_X0_has l G σ 0 (by omega) n S q V ch hg (x)) (preH hW (show 0 < 2 by omega) _) rfl hl.1 (Nat.le_of_ble_eq_true rfl) dX3_cut_5 ⟨rfl, rfl, Nat.le_of_ble_eq_true rfl, Nat.le_of_ble_eq_true rfl⟩ ⟨Nat.le_of_ble_eq_true rfl, Nat.le_of_ble_eq_true rfl⟩ ?_
    refine lv_eqi (y := 0) (by rw [hx0]; rfl) ?_
    refine lv_if_ne (tgt := 14) hx hb dX3_cut_8 (by decide) (fun c_8 => ?_) (fun c_8 => ?_)
    · skip
      exact absurd (by decide) c_8
    · skip
      refine lv_bipush (v := (-101)) hx hb dX3_cut_11 (by decide) ?_
      exact W.iret (v := (-101)) hx hb hr (fun t9 ht9 hW9 => ⟨⟨_, σ, rfl, (Dp (wG_f hx0) rfl (Chg.same hg)), (by have h8 := hW.1; rw [← ht9] at h8; exact h8)⟩, hS.F ht9⟩) hS.2.2 dX3_cut_13
  · skip
    have hk5 := (hg.2.2.2.1 k hk).1.2.2.1
    rcases hasB_c y (n := S k 3 + 1) (by omega) with hy0 | ⟨t, ht, rfl⟩
    · skip
      refine met_of [.ref (ga G 0), .int (nI k), .int y] [(0, .ref (ga G 0)), (1, .int (nI k)), (2, .int y)] (by decide) (Nat.le_of_ble_eq_true rfl) rfl ?_
      intro p e s m below meth c hx hb hr hown hml hlocks hW ls hl
      have hG : GW s := hW.2.2.2.1
      have hS : va_S (aX G) s.heap s.heap [] := va_S.rf
      refine lv_aload_n hx hb dX3_cut_0 rfl (lv_at hl 0 rfl) ?_
      refine rd_X3_19 hx hb hown hW dX3_cut_1 ?_
      refine lv_iload_n hx hb dX3_cut_4 rfl (lv_at hl 1 rfl) ?_
      refine cr_i (q := 337) [.int (nI k)] hx hb hml hown hG v_X0_has (by decide +kernel) (c_X0_has l G σ 0 (by omega) n S q V ch hg (nI k)) (preH hW (show 0 < 2 by omega) _) rfl hl.1 (Nat.le_of_ble_eq_true rfl) dX3_cut_5 ⟨rfl, rfl, Nat.le_of_ble_eq_true rfl, Nat.le_of_ble_eq_true rfl⟩ ⟨Nat.le_of_ble_eq_true rfl, Nat.le_of_ble_eq_true rfl⟩ ?_
      refine lv_eqi (y := 1) (by rw [hasB_k hk (by omega)]; rfl) ?_
      refine lv_if_ne (tgt := 14) hx hb dX3_cut_8 (by decide) (fun c_8 => ?_) (fun c_8 => ?_)
      · skip
        refine lv_aload_n hx hb dX3_cut_14 rfl (lv_at hl 0 rfl) ?_
        refine rd_X3_19 hx hb hown hW dX3_cut_15 ?_
        refine rd_X3_64 hx hb hown hW (show 0 < 2 by omega) dX3_cut_18 ?_
        refine lv_iload_n hx hb dX3_cut_21 rfl (lv_at hl 1 rfl) ?_
        refine al_sticks (k := k) hx hb hW (show 0 < 2 by omega) rfl (by omega) dX3_cut_22 ?_
        refine rd_X3_80 hx hb hown hW (by omega) dX3_cut_23 ?_
        refine lv_eqi (y := nI (S k 3)) (hg.2.2.2.1 k (by omega)).2.1.2.2.1 ?_
        refine lv_istore_n (lv' := [(3, .int (nI (S k 3))), (0, .ref (ga G 0)), (1, .int (nI k)), (2, .int y)]) hx hb dX3_cut_26 rfl hl (by decide) rfl (fun ls hl => ?_)
        refine lv_iload_n hx hb dX3_cut_27 rfl (lv_at hl 3 rfl) ?_
        refine lv_iconst (v := 1) hx hb dX3_cut_28 (by decide) ?_
        refine lv_icmp_lt (tgt := 37) hx hb dX3_cut_29 (by decide) (fun c_29 => ?_) (fun c_29 => ?_)
        · skip
          refine lv_bipush (v := (-102)) hx hb dX3_cut_37 (by decide) ?_
          exact W.iret (v := (-102)) hx hb hr (fun t9 ht9 hW9 => ⟨⟨_, σ, rfl, (Dp ((wG_k hk (by omega)).trans (wG_f hy0)) rfl (Chg.same hg)), (by have h8 := hW.1; rw [← ht9] at h8; exact h8)⟩, hS.F ht9⟩) hS.2.2 dX3_cut_39
        · skip
          refine lv_iload_n hx hb dX3_cut_32 rfl (lv_at hl 3 rfl) ?_
          refine lv_iload_n hx hb dX3_cut_33 rfl (lv_at hl 0 rfl) ?_
          refine lv_icmp_le (tgt := 40) hx hb dX3_cut_34 (by decide) (fun c_34 => ?_) (fun c_34 => ?_)
          · skip
            exact absurd (hB_le (S k 3) (by omega) (nlt_mono 1 (by omega) c_29) c_34) (by rw [hy0]; decide)
          · skip
            refine lv_bipush (v := (-102)) hx hb dX3_cut_37 (by decide) ?_
            exact W.iret (v := (-102)) hx hb hr (fun t9 ht9 hW9 => ⟨⟨_, σ, rfl, (Dp ((wG_k hk (by omega)).trans (wG_f hy0)) rfl (Chg.same hg)), (by have h8 := hW.1; rw [← ht9] at h8; exact h8)⟩, hS.F ht9⟩) hS.2.2 dX3_cut_39
      · skip
        exact absurd c_8 (by decide)
    · skip
      refine met_of [.ref (ga G 0), .int (nI k), .int (nI t)] [(0, .ref (ga G 0)), (1, .int (nI k)), (2, .int (nI t))] (by decide) (Nat.le_of_ble_eq_true rfl) rfl ?_
      intro p e s m below meth c hx hb hr hown hml hlocks hW ls hl
      have hG : GW s := hW.2.2.2.1
      have hS : va_S (aX G) s.heap s.heap [] := va_S.rf
      refine lv_aload_n hx hb dX3_cut_0 rfl (lv_at hl 0 rfl) ?_
      refine rd_X3_19 hx hb hown hW dX3_cut_1 ?_
      refine lv_iload_n hx hb dX3_cut_4 rfl (lv_at hl 1 rfl) ?_
      refine cr_i (q := 337) [.int (nI k)] hx hb hml hown hG v_X0_has (by decide +kernel) (c_X0_has l G σ 0 (by omega) n S q V ch hg (nI k)) (preH hW (show 0 < 2 by omega) _) rfl hl.1 (Nat.le_of_ble_eq_true rfl) dX3_cut_5 ⟨rfl, rfl, Nat.le_of_ble_eq_true rfl, Nat.le_of_ble_eq_true rfl⟩ ⟨Nat.le_of_ble_eq_true rfl, Nat.le_of_ble_eq_true rfl⟩ ?_
      refine lv_eqi (y := 1) (by rw [hasB_k hk (by omega)]; rfl) ?_
      refine lv_if_ne (tgt := 14) hx hb dX3_cut_8 (by decide) (fun c_8 => ?_) (fun c_8 => ?_)
      · skip
        refine lv_aload_n hx hb dX3_cut_14 rfl (lv_at hl 0 rfl) ?_
        refine rd_X3_19 hx hb hown hW dX3_cut_15 ?_
        refine rd_X3_64 hx hb hown hW (show 0 < 2 by omega) dX3_cut_18 ?_
        refine lv_iload_n hx hb dX3_cut_21 rfl (lv_at hl 1 rfl) ?_
        refine al_sticks (k := k) hx hb hW (show 0 < 2 by omega) rfl (by omega) dX3_cut_22 ?_
        refine rd_X3_80 hx hb hown hW (by omega) dX3_cut_23 ?_
        refine lv_eqi (y := nI (S k 3)) (hg.2.2.2.1 k (by omega)).2.1.2.2.1 ?_
        refine lv_istore_n (lv' := [(3, .int (nI (S k 3))), (0, .ref (ga G 0)), (1, .int (nI k)), (2, .int (nI t))]) hx hb dX3_cut_26 rfl hl (by decide) rfl (fun ls hl => ?_)
        refine lv_iload_n hx hb dX3_cut_27 rfl (lv_at hl 3 rfl) ?_
        refine lv_iconst (v := 1) hx hb dX3_cut_28 (by decide) ?_
        refine lv_icmp_lt (tgt := 37) hx hb dX3_cut_29 (by decide) (fun c_29 => ?_) (fun c_29 => ?_)
        · skip
          have q_29 := tN_lt t 1 c_29 rfl rfl (by omega) (by omega)
          refine lv_bipush (v := (-102)) hx hb dX3_cut_37 (by decide) ?_
          exact W.iret (v := (-102)) hx hb hr (fun t9 ht9 hW9 => ⟨⟨_, σ, rfl, (Dp ((wG_k hk (by omega)).trans ((wG_k ht (by omega)).trans (if_pos (by omega)))) rfl (Chg.same hg)), (by have h8 := hW.1; rw [← ht9] at h8; exact h8)⟩, hS.F ht9⟩) hS.2.2 dX3_cut_39
        · skip
          have q_29 := tN_nlt t 1 c_29 rfl rfl (by omega) (by omega)
          refine lv_iload_n hx hb dX3_cut_32 rfl (lv_at hl 3 rfl) ?_
          refine lv_iload_n hx hb dX3_cut_33 rfl (lv_at hl 0 rfl) ?_
          refine lv_icmp_le (tgt := 40) hx hb dX3_cut_34 (by decide) (fun c_34 => ?_) (fun c_34 => ?_)
          · skip
            have q_34 := tN_le t (S k 3) c_34 rfl rfl (by omega) (by omega)
            refine lv_aload_n hx hb dX3_cut_40 rfl (lv_at hl 1 rfl) ?_
            refine rd_X3_19 hx hb hown hW dX3_cut_41 ?_
            refine rd_X3_64 hx hb hown hW (show 0 < 2 by omega) dX3_cut_44 ?_
            refine lv_iload_n hx hb dX3_cut_47 rfl (lv_at hl 2 rfl) ?_
            refine al_sticks (k := k) hx hb hW (show 0 < 2 by omega) rfl (by omega) dX3_cut_48 ?_
            refine lv_iload_n hx hb dX3_cut_49 rfl (lv_at hl 3 rfl) ?_
            refine cw_v (q := 398) [.int (nI t)] hx hb hml hown hW.2 hS v_X2_shortenTo (by decide +kernel) (c_X2_shortenTo l G σ (6 * 0 + k) (by omega) (S k) (hg.2.2.2.1 k hk).1 (hg.2.2.2.1 k hk).2.1 (SF (S k) t) (SF_vs (hg.2.2.2.1 k hk).1 (by omega)) rfl rfl t rfl (by omega) (fun z9 _ => SF_4)) (preK hW (by omega) _) rfl hl.1 (Nat.le_of_ble_eq_true rfl) dX3_cut_50 ⟨rfl, rfl, Nat.le_of_ble_eq_true rfl, Nat.le_of_ble_eq_true rfl⟩ ⟨Nat.le_of_ble_eq_true rfl, Nat.le_of_ble_eq_true rfl⟩ (fun σ1 H locs hσ1 hW hS => ?_)
            refine lv_aload_n hx hb dX3_cut_53 rfl (lv_at hl 1 rfl) ?_
            refine rd_X3_19 hx hb hown hW dX3_cut_54 ?_
            refine lv_dup hx hb dX3_cut_57 rfl ?_
            refine rd_X3_124 hx hb hown hW (show 0 < 2 by omega) dX3_cut_58 ?_
            refine lv_eqi (y := ch) (by rw [hσ1.1 _ (by omega) (by omega) (by omega)]; exact hg.2.1) ?_
            refine lv_iconst (v := 1) hx hb dX3_cut_61 (by decide) ?_
            refine lv_iadd hx hb dX3_cut_62 ?_
            refine wr_X3_124 hx hb hown hW hS (show 0 < 2 by omega) dX3_cut_63 (fun H locs hW hS => ?_)
            obtain ⟨σ2, hσ2⟩ : ∃ z, z = up2 σ1 (5 * 0 + 4) 5 (ch + 1) := ⟨_, rfl⟩
            rw [← hσ2] at hW
            refine lv_iload_n hx hb dX3_cut_66 rfl (lv_at hl 0 rfl) ?_
            exact W.iret (v := nI (S k 3)) hx hb hr (fun t9 ht9 hW9 => ⟨⟨_, σ2, rfl, (Dp ((wG_k hk (by omega)).trans ((wG_k ht (by omega)).trans (if_neg (by omega)))) rfl (by subst hσ2; exact ⟨(GH.set (h := 0) (k := k) (S1 := SF (S k) t) (by omega) hk (SF_vs (hg.2.2.2.1 k hk).1 (by omega)) rfl hσ1 hg).chg, (NS.fh (h := 0) (k := k) (by omega) hσ1).trans (FHup (by omega) (by omega)), fun z => (NS.ax (S := SF (S k) t) (SF_vs (hg.2.2.2.1 k hk).1 (by omega)) hσ1 z).up (by omega)⟩)), (by have h8 := hW.1; rw [← ht9] at h8; exact h8)⟩, hS.F ht9⟩) hS.2.2 dX3_cut_67
          · skip
            exact absurd (tN_nle t (S k 3) c_34 rfl rfl (by omega) (by omega)) (by omega)
      · skip
        exact absurd c_8 (by decide)
set_option maxHeartbeats 4000000 in
set_option maxRecDepth 100000 in
theorem c_X3_saw (l : Launch) (G : Gam) (σ : St) (n : Nat) (S : Nat → Sk) (q : Nat) (V : Nat → Nat) (ch : Int32) (hg : GH σ 0 n S q V ch) (x y : Int32) : Met l yX3_saw (w1 yX3_saw cX3_saw 3 (some .int)) ({ frames := 6, cells := 0, slots := 0, locals := 133 }) (PcX G σ [.ref (ga G 0), .int x, .int y]) (QiX G (fun r σ9 => r = (dSaw n S ch x y).1 ∧ Chg σ σ9 (dSaw n S ch x y).2.1 (dSaw n S ch x y).2.2.1 q V (dSaw n S ch x y).2.2.2)) 0 0 (aX G) := by
  have hn6 := hg.1.2
  have hq8 := hg.2.2.1.2
  rcases hasB_c x (n := n) (by omega) with hx0 | ⟨k, hk, rfl⟩
  · skip
    refine met_of [.ref (ga G 0), .int x, .int y] [(0, .ref (ga G 0)), (1, .int x), (2, .int y)] (by decide) (Nat.le_of_ble_eq_true rfl) rfl ?_
    intro p e s m below meth c hx hb hr hown hml hlocks hW ls hl
    have hG : GW s := hW.2.2.2.1
    have hS : va_S (aX G) s.heap s.heap [] := va_S.rf
    refine lv_aload_n hx hb dX3_saw_0 rfl (lv_at hl 0 rfl) ?_
    refine rd_X3_19 hx hb hown hW dX3_saw_1 ?_
    refine lv_iload_n hx hb dX3_saw_4 rfl (lv_at hl 1 rfl) ?_
    refine cr_i (q := 337) [.int x] hx hb hml hown hG v_X0_has (by decide +kernel) (c_X0_has l G σ 0 (by omega) n S q V ch hg (x)) (preH hW (show 0 < 2 by omega) _) rfl hl.1 (Nat.le_of_ble_eq_true rfl) dX3_saw_5 ⟨rfl, rfl, Nat.le_of_ble_eq_true rfl, Nat.le_of_ble_eq_true rfl⟩ ⟨Nat.le_of_ble_eq_true rfl, Nat.le_of_ble_eq_true rfl⟩ ?_
    refine lv_eqi (y := 0) (by rw [hx0]; rfl) ?_
    refine lv_if_ne (tgt := 14) hx hb dX3_saw_8 (by decide) (fun c_8 => ?_) (fun c_8 => ?_)
    · skip
      exact absurd (by decide) c_8
    · skip
      refine lv_bipush (v := (-101)) hx hb dX3_saw_11 (by decide) ?_
      exact W.iret (v := (-101)) hx hb hr (fun t9 ht9 hW9 => ⟨⟨_, σ, rfl, (Dp (wG_f hx0) rfl (Chg.same hg)), (by have h8 := hW.1; rw [← ht9] at h8; exact h8)⟩, hS.F ht9⟩) hS.2.2 dX3_saw_13
  · skip
    have hk5 := (hg.2.2.2.1 k hk).1.2.2.1
    rcases hasB_c y (n := S k 3) (by omega) with hy0 | ⟨t, ht, rfl⟩
    · skip
      refine met_of [.ref (ga G 0), .int (nI k), .int y] [(0, .ref (ga G 0)), (1, .int (nI k)), (2, .int y)] (by decide) (Nat.le_of_ble_eq_true rfl) rfl ?_
      intro p e s m below meth c hx hb hr hown hml hlocks hW ls hl
      have hG : GW s := hW.2.2.2.1
      have hS : va_S (aX G) s.heap s.heap [] := va_S.rf
      refine lv_aload_n hx hb dX3_saw_0 rfl (lv_at hl 0 rfl) ?_
      refine rd_X3_19 hx hb hown hW dX3_saw_1 ?_
      refine lv_iload_n hx hb dX3_saw_4 rfl (lv_at hl 1 rfl) ?_
      refine cr_i (q := 337) [.int (nI k)] hx hb hml hown hG v_X0_has (by decide +kernel) (c_X0_has l G σ 0 (by omega) n S q V ch hg (nI k)) (preH hW (show 0 < 2 by omega) _) rfl hl.1 (Nat.le_of_ble_eq_true rfl) dX3_saw_5 ⟨rfl, rfl, Nat.le_of_ble_eq_true rfl, Nat.le_of_ble_eq_true rfl⟩ ⟨Nat.le_of_ble_eq_true rfl, Nat.le_of_ble_eq_true rfl⟩ ?_
      refine lv_eqi (y := 1) (by rw [hasB_k hk (by omega)]; rfl) ?_
      refine lv_if_ne (tgt := 14) hx hb dX3_saw_8 (by decide) (fun c_8 => ?_) (fun c_8 => ?_)
      · skip
        refine lv_iload_n hx hb dX3_saw_14 rfl (lv_at hl 2 rfl) ?_
        refine lv_iconst (v := 1) hx hb dX3_saw_15 (by decide) ?_
        refine lv_icmp_lt (tgt := 35) hx hb dX3_saw_16 (by decide) (fun c_16 => ?_) (fun c_16 => ?_)
        · skip
          refine lv_bipush (v := (-102)) hx hb dX3_saw_35 (by decide) ?_
          exact W.iret (v := (-102)) hx hb hr (fun t9 ht9 hW9 => ⟨⟨_, σ, rfl, (Dp ((wG_k hk (by omega)).trans (wG_f hy0)) rfl (Chg.same hg)), (by have h8 := hW.1; rw [← ht9] at h8; exact h8)⟩, hS.F ht9⟩) hS.2.2 dX3_saw_37
        · skip
          refine lv_iload_n hx hb dX3_saw_19 rfl (lv_at hl 2 rfl) ?_
          refine lv_aload_n hx hb dX3_saw_20 rfl (lv_at hl 0 rfl) ?_
          refine rd_X3_19 hx hb hown hW dX3_saw_21 ?_
          refine rd_X3_64 hx hb hown hW (show 0 < 2 by omega) dX3_saw_24 ?_
          refine lv_iload_n hx hb dX3_saw_27 rfl (lv_at hl 1 rfl) ?_
          refine al_sticks (k := k) hx hb hW (show 0 < 2 by omega) rfl (by omega) dX3_saw_28 ?_
          refine rd_X3_80 hx hb hown hW (by omega) dX3_saw_29 ?_
          refine lv_eqi (y := nI (S k 3)) (hg.2.2.2.1 k (by omega)).2.1.2.2.1 ?_
          refine lv_icmp_lt (tgt := 38) hx hb dX3_saw_32 (by decide) (fun c_32 => ?_) (fun c_32 => ?_)
          · skip
            exact absurd (hB_lt (S k 3) (nlt_mono 1 (by omega) c_16) c_32) (by rw [hy0]; decide)
          · skip
            refine lv_bipush (v := (-102)) hx hb dX3_saw_35 (by decide) ?_
            exact W.iret (v := (-102)) hx hb hr (fun t9 ht9 hW9 => ⟨⟨_, σ, rfl, (Dp ((wG_k hk (by omega)).trans (wG_f hy0)) rfl (Chg.same hg)), (by have h8 := hW.1; rw [← ht9] at h8; exact h8)⟩, hS.F ht9⟩) hS.2.2 dX3_saw_37
      · skip
        exact absurd c_8 (by decide)
    · skip
      refine met_of [.ref (ga G 0), .int (nI k), .int (nI t)] [(0, .ref (ga G 0)), (1, .int (nI k)), (2, .int (nI t))] (by decide) (Nat.le_of_ble_eq_true rfl) rfl ?_
      intro p e s m below meth c hx hb hr hown hml hlocks hW ls hl
      have hG : GW s := hW.2.2.2.1
      have hS : va_S (aX G) s.heap s.heap [] := va_S.rf
      refine lv_aload_n hx hb dX3_saw_0 rfl (lv_at hl 0 rfl) ?_
      refine rd_X3_19 hx hb hown hW dX3_saw_1 ?_
      refine lv_iload_n hx hb dX3_saw_4 rfl (lv_at hl 1 rfl) ?_
      refine cr_i (q := 337) [.int (nI k)] hx hb hml hown hG v_X0_has (by decide +kernel) (c_X0_has l G σ 0 (by omega) n S q V ch hg (nI k)) (preH hW (show 0 < 2 by omega) _) rfl hl.1 (Nat.le_of_ble_eq_true rfl) dX3_saw_5 ⟨rfl, rfl, Nat.le_of_ble_eq_true rfl, Nat.le_of_ble_eq_true rfl⟩ ⟨Nat.le_of_ble_eq_true rfl, Nat.le_of_ble_eq_true rfl⟩ ?_
      refine lv_eqi (y := 1) (by rw [hasB_k hk (by omega)]; rfl) ?_
      refine lv_if_ne (tgt := 14) hx hb dX3_saw_8 (by decide) (fun c_8 => ?_) (fun c_8 => ?_)
      · skip
        refine lv_iload_n hx hb dX3_saw_14 rfl (lv_at hl 2 rfl) ?_
        refine lv_iconst (v := 1) hx hb dX3_saw_15 (by decide) ?_
        refine lv_icmp_lt (tgt := 35) hx hb dX3_saw_16 (by decide) (fun c_16 => ?_) (fun c_16 => ?_)
        · skip
          have q_16 := tN_lt t 1 c_16 rfl rfl (by omega) (by omega)
          refine lv_bipush (v := (-102)) hx hb dX3_saw_35 (by decide) ?_
          exact W.iret (v := (-102)) hx hb hr (fun t9 ht9 hW9 => ⟨⟨_, σ, rfl, (Dp ((wG_k hk (by omega)).trans ((wG_k ht (by omega)).trans (if_pos (by omega)))) rfl (Chg.same hg)), (by have h8 := hW.1; rw [← ht9] at h8; exact h8)⟩, hS.F ht9⟩) hS.2.2 dX3_saw_37
        · skip
          have q_16 := tN_nlt t 1 c_16 rfl rfl (by omega) (by omega)
          refine lv_iload_n hx hb dX3_saw_19 rfl (lv_at hl 2 rfl) ?_
          refine lv_aload_n hx hb dX3_saw_20 rfl (lv_at hl 0 rfl) ?_
          refine rd_X3_19 hx hb hown hW dX3_saw_21 ?_
          refine rd_X3_64 hx hb hown hW (show 0 < 2 by omega) dX3_saw_24 ?_
          refine lv_iload_n hx hb dX3_saw_27 rfl (lv_at hl 1 rfl) ?_
          refine al_sticks (k := k) hx hb hW (show 0 < 2 by omega) rfl (by omega) dX3_saw_28 ?_
          refine rd_X3_80 hx hb hown hW (by omega) dX3_saw_29 ?_
          refine lv_eqi (y := nI (S k 3)) (hg.2.2.2.1 k (by omega)).2.1.2.2.1 ?_
          refine lv_icmp_lt (tgt := 38) hx hb dX3_saw_32 (by decide) (fun c_32 => ?_) (fun c_32 => ?_)
          · skip
            have q_32 := tN_lt t (S k 3) c_32 rfl rfl (by omega) (by omega)
            refine lv_aload_n hx hb dX3_saw_38 rfl (lv_at hl 0 rfl) ?_
            refine rd_X3_19 hx hb hown hW dX3_saw_39 ?_
            refine rd_X3_57 hx hb hown hW (show 0 < 2 by omega) dX3_saw_42 ?_
            refine lv_eqi (y := nI n) hg.1.1 ?_
            refine lv_bipush (v := 6) hx hb dX3_saw_45 (by decide) ?_
            refine lv_icmp_lt (tgt := 53) hx hb dX3_saw_47 (by decide) (fun c_47 => ?_) (fun c_47 => ?_)
            · skip
              have q_47 := tN_lt n 6 c_47 rfl rfl (by omega) (by omega)
              refine lv_aload_n hx hb dX3_saw_53 rfl (lv_at hl 0 rfl) ?_
              refine rd_X3_19 hx hb hown hW dX3_saw_54 ?_
              refine lv_iload_n hx hb dX3_saw_57 rfl (lv_at hl 1 rfl) ?_
              refine lv_iload_n hx hb dX3_saw_58 rfl (lv_at hl 2 rfl) ?_
              refine cw_v (q := 407) [.int (nI k), .int (nI t)] hx hb hml hown hW.2 hS v_X0_divide (by decide +kernel) (c_X0_divide l G σ 0 (by omega) n S q V ch hg k t hk q_47 q_16 ht) (preH hW (show 0 < 2 by omega) _) rfl hl.1 (Nat.le_of_ble_eq_true rfl) dX3_saw_59 ⟨rfl, rfl, Nat.le_of_ble_eq_true rfl, Nat.le_of_ble_eq_true rfl⟩ ⟨Nat.le_of_ble_eq_true rfl, Nat.le_of_ble_eq_true rfl⟩ (fun σ1 H locs hσ1 hW hS => ?_)
              refine lv_aload_n hx hb dX3_saw_62 rfl (lv_at hl 0 rfl) ?_
              refine rd_X3_19 hx hb hown hW dX3_saw_63 ?_
              refine lv_dup hx hb dX3_saw_66 rfl ?_
              refine rd_X3_124 hx hb hown hW (show 0 < 2 by omega) dX3_saw_67 ?_
              refine lv_eqi (y := ch) hσ1.1.2.1 ?_
              refine lv_iconst (v := 1) hx hb dX3_saw_70 (by decide) ?_
              refine lv_iadd hx hb dX3_saw_71 ?_
              refine wr_X3_124 hx hb hown hW hS (show 0 < 2 by omega) dX3_saw_72 (fun H locs hW hS => ?_)
              obtain ⟨σ2, hσ2⟩ : ∃ z, z = up2 σ1 (5 * 0 + 4) 5 (ch + 1) := ⟨_, rfl⟩
              rw [← hσ2] at hW
              refine lv_aload_n hx hb dX3_saw_75 rfl (lv_at hl 0 rfl) ?_
              refine rd_X3_19 hx hb hown hW dX3_saw_76 ?_
              refine rd_X3_57 hx hb hown hW (show 0 < 2 by omega) dX3_saw_79 ?_
              refine lv_eqi (y := nI (n + 1)) (by subst hσ2; rw [up2_nf (by omega)]; exact hσ1.1.1.1) ?_
              refine lv_iconst (v := 1) hx hb dX3_saw_82 (by decide) ?_
              refine ln_sub (n + 1) 1 hx hb rfl rfl (by omega) dX3_saw_83 ?_
              exact W.iret (v := nI ((n + 1) - 1)) hx hb hr (fun t9 ht9 hW9 => ⟨⟨_, σ2, rfl, (Dp ((wG_k hk (by omega)).trans ((wG_k ht (by omega)).trans ((if_neg (by omega)).trans (if_neg (by omega))))) rfl (by subst hσ2; exact ⟨hσ1.1.chg, hσ1.2.1.trans (FHup (by omega) (by omega)), fun z => (hσ1.2.2 z).up (by omega)⟩)), (by have h8 := hW.1; rw [← ht9] at h8; exact h8)⟩, hS.F ht9⟩) hS.2.2 dX3_saw_84
            · skip
              have q_47 := tN_nlt n 6 c_47 rfl rfl (by omega) (by omega)
              refine lv_bipush (v := (-104)) hx hb dX3_saw_50 (by decide) ?_
              exact W.iret (v := (-104)) hx hb hr (fun t9 ht9 hW9 => ⟨⟨_, σ, rfl, (Dp ((wG_k hk (by omega)).trans ((wG_k ht (by omega)).trans ((if_neg (by omega)).trans (if_pos (by omega))))) rfl (Chg.same hg)), (by have h8 := hW.1; rw [← ht9] at h8; exact h8)⟩, hS.F ht9⟩) hS.2.2 dX3_saw_52
          · skip
            exact absurd (tN_nlt t (S k 3) c_32 rfl rfl (by omega) (by omega)) (by omega)
      · skip
        exact absurd c_8 (by decide)
set_option maxHeartbeats 4000000 in
set_option maxRecDepth 100000 in
theorem c_X3_see (l : Launch) (G : Gam) (σ : St) (n : Nat) (S : Nat → Sk) (q : Nat) (V : Nat → Nat) (ch : Int32) (hg : GH σ 0 n S q V ch) (x y : Int32) : Met l yX3_see (w1 yX3_see cX3_see 3 (some .int)) ({ frames := 1, cells := 0, slots := 0, locals := 22 }) (PcX G σ [.ref (ga G 0), .int x, .int y]) (QiX G (fun r σ9 => r = (dSee q V x y).1 ∧ Chg σ σ9 n S (dSee q V x y).2.1 (dSee q V x y).2.2 ch)) 0 0 (aX G) := by
  have hn6 := hg.1.2
  have hq8 := hg.2.2.1.2
  rcases hasB_c x (n := 16) (by omega) with hx0 | ⟨k, hk, rfl⟩
  · skip
    refine met_of [.ref (ga G 0), .int x, .int y] [(0, .ref (ga G 0)), (1, .int x), (2, .int y)] (by decide) (Nat.le_of_ble_eq_true rfl) rfl ?_
    intro p e s m below meth c hx hb hr hown hml hlocks hW ls hl
    have hG : GW s := hW.2.2.2.1
    have hS : va_S (aX G) s.heap s.heap [] := va_S.rf
    refine lv_iload_n hx hb dX3_see_0 rfl (lv_at hl 1 rfl) ?_
    refine cs_i (q := 441) [.int x] hx hb hml hown hG v_X3_isPlace (by decide +kernel) (c_X3_isPlace l (x)) (preT _) rfl hl.1 (Nat.le_of_ble_eq_true rfl) dX3_see_1 ⟨rfl, rfl, Nat.le_of_ble_eq_true rfl, Nat.le_of_ble_eq_true rfl⟩ ⟨Nat.le_of_ble_eq_true rfl, Nat.le_of_ble_eq_true rfl⟩ ?_
    refine lv_eqi (y := 0) (by rw [hB16, hx0]; rfl) ?_
    refine lv_if_eq (tgt := 14) hx hb dX3_see_4 (by decide) (fun c_4 => ?_) (fun c_4 => ?_)
    · skip
      refine lv_bipush (v := (-102)) hx hb dX3_see_14 (by decide) ?_
      exact W.iret (v := (-102)) hx hb hr (fun t9 ht9 hW9 => ⟨⟨_, σ, rfl, (Dq (wG_f hx0) rfl (Chg.same hg)), (by have h8 := hW.1; rw [← ht9] at h8; exact h8)⟩, hS.F ht9⟩) hS.2.2 dX3_see_16
    · skip
      exact absurd (by decide) c_4
  · skip
    rcases hasB_c y (n := 31) (by omega) with hy0 | ⟨t, ht, rfl⟩
    · skip
      refine met_of [.ref (ga G 0), .int (nI k), .int y] [(0, .ref (ga G 0)), (1, .int (nI k)), (2, .int y)] (by decide) (Nat.le_of_ble_eq_true rfl) rfl ?_
      intro p e s m below meth c hx hb hr hown hml hlocks hW ls hl
      have hG : GW s := hW.2.2.2.1
      have hS : va_S (aX G) s.heap s.heap [] := va_S.rf
      refine lv_iload_n hx hb dX3_see_0 rfl (lv_at hl 1 rfl) ?_
      refine cs_i (q := 441) [.int (nI k)] hx hb hml hown hG v_X3_isPlace (by decide +kernel) (c_X3_isPlace l (nI k)) (preT _) rfl hl.1 (Nat.le_of_ble_eq_true rfl) dX3_see_1 ⟨rfl, rfl, Nat.le_of_ble_eq_true rfl, Nat.le_of_ble_eq_true rfl⟩ ⟨Nat.le_of_ble_eq_true rfl, Nat.le_of_ble_eq_true rfl⟩ ?_
      refine lv_eqi (y := 1) (by rw [hB16, hasB_k hk (by omega)]; rfl) ?_
      refine lv_if_eq (tgt := 14) hx hb dX3_see_4 (by decide) (fun c_4 => ?_) (fun c_4 => ?_)
      · skip
        exact absurd c_4 (by decide)
      · skip
        refine lv_iload_n hx hb dX3_see_7 rfl (lv_at hl 2 rfl) ?_
        refine cs_i (q := 366) [.int y] hx hb hml hown hG v_X3_isHour (by decide +kernel) (c_X3_isHour l (y)) (preT _) rfl hl.1 (Nat.le_of_ble_eq_true rfl) dX3_see_8 ⟨rfl, rfl, Nat.le_of_ble_eq_true rfl, Nat.le_of_ble_eq_true rfl⟩ ⟨Nat.le_of_ble_eq_true rfl, Nat.le_of_ble_eq_true rfl⟩ ?_
        refine lv_eqi (y := 0) (by rw [hB30, hy0]; rfl) ?_
        refine lv_if_ne (tgt := 17) hx hb dX3_see_11 (by decide) (fun c_11 => ?_) (fun c_11 => ?_)
        · skip
          exact absurd (by decide) c_11
        · skip
          refine lv_bipush (v := (-102)) hx hb dX3_see_14 (by decide) ?_
          exact W.iret (v := (-102)) hx hb hr (fun t9 ht9 hW9 => ⟨⟨_, σ, rfl, (Dq ((wG_k hk (by omega)).trans (wG_f hy0)) rfl (Chg.same hg)), (by have h8 := hW.1; rw [← ht9] at h8; exact h8)⟩, hS.F ht9⟩) hS.2.2 dX3_see_16
    · skip
      refine met_of [.ref (ga G 0), .int (nI k), .int (nI t)] [(0, .ref (ga G 0)), (1, .int (nI k)), (2, .int (nI t))] (by decide) (Nat.le_of_ble_eq_true rfl) rfl ?_
      intro p e s m below meth c hx hb hr hown hml hlocks hW ls hl
      have hG : GW s := hW.2.2.2.1
      have hS : va_S (aX G) s.heap s.heap [] := va_S.rf
      refine lv_iload_n hx hb dX3_see_0 rfl (lv_at hl 1 rfl) ?_
      refine cs_i (q := 441) [.int (nI k)] hx hb hml hown hG v_X3_isPlace (by decide +kernel) (c_X3_isPlace l (nI k)) (preT _) rfl hl.1 (Nat.le_of_ble_eq_true rfl) dX3_see_1 ⟨rfl, rfl, Nat.le_of_ble_eq_true rfl, Nat.le_of_ble_eq_true rfl⟩ ⟨Nat.le_of_ble_eq_true rfl, Nat.le_of_ble_eq_true rfl⟩ ?_
      refine lv_eqi (y := 1) (by rw [hB16, hasB_k hk (by omega)]; rfl) ?_
      refine lv_if_eq (tgt := 14) hx hb dX3_see_4 (by decide) (fun c_4 => ?_) (fun c_4 => ?_)
      · skip
        exact absurd c_4 (by decide)
      · skip
        refine lv_iload_n hx hb dX3_see_7 rfl (lv_at hl 2 rfl) ?_
        refine cs_i (q := 366) [.int (nI t)] hx hb hml hown hG v_X3_isHour (by decide +kernel) (c_X3_isHour l (nI t)) (preT _) rfl hl.1 (Nat.le_of_ble_eq_true rfl) dX3_see_8 ⟨rfl, rfl, Nat.le_of_ble_eq_true rfl, Nat.le_of_ble_eq_true rfl⟩ ⟨Nat.le_of_ble_eq_true rfl, Nat.le_of_ble_eq_true rfl⟩ ?_
        refine lv_eqi (y := 1) (by rw [hB30, hasB_k ht (by omega)]; rfl) ?_
        refine lv_if_ne (tgt := 17) hx hb dX3_see_11 (by decide) (fun c_11 => ?_) (fun c_11 => ?_)
        · skip
          refine lv_aload_n hx hb dX3_see_17 rfl (lv_at hl 0 rfl) ?_
          refine rd_X3_19 hx hb hown hW dX3_see_18 ?_
          refine lv_iload_n hx hb dX3_see_21 rfl (lv_at hl 1 rfl) ?_
          refine lv_iload_n hx hb dX3_see_22 rfl (lv_at hl 2 rfl) ?_
          refine cw_i (q := 457) [.int (nI k), .int (nI t)] hx hb hml hown hW.2 hS v_X0_noteSeen (by decide +kernel) (c_X0_noteSeen l G σ 0 (by omega) n S q V ch hg k t) (preH hW (show 0 < 2 by omega) _) rfl hl.1 (Nat.le_of_ble_eq_true rfl) dX3_see_23 ⟨rfl, rfl, Nat.le_of_ble_eq_true rfl, Nat.le_of_ble_eq_true rfl⟩ ⟨Nat.le_of_ble_eq_true rfl, Nat.le_of_ble_eq_true rfl⟩ (fun r_23 σ1 H locs hσ1 hW hS => ?_)
          by_cases hq9 : q < 8
          · skip
            obtain ⟨hr1, hs1⟩ := hσ1.1 hq9
            subst hr1
            refine lv_if_eq (tgt := 39) hx hb dX3_see_26 (by decide) (fun c_26 => ?_) (fun c_26 => ?_)
            · skip
              exact absurd c_26 (by decide)
            · skip
              refine lv_aload_n hx hb dX3_see_29 rfl (lv_at hl 0 rfl) ?_
              refine rd_X3_19 hx hb hown hW dX3_see_30 ?_
              refine rd_X3_148 hx hb hown hW (show 0 < 2 by omega) dX3_see_33 ?_
              refine lv_eqi (y := nI (q + 1)) (by rw [hs1, up2_eq]) ?_
              refine lv_goto (tgt := 41) hx hb dX3_see_36 (by decide) ?_
              exact W.iret (v := nI (q + 1)) hx hb hr (fun t9 ht9 hW9 => ⟨⟨_, σ1, rfl, (Dq ((wG_k hk (by omega)).trans ((wG_k ht (by omega)).trans (if_pos hq9))) rfl (by rw [hs1]; exact ⟨hg.see (by omega) hq9 hk (by omega), ((FHup (by omega) (by omega)).trans (FHup (by omega) (by omega))).trans (FHup (by omega) (by omega)), fun z => ((z.up (by omega)).up (by omega)).up (by omega)⟩)), (by have h8 := hW.1; rw [← ht9] at h8; exact h8)⟩, hS.F ht9⟩) hS.2.2 dX3_see_41
          · skip
            obtain ⟨hr1, hs1⟩ := hσ1.2 hq9
            subst hr1
            refine lv_if_eq (tgt := 39) hx hb dX3_see_26 (by decide) (fun c_26 => ?_) (fun c_26 => ?_)
            · skip
              refine lv_bipush (v := (-104)) hx hb dX3_see_39 (by decide) ?_
              exact W.iret (v := (-104)) hx hb hr (fun t9 ht9 hW9 => ⟨⟨_, σ1, rfl, (Dq ((wG_k hk (by omega)).trans ((wG_k ht (by omega)).trans (if_neg hq9))) rfl (by rw [hs1]; exact Chg.same hg)), (by have h8 := hW.1; rw [← ht9] at h8; exact h8)⟩, hS.F ht9⟩) hS.2.2 dX3_see_41
            · skip
              exact absurd (by decide) c_26
        · skip
          exact absurd c_11 (by decide)
