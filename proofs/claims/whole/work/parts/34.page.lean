theorem ft_go {P : Nat → Nat} : ∀ k i, ftF P k i = k + i → ∀ j, i ≤ j → j < k + i → fitN (P j) (prN P j).2 (prN P j).1 = true := by
  intro k
  induction k with
  | zero => intro i _ j h1 h2; omega
  | succ k ih =>
    intro i h j h1 h2
    unfold ftF at h
    by_cases hf : fitN (P i) (prN P i).2 (prN P i).1 = true
    · rw [if_pos hf] at h
      by_cases e9 : j = i
      · subst e9; exact hf
      · exact ih (i + 1) (by omega) j (by omega) (by omega)
    · rw [if_neg hf] at h; omega
theorem ft_all {P : Nat → Nat} {pn : Nat} (h : ftN P pn = pn) {j : Nat} (hj : j < pn) : fitN (P j) (prN P j).2 (prN P j).1 = true := ft_go pn 0 h j (by omega) (by omega)
theorem pv_all {P : Nat → Nat} {pn : Nat} (h : ftN P pn = pn) : ∀ i, i ≤ pn → PV P i (prN P i).1 (prN P i).2 := by
  intro i
  induction i with
  | zero => intro _; exact PV_0
  | succ i ih => intro hi; exact (ih (by omega)).nx (ft_all h (by omega))
theorem PG.fh {σ σ' : St} {pn : Nat} {P : Nat → Nat} (h : PG σ pn P) (f : FH σ 0 σ') : PG σ' pn P := by
  unfold PG at *
  rw [f 1 (by unfold OutH; omega), f 2 (by unfold OutH; omega)]; exact h
/-- how many sticks the class has made behind i letters -/
def nS (P : Nat → Nat) (i : Nat) : Nat := if 2 ≤ (prN P i).2 then (prN P i).1 + 1 else (prN P i).1
theorem nS_2 {P : Nat → Nat} {i b ps : Nat} (hbp : prN P i = (b, ps)) (h : 2 ≤ ps) : nS P i = b + 1 := by
  have h : 2 ≤ (prN P i).2 := by rw [hbp]; exact h
  unfold nS; rw [if_pos h, hbp]
theorem nS_1 {P : Nat → Nat} {i b ps : Nat} (hbp : prN P i = (b, ps)) (h : ps < 2) : nS P i = b := by
  have h : ¬ 2 ≤ (prN P i).2 := by rw [hbp]; show ¬ 2 ≤ ps; omega
  unfold nS; rw [if_neg h, hbp]
theorem GH.congr {σ : St} {h n q : Nat} {S S' : Nat → Sk} {V : Nat → Nat} {ch : Int32} (e9 : ∀ k, k < n → S k = S' k) (g : GH σ h n S q V ch) : GH σ h n S' q V ch :=
  ⟨g.1, g.2.1, g.2.2.1, fun k hk => by rw [← e9 k hk]; exact g.2.2.2.1 k hk, g.2.2.2.2⟩
/-- the class's reading, behind i letters -/
def RI (σ : St) (P : Nat → Nat) (i : Nat) (σ' : St) : Prop := (∀ V, GH σ' 0 (nS P i) (pgS P i) 0 V 0) ∧ FH σ 0 σ' ∧ (AX σ → AX σ')
theorem RI.sep {σ σ' : St} {P : Nat → Nat} {i : Nat} (h : RI σ P i σ') (hv : PV P i (prN P i).1 (prN P i).2) (hf : fitN (P i) (prN P i).2 (prN P i).1 = true) (h4 : P i = 44) : RI σ P (i + 1) σ' := by
  refine ⟨fun V => ?_, h.2⟩
  rw [pgS_s h4, nS_1 (prN_s hv.1 h4) (by omega), ← nS_2 hv.1 (by have := (fit_s hf h4).1; omega)]
  exact h.1 V
theorem RI.kind {σ σ' : St} {P : Nat → Nat} {i : Nat} (h : RI σ P i σ') (hv : PV P i (prN P i).1 (prN P i).2) (h0 : (prN P i).2 = 0) (h4 : P i ≠ 44) : RI σ P (i + 1) σ' := by
  refine ⟨fun V => ?_, h.2⟩
  have g := h.1 V
  rw [nS_1 hv.1 (by omega)] at g
  rw [nS_1 (prN_n hv.1 h4) (by omega)]
  exact g.congr (fun k hk => (pgS_o hv.1 (by omega)).symm)
theorem RI.place {σ σ1 σ2 : St} {P : Nat → Nat} {i : Nat} (h : RI σ P i σ1) (hv : PV P i (prN P i).1 (prN P i).2) (h1 : (prN P i).2 = 1) (h4 : P i ≠ 44) (hS : VS (pgU (P i) 1 (pgS P i (prN P i).1))) (A : AE σ1 0 (prN P i).1 (pgU (P i) 1 (pgS P i (prN P i).1)) σ2) : RI σ P (i + 1) σ2 := by
  have hb := hv.2.1
  refine ⟨fun V => ?_, h.2.1.trans (A.fh (by omega)), fun hx => A.ax (by omega) (by omega) hS (h.2.2 hx)⟩
  have g := h.1 V
  rw [nS_1 hv.1 (by omega)] at g
  rw [nS_2 (prN_n hv.1 h4) (by omega), pgS_p hv.1 h4, h1]
  exact A.gh (by omega) (by omega) hS rfl g
theorem RI.step {σ σ1 σ2 : St} {P : Nat → Nat} {i : Nat} (h : RI σ P i σ1) (hv : PV P i (prN P i).1 (prN P i).2) (h2 : 2 ≤ (prN P i).2) (h4 : P i ≠ 44) (hS : VS (pgU (P i) (prN P i).2 (pgS P i (prN P i).1))) (N : NS σ1 (6 * 0 + (prN P i).1) (pgU (P i) (prN P i).2 (pgS P i (prN P i).1)) σ2) : RI σ P (i + 1) σ2 := by
  have hb := hv.2.1
  refine ⟨fun V => ?_, h.2.1.trans (N.fh (by omega)), fun hx => N.ax hS (h.2.2 hx)⟩
  have g := h.1 V
  rw [nS_2 hv.1 h2] at g
  rw [nS_2 (prN_n hv.1 h4) (by omega), pgS_p hv.1 h4]
  refine GH.set (by omega) (by omega) hS ?_ N g
  rw [pgU_2 h2]
  show (if 2 = 3 then _ else if 2 = (prN P i).2 + 2 then _ else pgS P i (prN P i).1 2) = _
  rw [if_neg (by decide), if_neg (by omega)]
theorem RI_0 {σ : St} {P : Nat → Nat} : RI σ P 0 (up2 (up2 (up2 σ 4 4 0) 4 5 0) 4 6 0) := by
  refine ⟨fun V => ⟨⟨?_, by show 0 ≤ 6; omega⟩, ?_, ⟨?_, by omega⟩, fun k hk => absurd hk (Nat.not_lt_zero k), fun k hk => absurd hk (Nat.not_lt_zero k)⟩, ?_, fun hx => AX.up (by omega) (AX.up (by omega) (AX.up (by omega) hx))⟩
  · show up2 _ 4 6 0 4 4 = _
    rw [up2_nf (by decide), up2_nf (by decide), up2_eq]; rfl
  · show up2 _ 4 6 0 4 5 = _
    rw [up2_nf (by decide), up2_eq]
  · show up2 _ 4 6 0 4 6 = _
    rw [up2_eq]; rfl
  · exact (FHup (by omega) (by omega)).trans ((FHup (by omega) (by omega)).trans (FHup (by omega) (by omega)))
theorem pgU_0k {c9 : Nat} {S : Sk} : pgU c9 0 S 0 = kdN c9 := rfl
theorem pgU_10 {c9 ps : Nat} {S : Sk} (h : 1 ≤ ps) : pgU c9 ps S 0 = S 0 := by
  rcases Nat.lt_or_ge ps 2 with q | q
  · have e9 : ps = 1 := by omega
    subst e9; rfl
  · rw [pgU_2 q]
    show (if 0 = 3 then _ else if 0 = ps + 2 then _ else S 0) = _
    rw [if_neg (by decide), if_neg (by omega)]
theorem ko_nx {P : Nat → Nat} {i : Nat} {ko : Int32} (h4 : P i ≠ 44) (h1 : 1 ≤ (prN P i).2) (h : ko = nI (pgS P i (prN P i).1 0)) : ko = nI (pgS P (i + 1) (prN P (i + 1)).1 0) := by
  rw [prN_n (b := (prN P i).1) (ps := (prN P i).2) rfl h4, pgS_b (b := (prN P i).1) (ps := (prN P i).2) rfl h4, pgU_10 h1]; exact h
theorem ko_0 {P : Nat → Nat} {i : Nat} (h4 : P i ≠ 44) (h0 : (prN P i).2 = 0) : nI (kdN (P i)) = nI (pgS P (i + 1) (prN P (i + 1)).1 0) := by
  rw [prN_n (b := (prN P i).1) (ps := (prN P i).2) rfl h4, pgS_b (b := (prN P i).1) (ps := (prN P i).2) rfl h4, h0]; rfl
theorem pr1_n {P : Nat → Nat} {i : Nat} (h4 : P i ≠ 44) : (prN P (i + 1)).1 = (prN P i).1 := by rw [prN_n (b := (prN P i).1) (ps := (prN P i).2) rfl h4]
theorem pr2_n {P : Nat → Nat} {i : Nat} (h4 : P i ≠ 44) : (prN P (i + 1)).2 = (prN P i).2 + 1 := by rw [prN_n (b := (prN P i).1) (ps := (prN P i).2) rfl h4]
theorem pr1_s {P : Nat → Nat} {i : Nat} (h4 : P i = 44) : (prN P (i + 1)).1 = (prN P i).1 + 1 := by rw [prN_s (b := (prN P i).1) (ps := (prN P i).2) rfl h4]
theorem pr2_s {P : Nat → Nat} {i : Nat} (h4 : P i = 44) : (prN P (i + 1)).2 = 0 := by rw [prN_s (b := (prN P i).1) (ps := (prN P i).2) rfl h4]
set_option maxHeartbeats 4000000 in
set_option maxRecDepth 100000 in
theorem c_X1_firstFault (l : Launch) (G : Gam) (σ : St) (pn : Nat) (P : Nat → Nat) (hp : PG σ pn P) : Met l yX1_firstFault (w1 yX1_firstFault cX1_firstFault 4 (some .int)) ({ frames := 5, cells := 0, slots := 0, locals := 113 }) (PcS G σ [.ref (ga G 1)]) (vp_Si (fun r => r = nI (ftN P pn))) 0 0 (fun _ => False) := by
  refine met_of [.ref (ga G 1)] [(0, .ref (ga G 1))] (by decide) (Nat.le_of_ble_eq_true rfl) rfl ?_
  intro p e s m below meth c hx hb hr hown hml hlocks hW ls hl
  obtain ⟨hW, hSX⟩ := hW
  have hG : GW s := hW.2.2.2.1
  have hp32 := hp.1.2
  refine lv_iconst (v := 0) hx hb dX1_firstFault_0 (by decide) ?_
  refine lv_istore_n (lv' := [(1, .int 0), (0, .ref (ga G 1))]) hx hb dX1_firstFault_1 rfl hl (by decide) rfl (fun ls hl => ?_)
  refine lv_iconst (v := 0) hx hb dX1_firstFault_2 (by decide) ?_
  refine lv_istore_n (lv' := [(2, .int 0), (1, .int 0), (0, .ref (ga G 1))]) hx hb dX1_firstFault_3 rfl hl (by decide) rfl (fun ls hl => ?_)
  refine lv_iconst (v := 0) hx hb dX1_firstFault_4 (by decide) ?_
  refine lv_istore_n (lv' := [(3, .int 0), (2, .int 0), (1, .int 0), (0, .ref (ga G 1))]) hx hb dX1_firstFault_5 rfl hl (by decide) rfl (fun ls hl => ?_)
  have loop_6 : ∀ (N9 : Nat) (i : Nat) (po : Int32) (bo : Int32) (io : Int32), pn - i < N9 → po = nI ((prN P i).2) → bo = nI ((prN P i).1) → io = nI i → i ≤ pn → ftF P (pn - i) i = ftN P pn → PV P i (prN P i).1 (prN P i).2 → ∀ ls : Array Slot, lv_has ls 4 [(1, .int po), (2, .int bo), (3, .int io), (0, .ref (ga G 1))] → W p l e (headSpec (w1 yX1_firstFault cX1_firstFault 4 (some .int)) ({ frames := 5, cells := 0, slots := 0, locals := 113 })).room s m [.ref (ga G 1)].toArray below meth c s.heap [] 0 0 (MQ below (vp_Si (fun r => r = nI (ftN P pn))) [.ref (ga G 1)].toArray s 0 0 (fun _ => False)) (F0 m 6 ls []) := by
    intro N9
    induction N9 with
    | zero => intro i po bo io hN; exact absurd hN (Nat.not_lt_zero _)
    | succ N9 ih =>
      intro i po bo io hN e_po e_bo e_io hi0_6 hi1_6 hi2_6 ls hl
      subst e_po
      subst e_bo
      subst e_io
      have ih_6 := ih
      have hb3 := hi2_6.2.1
      have hps := hi2_6.2.2.1
      refine lv_iload_n hx hb dX1_firstFault_6 rfl (lv_at hl 2 rfl) ?_
      refine lv_aload_n hx hb dX1_firstFault_7 rfl (lv_at hl 3 rfl) ?_
      refine rd_X1_15 hx hb hown hW dX1_firstFault_8 ?_
      refine lv_eqi (y := nI pn) hp.1.1 ?_
      refine lv_icmp_ge (tgt := 55) hx hb dX1_firstFault_11 (by decide) (fun c_11 => ?_) (fun c_11 => ?_)
      · skip
        have q_11 := tN_le pn i c_11 rfl rfl (by omega) (by omega)
        refine lv_aload_n hx hb dX1_firstFault_55 rfl (lv_at hl 3 rfl) ?_
        refine rd_X1_15 hx hb hown hW dX1_firstFault_56 ?_
        refine lv_eqi (y := nI pn) hp.1.1 ?_
        exact W.iret (v := nI pn) hx hb hr (fun t9 ht9 hW9 => ⟨_, rfl, (by have h9 : i = pn := (by omega); subst h9; exact congrArg nI (ft_e hi1_6)), ht9⟩) (fun q h => by cases h) dX1_firstFault_59
      · skip
        have q_11 := tN_nle pn i c_11 rfl rfl (by omega) (by omega)
        have hpi := (hp.2 i (by omega)).2
        refine lv_aload_n hx hb dX1_firstFault_14 rfl (lv_at hl 3 rfl) ?_
        refine rd_X1_9 hx hb hown hW dX1_firstFault_15 ?_
        refine lv_iload_n hx hb dX1_firstFault_18 rfl (lv_at hl 2 rfl) ?_
        refine al_letters (k := i) hx hb hW rfl (by omega) dX1_firstFault_19 ?_
        refine lv_eqi (y := nI (P i)) (hp.2 i (by omega)).1 ?_
        refine lv_iload_n hx hb dX1_firstFault_20 rfl (lv_at hl 0 rfl) ?_
        refine lv_iload_n hx hb dX1_firstFault_21 rfl (lv_at hl 1 rfl) ?_
        refine cs_i (q := 185) [.int (nI (P i)), .int (nI ((prN P i).2)), .int (nI ((prN P i).1))] hx hb hml hown hG v_X1_fits (by decide +kernel) (c_X1_fits l G (P i) (prN P i).2 (prN P i).1 (by omega) (by omega) (by omega)) (preJS hSX _) rfl hl.1 (Nat.le_of_ble_eq_true rfl) dX1_firstFault_22 ⟨rfl, rfl, Nat.le_of_ble_eq_true rfl, Nat.le_of_ble_eq_true rfl⟩ ⟨Nat.le_of_ble_eq_true rfl, Nat.le_of_ble_eq_true rfl⟩ ?_
        refine lv_if_ne (tgt := 30) hx hb dX1_firstFault_25 (by decide) (fun c_25 => ?_) (fun c_25 => ?_)
        · skip
          have b_25 := bI_1 c_25
          refine lv_iinc (v := nI ((prN P i).2 + 1)) (lv' := [(1, .int (nI ((prN P i).2 + 1))), (2, .int (nI ((prN P i).1))), (3, .int (nI i)), (0, .ref (ga G 1))]) hx hb dX1_firstFault_30 hl (k := 0) rfl (inc1 ((prN P i).2)) (by decide) rfl (fun ls hl => ?_)
          refine lv_aload_n hx hb dX1_firstFault_33 rfl (lv_at hl 3 rfl) ?_
          refine rd_X1_9 hx hb hown hW dX1_firstFault_34 ?_
          refine lv_iload_n hx hb dX1_firstFault_37 rfl (lv_at hl 2 rfl) ?_
          refine al_letters (k := i) hx hb hW rfl (by omega) dX1_firstFault_38 ?_
          refine lv_eqi (y := nI (P i)) (hp.2 i (by omega)).1 ?_
          refine lv_bipush (v := 44) hx hb dX1_firstFault_39 (by decide) ?_
          refine lv_icmp_ne (tgt := 49) hx hb dX1_firstFault_41 (by decide) (fun c_41 => ?_) (fun c_41 => ?_)
          · skip
            have q_41 := tN_ne (P i) 44 c_41 rfl rfl (by omega) (by omega)
            refine lv_iinc (v := nI (i + 1)) (lv' := [(3, .int (nI (i + 1))), (1, .int (nI ((prN P i).2 + 1))), (2, .int (nI ((prN P i).1))), (0, .ref (ga G 1))]) hx hb dX1_firstFault_49 hl (k := 2) rfl (inc1 i) (by decide) rfl (fun ls hl => ?_)
            refine lv_goto (tgt := 6) hx hb dX1_firstFault_52 (by decide) ?_
            exact ih_6 (i + 1) _ _ _ (by omega) (congrArg nI (pr2_n q_41).symm) (congrArg nI (pr1_n q_41).symm) rfl (by omega) (ft_y hi1_6 (by omega) b_25) (hi2_6.nx b_25) ls (lv_sub hl [1, 2, 0, 3] rfl)
          · skip
            have q_41 := tN_eq (P i) 44 c_41 rfl rfl (by omega) (by omega)
            refine lv_iconst (v := 0) hx hb dX1_firstFault_44 (by decide) ?_
            refine lv_istore_n (lv' := [(1, .int 0), (2, .int (nI ((prN P i).1))), (3, .int (nI i)), (0, .ref (ga G 1))]) hx hb dX1_firstFault_45 rfl hl (by decide) rfl (fun ls hl => ?_)
            refine lv_iinc (v := nI ((prN P i).1 + 1)) (lv' := [(2, .int (nI ((prN P i).1 + 1))), (1, .int 0), (3, .int (nI i)), (0, .ref (ga G 1))]) hx hb dX1_firstFault_46 hl (k := 1) rfl (inc1 ((prN P i).1)) (by decide) rfl (fun ls hl => ?_)
            refine lv_iinc (v := nI (i + 1)) (lv' := [(3, .int (nI (i + 1))), (2, .int (nI ((prN P i).1 + 1))), (1, .int 0), (0, .ref (ga G 1))]) hx hb dX1_firstFault_49 hl (k := 2) rfl (inc1 i) (by decide) rfl (fun ls hl => ?_)
            refine lv_goto (tgt := 6) hx hb dX1_firstFault_52 (by decide) ?_
            exact ih_6 (i + 1) _ _ _ (by omega) (congrArg nI (pr2_s q_41).symm) (congrArg nI (pr1_s q_41).symm) rfl (by omega) (ft_y hi1_6 (by omega) b_25) (hi2_6.nx b_25) ls (lv_sub hl [2, 1, 0, 3] rfl)
        · skip
          have b_25 := bI_0 c_25
          refine lv_iload_n hx hb dX1_firstFault_28 rfl (lv_at hl 2 rfl) ?_
          exact W.iret (v := nI i) hx hb hr (fun t9 ht9 hW9 => ⟨_, rfl, (congrArg nI (ft_n hi1_6 (by omega) b_25)), ht9⟩) (fun q h => by cases h) dX1_firstFault_29
  exact loop_6 _ 0 _ _ _ (Nat.lt_succ_self _) rfl rfl rfl (by omega) rfl PV_0 ls (lv_sub hl [2, 1, 0, 3] rfl)
set_option maxHeartbeats 4000000 in
set_option maxRecDepth 100000 in
theorem c_X1_lettersOfLastStick (l : Launch) (G : Gam) (σ : St) (pn : Nat) (P : Nat → Nat) (hp : PG σ pn P) : Met l yX1_lettersOfLastStick (w1 yX1_lettersOfLastStick cX1_lettersOfLastStick 3 (some .int)) ({ frames := 0, cells := 0, slots := 0, locals := 0 }) (PcX G σ [.ref (ga G 1)]) (vp_Si (fun r => r = nI (prN P pn).2)) 0 0 (fun _ => False) := by
  refine met_of [.ref (ga G 1)] [(0, .ref (ga G 1))] (by decide) (Nat.le_of_ble_eq_true rfl) rfl ?_
  intro p e s m below meth c hx hb hr hown hml hlocks hW ls hl
  have hG : GW s := hW.2.2.2.1
  have hp32 := hp.1.2
  refine lv_iconst (v := 0) hx hb dX1_lettersOfLastStick_0 (by decide) ?_
  refine lv_istore_n (lv' := [(1, .int 0), (0, .ref (ga G 1))]) hx hb dX1_lettersOfLastStick_1 rfl hl (by decide) rfl (fun ls hl => ?_)
  refine lv_iconst (v := 0) hx hb dX1_lettersOfLastStick_2 (by decide) ?_
  refine lv_istore_n (lv' := [(2, .int 0), (1, .int 0), (0, .ref (ga G 1))]) hx hb dX1_lettersOfLastStick_3 rfl hl (by decide) rfl (fun ls hl => ?_)
  have loop_4 : ∀ (N9 : Nat) (i : Nat) (po : Int32) (io : Int32), pn - i < N9 → po = nI ((prN P i).2) → io = nI i → i ≤ pn → ∀ ls : Array Slot, lv_has ls 3 [(1, .int po), (2, .int io), (0, .ref (ga G 1))] → W p l e (headSpec (w1 yX1_lettersOfLastStick cX1_lettersOfLastStick 3 (some .int)) ({ frames := 0, cells := 0, slots := 0, locals := 0 })).room s m [.ref (ga G 1)].toArray below meth c s.heap [] 0 0 (MQ below (vp_Si (fun r => r = nI (prN P pn).2)) [.ref (ga G 1)].toArray s 0 0 (fun _ => False)) (F0 m 4 ls []) := by
    intro N9
    induction N9 with
    | zero => intro i po io hN; exact absurd hN (Nat.not_lt_zero _)
    | succ N9 ih =>
      intro i po io hN e_po e_io hi0_4 ls hl
      subst e_po
      subst e_io
      have ih_4 := ih
      refine lv_iload_n hx hb dX1_lettersOfLastStick_4 rfl (lv_at hl 1 rfl) ?_
      refine lv_aload_n hx hb dX1_lettersOfLastStick_5 rfl (lv_at hl 2 rfl) ?_
      refine rd_X1_15 hx hb hown hW dX1_lettersOfLastStick_6 ?_
      refine lv_eqi (y := nI pn) hp.1.1 ?_
      refine lv_icmp_ge (tgt := 37) hx hb dX1_lettersOfLastStick_9 (by decide) (fun c_9 => ?_) (fun c_9 => ?_)
      · skip
        have q_9 := tN_le pn i c_9 rfl rfl (by omega) (by omega)
        refine lv_iload_n hx hb dX1_lettersOfLastStick_37 rfl (lv_at hl 0 rfl) ?_
        exact W.iret (v := nI ((prN P i).2)) hx hb hr (fun t9 ht9 hW9 => ⟨_, rfl, (by have h9 : i = pn := (by omega); subst h9; rfl), ht9⟩) (fun q h => by cases h) dX1_lettersOfLastStick_38
      · skip
        have q_9 := tN_nle pn i c_9 rfl rfl (by omega) (by omega)
        have hpi := (hp.2 i (by omega)).2
        refine lv_aload_n hx hb dX1_lettersOfLastStick_12 rfl (lv_at hl 2 rfl) ?_
        refine rd_X1_9 hx hb hown hW dX1_lettersOfLastStick_13 ?_
        refine lv_iload_n hx hb dX1_lettersOfLastStick_16 rfl (lv_at hl 1 rfl) ?_
        refine al_letters (k := i) hx hb hW rfl (by omega) dX1_lettersOfLastStick_17 ?_
        refine lv_eqi (y := nI (P i)) (hp.2 i (by omega)).1 ?_
        refine lv_bipush (v := 44) hx hb dX1_lettersOfLastStick_18 (by decide) ?_
        refine lv_icmp_ne (tgt := 27) hx hb dX1_lettersOfLastStick_20 (by decide) (fun c_20 => ?_) (fun c_20 => ?_)
        · skip
          have q_20 := tN_ne (P i) 44 c_20 rfl rfl (by omega) (by omega)
          refine lv_iload_n hx hb dX1_lettersOfLastStick_27 rfl (lv_at hl 0 rfl) ?_
          refine lv_iconst (v := 1) hx hb dX1_lettersOfLastStick_28 (by decide) ?_
          refine ln_add ((prN P i).2) 1 hx hb rfl rfl dX1_lettersOfLastStick_29 ?_
          refine lv_istore_n (lv' := [(1, .int (nI (((prN P i).2) + 1))), (2, .int (nI i)), (0, .ref (ga G 1))]) hx hb dX1_lettersOfLastStick_30 rfl hl (by decide) rfl (fun ls hl => ?_)
          refine lv_iinc (v := nI (i + 1)) (lv' := [(2, .int (nI (i + 1))), (1, .int (nI (((prN P i).2) + 1))), (0, .ref (ga G 1))]) hx hb dX1_lettersOfLastStick_31 hl (k := 1) rfl (inc1 i) (by decide) rfl (fun ls hl => ?_)
          refine lv_goto (tgt := 4) hx hb dX1_lettersOfLastStick_34 (by decide) ?_
          exact ih_4 (i + 1) _ _ (by omega) (congrArg nI (pr2_n q_20).symm) rfl (by omega) ls (lv_sub hl [1, 0, 2] rfl)
        · skip
          have q_20 := tN_eq (P i) 44 c_20 rfl rfl (by omega) (by omega)
          refine lv_iconst (v := 0) hx hb dX1_lettersOfLastStick_23 (by decide) ?_
          refine lv_goto (tgt := 30) hx hb dX1_lettersOfLastStick_24 (by decide) ?_
          refine lv_istore_n (lv' := [(1, .int 0), (2, .int (nI i)), (0, .ref (ga G 1))]) hx hb dX1_lettersOfLastStick_30 rfl hl (by decide) rfl (fun ls hl => ?_)
          refine lv_iinc (v := nI (i + 1)) (lv' := [(2, .int (nI (i + 1))), (1, .int 0), (0, .ref (ga G 1))]) hx hb dX1_lettersOfLastStick_31 hl (k := 1) rfl (inc1 i) (by decide) rfl (fun ls hl => ?_)
          refine lv_goto (tgt := 4) hx hb dX1_lettersOfLastStick_34 (by decide) ?_
          exact ih_4 (i + 1) _ _ (by omega) (congrArg nI (pr2_s q_20).symm) rfl (by omega) ls (lv_sub hl [1, 0, 2] rfl)
  exact loop_4 _ 0 _ _ (Nat.lt_succ_self _) rfl rfl (by omega) ls (lv_sub hl [1, 0, 2] rfl)
theorem pr_le {P : Nat → Nat} : ∀ i, (prN P i).2 ≤ i := by
  intro i
  induction i with
  | zero => exact Nat.le_refl 0
  | succ i ih =>
    unfold prN
    split
    · exact Nat.zero_le _
    · show (prN P i).2 + 1 ≤ i + 1; omega
set_option maxHeartbeats 4000000 in
set_option maxRecDepth 100000 in
theorem c_X1_tellsHills (l : Launch) (G : Gam) (σ : St) (pn : Nat) (P : Nat → Nat) (hp : PG σ pn P) : Met l yX1_tellsHills (w1 yX1_tellsHills cX1_tellsHills 1 (some .boolean)) ({ frames := 6, cells := 0, slots := 0, locals := 136 }) (PcS G σ [.ref (ga G 1)]) (vp_Si (fun r => r = bI (decide (ftN P pn = pn ∧ 2 < (prN P pn).2)))) 0 0 (fun _ => False) := by
  refine met_of [.ref (ga G 1)] [(0, .ref (ga G 1))] (by decide) (Nat.le_of_ble_eq_true rfl) rfl ?_
  intro p e s m below meth c hx hb hr hown hml hlocks hW ls hl
  obtain ⟨hW, hSX⟩ := hW
  have hG : GW s := hW.2.2.2.1
  have hp32 := hp.1.2
  have hft := ftN_le (P := P) (pn := pn)
  have hpl9 := pr_le (P := P) pn
  refine lv_aload_n hx hb dX1_tellsHills_0 rfl (lv_at hl 0 rfl) ?_
  refine cr_i (q := 288) [] hx hb hml hown hG v_X1_firstFault (by decide +kernel) (c_X1_firstFault l G σ pn P hp) (preSP hW hSX _) rfl hl.1 (Nat.le_of_ble_eq_true rfl) dX1_tellsHills_1 ⟨rfl, rfl, Nat.le_of_ble_eq_true rfl, Nat.le_of_ble_eq_true rfl⟩ ⟨Nat.le_of_ble_eq_true rfl, Nat.le_of_ble_eq_true rfl⟩ ?_
  refine lv_aload_n hx hb dX1_tellsHills_4 rfl (lv_at hl 0 rfl) ?_
  refine rd_X1_15 hx hb hown hW dX1_tellsHills_5 ?_
  refine lv_eqi (y := nI pn) hp.1.1 ?_
  refine lv_icmp_ne (tgt := 23) hx hb dX1_tellsHills_8 (by decide) (fun c_8 => ?_) (fun c_8 => ?_)
  · skip
    have q_8 := tN_ne (ftN P pn) pn c_8 rfl rfl (by omega) (by omega)
    refine lv_iconst (v := 0) hx hb dX1_tellsHills_23 (by decide) ?_
    exact W.zret (v := 0) (ty := .boolean) hx hb hr rfl (fun t9 ht9 hW9 => ⟨_, rfl, (by rw [decide_eq_false (fun z => absurd z.1 q_8)]; rfl), ht9⟩) (fun q h => by cases h) dX1_tellsHills_24
  · skip
    have q_8 := tN_eq (ftN P pn) pn c_8 rfl rfl (by omega) (by omega)
    refine lv_aload_n hx hb dX1_tellsHills_11 rfl (lv_at hl 0 rfl) ?_
    refine cr_i (q := 289) [] hx hb hml hown hG v_X1_lettersOfLastStick (by decide +kernel) (c_X1_lettersOfLastStick l G σ pn P hp) (preP hW _) rfl hl.1 (Nat.le_of_ble_eq_true rfl) dX1_tellsHills_12 ⟨rfl, rfl, Nat.le_of_ble_eq_true rfl, Nat.le_of_ble_eq_true rfl⟩ ⟨Nat.le_of_ble_eq_true rfl, Nat.le_of_ble_eq_true rfl⟩ ?_
    refine lv_iconst (v := 2) hx hb dX1_tellsHills_15 (by decide) ?_
    refine lv_icmp_le (tgt := 23) hx hb dX1_tellsHills_16 (by decide) (fun c_16 => ?_) (fun c_16 => ?_)
    · skip
      have q_16 := tN_le ((prN P pn).2) 2 c_16 rfl rfl (by omega) (by omega)
      refine lv_iconst (v := 0) hx hb dX1_tellsHills_23 (by decide) ?_
      exact W.zret (v := 0) (ty := .boolean) hx hb hr rfl (fun t9 ht9 hW9 => ⟨_, rfl, (by rw [decide_eq_false (fun z => absurd z.2 (by omega))]; rfl), ht9⟩) (fun q h => by cases h) dX1_tellsHills_24
    · skip
      have q_16 := tN_nle ((prN P pn).2) 2 c_16 rfl rfl (by omega) (by omega)
      refine lv_iconst (v := 1) hx hb dX1_tellsHills_19 (by decide) ?_
      refine lv_goto (tgt := 24) hx hb dX1_tellsHills_20 (by decide) ?_
      exact W.zret (v := 1) (ty := .boolean) hx hb hr rfl (fun t9 ht9 hW9 => ⟨_, rfl, (by rw [decide_eq_true ⟨q_8, by omega⟩]; rfl), ht9⟩) (fun q h => by cases h) dX1_tellsHills_24
set_option maxHeartbeats 4000000 in
set_option maxRecDepth 100000 in
theorem c_X1_readInto (l : Launch) (G : Gam) (σ : St) (pn : Nat) (P : Nat → Nat) (hp : PG σ pn P) (hy : ftN P pn = pn) : Met l yX1_readInto (w1 yX1_readInto cX1_readInto 7 none) ({ frames := 5, cells := 0, slots := 0, locals := 108 }) (PcS G σ [.ref (ga G 1), .ref (ga G (5 * 0 + 4))]) (QvX G (fun σ9 => RI σ P pn σ9)) 0 0 (aX G) := by
  refine met_of [.ref (ga G 1), .ref (ga G (5 * 0 + 4))] [(0, .ref (ga G 1)), (1, .ref (ga G (5 * 0 + 4)))] (by decide) (Nat.le_of_ble_eq_true rfl) rfl ?_
  intro p e s m below meth c hx hb hr hown hml hlocks hW ls hl
  obtain ⟨hW, hSX⟩ := hW
  have hG : GW s := hW.2.2.2.1
  have hS : va_S (aX G) s.heap s.heap [] := va_S.rf
  have hp32 := hp.1.2
  refine lv_aload_n hx hb dX1_readInto_0 rfl (lv_at hl 1 rfl) ?_
  refine cw_v (q := 297) [] hx hb hml hown hW.2 hS v_X0_clear (by decide +kernel) (c_X0_clear l G σ 0 (by omega)) (preH hW (show 0 < 2 by omega) _) rfl hl.1 (Nat.le_of_ble_eq_true rfl) dX1_readInto_1 ⟨rfl, rfl, Nat.le_of_ble_eq_true rfl, Nat.le_of_ble_eq_true rfl⟩ ⟨Nat.le_of_ble_eq_true rfl, Nat.le_of_ble_eq_true rfl⟩ (fun σ1 H locs hσ1 hW hS => ?_)
  refine lv_iconst (v := 0) hx hb dX1_readInto_4 (by decide) ?_
  refine lv_istore_n (lv' := [(2, .int 0), (0, .ref (ga G 1)), (1, .ref (ga G (5 * 0 + 4)))]) hx hb dX1_readInto_5 rfl hl (by decide) rfl (fun ls hl => ?_)
  refine lv_iconst (v := 0) hx hb dX1_readInto_6 (by decide) ?_
  refine lv_istore_n (lv' := [(3, .int 0), (2, .int 0), (0, .ref (ga G 1)), (1, .ref (ga G (5 * 0 + 4)))]) hx hb dX1_readInto_7 rfl hl (by decide) rfl (fun ls hl => ?_)
  refine lv_null hx hb dX1_readInto_8 ?_
  refine lv_astoreN (lv' := [(4, .null), (3, .int 0), (2, .int 0), (0, .ref (ga G 1)), (1, .ref (ga G (5 * 0 + 4)))]) hx hb dX1_readInto_9 hl (by decide) rfl (fun ls hl => ?_)
  refine lv_iconst (v := 0) hx hb dX1_readInto_11 (by decide) ?_
  refine lv_istore (lv' := [(5, .int 0), (4, .null), (3, .int 0), (2, .int 0), (0, .ref (ga G 1)), (1, .ref (ga G (5 * 0 + 4)))]) hx hb dX1_readInto_12 hl (by decide) rfl (fun ls hl => ?_)
  have loop_14 : ∀ (N9 : Nat) (i : Nat) (po : Int32) (ko : Int32) (rv : Value) (io : Int32) (σw : St) (H : Heap) (locs : List Loc), pn - i < N9 → po = nI ((prN P i).2) → io = nI i → i ≤ pn → (1 ≤ (prN P i).2 → ko = nI (pgS P i (prN P i).1 0)) → (2 ≤ (prN P i).2 → rv = .ref (ga G (3 * (6 * 0 + (prN P i).1) + 14))) → (rv = .null ∨ ∃ x9, rv = .ref x9) → WX G σw s H → va_S (aX G) s.heap H locs → RI σ P i σw → ∀ ls : Array Slot, lv_has ls 7 [(2, .int po), (3, .int ko), (4, rv), (5, .int io), (0, .ref (ga G 1)), (1, .ref (ga G (5 * 0 + 4)))] → W p l e (headSpec (w1 yX1_readInto cX1_readInto 7 none) ({ frames := 5, cells := 0, slots := 0, locals := 108 })).room s m [.ref (ga G 1), .ref (ga G (5 * 0 + 4))].toArray below meth c H locs 0 0 (MQ below (QvX G (fun σ9 => RI σ P pn σ9)) [.ref (ga G 1), .ref (ga G (5 * 0 + 4))].toArray s 0 0 (aX G)) (F0 m 14 ls []) := by
    intro N9
    induction N9 with
    | zero => intro i po ko rv io σw H locs hN; exact absurd hN (Nat.not_lt_zero _)
    | succ N9 ih =>
      intro i po ko rv io σw H locs hN e_po e_io hi0_14 hi1_14 hi2_14 hi3_14 hW hS hw0_14 ls hl
      subst e_po
      subst e_io
      have ih_14 := ih
      have hpw := hp.fh hw0_14.2.1
      have hPV := pv_all hy i (by omega)
      have hb3 := hPV.2.1
      have hps := hPV.2.2.1
      refine lv_iload hx hb dX1_readInto_14 (lv_at hl 3 rfl) ?_
      refine lv_aload_n hx hb dX1_readInto_16 rfl (lv_at hl 4 rfl) ?_
      refine rd_X1_15 hx hb hown hW dX1_readInto_17 ?_
      refine lv_eqi (y := nI pn) hpw.1.1 ?_
      refine lv_icmp_ge (tgt := 105) hx hb dX1_readInto_20 (by decide) (fun c_20 => ?_) (fun c_20 => ?_)
      · skip
        have q_20 := tN_le pn i c_20 rfl rfl (by omega) (by omega)
        exact W.vret hx hb hr (fun t9 ht9 hW9 => ⟨⟨σw, rfl, (by have h9 : i = pn := (by omega); subst h9; exact hw0_14), (by have h8 := hW.1; rw [← ht9] at h8; exact h8)⟩, hS.F ht9⟩) hS.2.2 dX1_readInto_105
      · skip
        have q_20 := tN_nle pn i c_20 rfl rfl (by omega) (by omega)
        have hpi := (hp.2 i (by omega)).2
        have hfit := ft_all hy (j := i) (by omega)
        refine lv_aload_n hx hb dX1_readInto_23 rfl (lv_at hl 4 rfl) ?_
        refine rd_X1_9 hx hb hown hW dX1_readInto_24 ?_
        refine lv_iload hx hb dX1_readInto_27 (lv_at hl 3 rfl) ?_
        refine al_letters (k := i) hx hb hW rfl (by omega) dX1_readInto_29 ?_
        refine lv_eqi (y := nI (P i)) (hpw.2 i (by omega)).1 ?_
        refine lv_istore (lv' := [(6, .int (nI (P i))), (2, .int (nI ((prN P i).2))), (3, .int ko), (4, rv), (5, .int (nI i)), (0, .ref (ga G 1)), (1, .ref (ga G (5 * 0 + 4)))]) hx hb dX1_readInto_30 hl (by decide) rfl (fun ls hl => ?_)
        refine lv_iload hx hb dX1_readInto_32 (lv_at hl 0 rfl) ?_
        refine lv_bipush (v := 44) hx hb dX1_readInto_34 (by decide) ?_
        refine lv_icmp_ne (tgt := 44) hx hb dX1_readInto_36 (by decide) (fun c_36 => ?_) (fun c_36 => ?_)
        · skip
          have q_36 := tN_ne (P i) 44 c_36 rfl rfl (by omega) (by omega)
          refine lv_iload_n hx hb dX1_readInto_44 rfl (lv_at hl 1 rfl) ?_
          refine lv_if_ne (tgt := 59) hx hb dX1_readInto_45 (by decide) (fun c_45 => ?_) (fun c_45 => ?_)
          · skip
            have q_45 := tN_ne ((prN P i).2) 0 c_45 rfl rfl (by omega) (by omega)
            refine lv_iload_n hx hb dX1_readInto_59 rfl (lv_at hl 1 rfl) ?_
            refine lv_iconst (v := 1) hx hb dX1_readInto_60 (by decide) ?_
            refine lv_icmp_ne (tgt := 79) hx hb dX1_readInto_61 (by decide) (fun c_61 => ?_) (fun c_61 => ?_)
            · skip
              have q_61 := tN_ne ((prN P i).2) 1 c_61 rfl rfl (by omega) (by omega)
              have hrv9 := hi2_14 (by omega)
              · skip
                subst hrv9
                have hl : lv_has ls 7 [(6, .int (nI (P i))), (2, .int (nI ((prN P i).2))), (3, .int ko), (4, .ref (ga G (3 * (6 * 0 + (prN P i).1) + 14))), (5, .int (nI i)), (0, .ref (ga G 1)), (1, .ref (ga G (5 * 0 + 4)))] := hl
                refine lv_aload hx hb dX1_readInto_79 (lv_at hl 3 rfl) ?_
                refine lv_ifnull hx hb dX1_readInto_81 ?_
                have hz := fit_2 hfit (by omega) q_36
                obtain ⟨hv1, hv2, hv3⟩ := hPV.2.2.2.2.2 (by omega)
                have hvS : VS (pgU (P i) (prN P i).2 (pgS P i (prN P i).1)) := pgU_2v (by omega) hz.1 hz.2 hv1 hv2
                have hgs9 := ((hw0_14.1 (fun _ => 0)).2.2.2.1 (prN P i).1 (by rw [nS_2 hPV.1 (by omega)]; omega)).2.1
                have eS9 : (pgU (P i) (prN P i).2 (pgS P i (prN P i).1)) = _ := pgU_2 (show 2 ≤ (prN P i).2 by omega)
                refine lv_aload hx hb dX1_readInto_84 (lv_at hl 3 rfl) ?_
                refine va_ldcS hx hb hown hSX.2.2.2.1 dX1_readInto_86 ?_
                refine lv_iload hx hb dX1_readInto_88 (lv_at hl 0 rfl) ?_
                refine cr_i (q := 189) [.int (nI (P i))] hx hb hml hown hG v_J0_indexOf_0f7a4 (by decide +kernel) (c_J0_indexOf_0f7a4_1 l G (P i) (by omega)) (preJ (hSX.kept hS) 1 (by decide) _) rfl hl.1 (Nat.le_of_ble_eq_true rfl) dX1_readInto_90 ⟨rfl, rfl, Nat.le_of_ble_eq_true rfl, Nat.le_of_ble_eq_true rfl⟩ ⟨Nat.le_of_ble_eq_true rfl, Nat.le_of_ble_eq_true rfl⟩ ?_
                refine lv_eqi (y := nI (stN (P i))) (oN_y (by omega)) ?_
                refine cw_v (q := 329) [.int (nI (stN (P i)))] hx hb hml hown hW.2 hS v_X2_addStep (by decide +kernel) (c_X2_addStep l G σw (6 * 0 + (prN P i).1) (by omega) (pgS P i (prN P i).1) hv1 hgs9 (pgU (P i) (prN P i).2 (pgS P i (prN P i).1)) hvS (by omega) (pgU_10 (by omega)) (by rw [eS9]; show (if 1 = 3 then _ else if 1 = (prN P i).2 + 2 then _ else pgS P i (prN P i).1 1) = _; rw [if_neg (by decide), if_neg (by omega)]) (by rw [eS9]; show (prN P i).2 - 1 = _; omega) (fun x9 hx9 => by rw [eS9]; show (if 4 + x9 = 3 then _ else if 4 + x9 = (prN P i).2 + 2 then _ else pgS P i (prN P i).1 (4 + x9)) = _; rw [if_neg (by omega), if_neg (by omega)]) (stN (P i)) (by rw [eS9]; show (if 4 + pgS P i (prN P i).1 3 = 3 then _ else if 4 + pgS P i (prN P i).1 3 = (prN P i).2 + 2 then _ else _) = _; rw [if_neg (by omega), if_pos (by omega)])) (preK hW (by omega) _) rfl hl.1 (Nat.le_of_ble_eq_true rfl) dX1_readInto_93 ⟨rfl, rfl, Nat.le_of_ble_eq_true rfl, Nat.le_of_ble_eq_true rfl⟩ ⟨Nat.le_of_ble_eq_true rfl, Nat.le_of_ble_eq_true rfl⟩ (fun σ2 H locs hσ2 hW hS => ?_)
                refine lv_iinc (v := nI ((prN P i).2 + 1)) (lv' := [(2, .int (nI ((prN P i).2 + 1))), (6, .int (nI (P i))), (3, .int ko), (4, .ref (ga G (3 * (6 * 0 + (prN P i).1) + 14))), (5, .int (nI i)), (0, .ref (ga G 1)), (1, .ref (ga G (5 * 0 + 4)))]) hx hb dX1_readInto_96 hl (k := 1) rfl (inc1 ((prN P i).2)) (by decide) rfl (fun ls hl => ?_)
                refine lv_iinc (v := nI (i + 1)) (lv' := [(5, .int (nI (i + 1))), (2, .int (nI ((prN P i).2 + 1))), (6, .int (nI (P i))), (3, .int ko), (4, .ref (ga G (3 * (6 * 0 + (prN P i).1) + 14))), (0, .ref (ga G 1)), (1, .ref (ga G (5 * 0 + 4)))]) hx hb dX1_readInto_99 hl (k := 4) rfl (inc1 i) (by decide) rfl (fun ls hl => ?_)
                refine lv_goto (tgt := 14) hx hb dX1_readInto_102 (by decide) ?_
                exact ih_14 (i + 1) _ _ _ _ _ _ _ (by omega) (congrArg nI (pr2_n q_36).symm) rfl (by omega) (fun _ => ko_nx q_36 (by omega) (hi1_14 (by omega))) (fun z => by rw [pr1_n q_36]) (by first | exact Or.inl rfl | exact Or.inr ⟨_, rfl⟩) hW hS (hw0_14.step hPV (by omega) q_36 hvS hσ2) ls (lv_sub hl [1, 3, 4, 0, 5, 6] rfl)
            · skip
              have q_61 := tN_eq ((prN P i).2) 1 c_61 rfl rfl (by omega) (by omega)
              have hz := fit_1 (by rw [q_61] at hfit; exact hfit)
              have hvS : VS (pgU (P i) 1 (pgS P i (prN P i).1)) := pgU_1v (hPV.2.2.2.2.1 (by omega)) hz
              have hnn : σw (5 * 0 + 4) 4 = nI (prN P i).1 := by have h8 := (hw0_14.1 (fun _ => 0)).1.1; rw [nS_1 hPV.1 (by omega)] at h8; exact h8
              refine lv_aload_n hx hb dX1_readInto_64 rfl (lv_at hl 6 rfl) ?_
              have hko9 := hi1_14 (by omega)
              · skip
                subst hko9
                have hl : lv_has ls 7 [(6, .int (nI (P i))), (2, .int (nI ((prN P i).2))), (3, .int (nI (pgS P i (prN P i).1 0))), (4, rv), (5, .int (nI i)), (0, .ref (ga G 1)), (1, .ref (ga G (5 * 0 + 4)))] := hl
                refine lv_iload_n hx hb dX1_readInto_65 rfl (lv_at hl 2 rfl) ?_
                refine lv_iload hx hb dX1_readInto_66 (lv_at hl 0 rfl) ?_
                refine lv_bipush (v := 97) hx hb dX1_readInto_68 (by decide) ?_
                refine ln_sub (P i) 97 hx hb rfl rfl (by omega) dX1_readInto_70 ?_
                refine cw_r (q := 298) [.int (nI (pgS P i (prN P i).1 0)), .int (nI ((P i) - 97))] hx hb hml hown hW.2 hS v_X0_add (by decide +kernel) (c_X0_add l G σw 0 (by omega) (prN P i).1 hnn (by omega) (pgU (P i) 1 (pgS P i (prN P i).1)) hvS rfl) (preH hW (show 0 < 2 by omega) _) rfl hl.1 (Nat.le_of_ble_eq_true rfl) dX1_readInto_71 ⟨rfl, rfl, Nat.le_of_ble_eq_true rfl, Nat.le_of_ble_eq_true rfl⟩ ⟨Nat.le_of_ble_eq_true rfl, Nat.le_of_ble_eq_true rfl⟩ (fun σ3 H locs hσ3 hW hS => ?_)
                refine lv_astore (lv' := [(4, .ref (ga G (3 * (6 * 0 + (prN P i).1) + 14))), (6, .int (nI (P i))), (2, .int (nI ((prN P i).2))), (3, .int (nI (pgS P i (prN P i).1 0))), (5, .int (nI i)), (0, .ref (ga G 1)), (1, .ref (ga G (5 * 0 + 4)))]) hx hb dX1_readInto_74 hl (by decide) rfl (fun ls hl => ?_)
                refine lv_goto (tgt := 96) hx hb dX1_readInto_76 (by decide) ?_
                refine lv_iinc (v := nI ((prN P i).2 + 1)) (lv' := [(2, .int (nI ((prN P i).2 + 1))), (4, .ref (ga G (3 * (6 * 0 + (prN P i).1) + 14))), (6, .int (nI (P i))), (3, .int (nI (pgS P i (prN P i).1 0))), (5, .int (nI i)), (0, .ref (ga G 1)), (1, .ref (ga G (5 * 0 + 4)))]) hx hb dX1_readInto_96 hl (k := 2) rfl (inc1 ((prN P i).2)) (by decide) rfl (fun ls hl => ?_)
                refine lv_iinc (v := nI (i + 1)) (lv' := [(5, .int (nI (i + 1))), (2, .int (nI ((prN P i).2 + 1))), (4, .ref (ga G (3 * (6 * 0 + (prN P i).1) + 14))), (6, .int (nI (P i))), (3, .int (nI (pgS P i (prN P i).1 0))), (0, .ref (ga G 1)), (1, .ref (ga G (5 * 0 + 4)))]) hx hb dX1_readInto_99 hl (k := 4) rfl (inc1 i) (by decide) rfl (fun ls hl => ?_)
                refine lv_goto (tgt := 14) hx hb dX1_readInto_102 (by decide) ?_
                exact ih_14 (i + 1) _ _ _ _ _ _ _ (by omega) (congrArg nI (pr2_n q_36).symm) rfl (by omega) (fun _ => ko_nx q_36 (by omega) rfl) (fun z => by rw [pr1_n q_36]) (by first | exact Or.inl rfl | exact Or.inr ⟨_, rfl⟩) hW hS (hw0_14.place hPV q_61 q_36 hvS hσ3) ls (lv_sub hl [1, 4, 2, 0, 5, 6] rfl)
          · skip
            have q_45 := tN_eq ((prN P i).2) 0 c_45 rfl rfl (by omega) (by omega)
            refine va_ldcS hx hb hown hSX.2.2.1 dX1_readInto_48 ?_
            refine lv_iload hx hb dX1_readInto_50 (lv_at hl 0 rfl) ?_
            refine cr_i (q := 189) [.int (nI (P i))] hx hb hml hown hG v_J0_indexOf_0f7a4 (by decide +kernel) (c_J0_indexOf_0f7a4_0 l G (P i) (by omega)) (preJ (hSX.kept hS) 0 (by decide) _) rfl hl.1 (Nat.le_of_ble_eq_true rfl) dX1_readInto_52 ⟨rfl, rfl, Nat.le_of_ble_eq_true rfl, Nat.le_of_ble_eq_true rfl⟩ ⟨Nat.le_of_ble_eq_true rfl, Nat.le_of_ble_eq_true rfl⟩ ?_
            refine lv_eqi (y := nI (kdN (P i))) (oN_y (by have := kd_9 (P i); rw [q_45] at hfit; have := fit_0 hfit; omega)) ?_
            refine lv_istore_n (lv' := [(3, .int (nI (kdN (P i)))), (6, .int (nI (P i))), (2, .int (nI ((prN P i).2))), (4, rv), (5, .int (nI i)), (0, .ref (ga G 1)), (1, .ref (ga G (5 * 0 + 4)))]) hx hb dX1_readInto_55 rfl hl (by decide) rfl (fun ls hl => ?_)
            refine lv_goto (tgt := 96) hx hb dX1_readInto_56 (by decide) ?_
            refine lv_iinc (v := nI ((prN P i).2 + 1)) (lv' := [(2, .int (nI ((prN P i).2 + 1))), (3, .int (nI (kdN (P i)))), (6, .int (nI (P i))), (4, rv), (5, .int (nI i)), (0, .ref (ga G 1)), (1, .ref (ga G (5 * 0 + 4)))]) hx hb dX1_readInto_96 hl (k := 2) rfl (inc1 ((prN P i).2)) (by decide) rfl (fun ls hl => ?_)
            rcases hi3_14 with rfl | ⟨x9, rfl⟩
            · skip
              have hl : lv_has ls 7 [(2, .int (nI ((prN P i).2 + 1))), (3, .int (nI (kdN (P i)))), (6, .int (nI (P i))), (4, .null), (5, .int (nI i)), (0, .ref (ga G 1)), (1, .ref (ga G (5 * 0 + 4)))] := hl
              refine lv_iinc (v := nI (i + 1)) (lv' := [(5, .int (nI (i + 1))), (2, .int (nI ((prN P i).2 + 1))), (3, .int (nI (kdN (P i)))), (6, .int (nI (P i))), (4, .null), (0, .ref (ga G 1)), (1, .ref (ga G (5 * 0 + 4)))]) hx hb dX1_readInto_99 hl (k := 4) rfl (inc1 i) (by decide) rfl (fun ls hl => ?_)
              refine lv_goto (tgt := 14) hx hb dX1_readInto_102 (by decide) ?_
              exact ih_14 (i + 1) _ _ _ _ _ _ _ (by omega) (congrArg nI (pr2_n q_36).symm) rfl (by omega) (fun _ => ko_0 q_36 q_45) (fun z => absurd z (by rw [pr2_n q_36]; omega)) (by first | exact Or.inl rfl | exact Or.inr ⟨_, rfl⟩) hW hS (hw0_14.kind hPV q_45 q_36) ls (lv_sub hl [1, 2, 4, 0, 5, 6] rfl)
            · skip
              have hl : lv_has ls 7 [(2, .int (nI ((prN P i).2 + 1))), (3, .int (nI (kdN (P i)))), (6, .int (nI (P i))), (4, .ref (x9)), (5, .int (nI i)), (0, .ref (ga G 1)), (1, .ref (ga G (5 * 0 + 4)))] := hl
              refine lv_iinc (v := nI (i + 1)) (lv' := [(5, .int (nI (i + 1))), (2, .int (nI ((prN P i).2 + 1))), (3, .int (nI (kdN (P i)))), (6, .int (nI (P i))), (4, .ref (x9)), (0, .ref (ga G 1)), (1, .ref (ga G (5 * 0 + 4)))]) hx hb dX1_readInto_99 hl (k := 4) rfl (inc1 i) (by decide) rfl (fun ls hl => ?_)
              refine lv_goto (tgt := 14) hx hb dX1_readInto_102 (by decide) ?_
              exact ih_14 (i + 1) _ _ _ _ _ _ _ (by omega) (congrArg nI (pr2_n q_36).symm) rfl (by omega) (fun _ => ko_0 q_36 q_45) (fun z => absurd z (by rw [pr2_n q_36]; omega)) (by first | exact Or.inl rfl | exact Or.inr ⟨_, rfl⟩) hW hS (hw0_14.kind hPV q_45 q_36) ls (lv_sub hl [1, 2, 4, 0, 5, 6] rfl)
        · skip
          have q_36 := tN_eq (P i) 44 c_36 rfl rfl (by omega) (by omega)
          refine lv_iconst (v := 0) hx hb dX1_readInto_39 (by decide) ?_
          refine lv_istore_n (lv' := [(2, .int 0), (6, .int (nI (P i))), (3, .int ko), (4, rv), (5, .int (nI i)), (0, .ref (ga G 1)), (1, .ref (ga G (5 * 0 + 4)))]) hx hb dX1_readInto_40 rfl hl (by decide) rfl (fun ls hl => ?_)
          refine lv_goto (tgt := 99) hx hb dX1_readInto_41 (by decide) ?_
          rcases hi3_14 with rfl | ⟨x9, rfl⟩
          · skip
            have hl : lv_has ls 7 [(2, .int 0), (6, .int (nI (P i))), (3, .int ko), (4, .null), (5, .int (nI i)), (0, .ref (ga G 1)), (1, .ref (ga G (5 * 0 + 4)))] := hl
            refine lv_iinc (v := nI (i + 1)) (lv' := [(5, .int (nI (i + 1))), (2, .int 0), (6, .int (nI (P i))), (3, .int ko), (4, .null), (0, .ref (ga G 1)), (1, .ref (ga G (5 * 0 + 4)))]) hx hb dX1_readInto_99 hl (k := 4) rfl (inc1 i) (by decide) rfl (fun ls hl => ?_)
            refine lv_goto (tgt := 14) hx hb dX1_readInto_102 (by decide) ?_
            exact ih_14 (i + 1) _ _ _ _ _ _ _ (by omega) (congrArg nI (pr2_s q_36).symm) rfl (by omega) (fun z => absurd z (by rw [pr2_s q_36]; omega)) (fun z => absurd z (by rw [pr2_s q_36]; omega)) (by first | exact Or.inl rfl | exact Or.inr ⟨_, rfl⟩) hW hS (hw0_14.sep hPV hfit q_36) ls (lv_sub hl [1, 3, 4, 0, 5, 6] rfl)
          · skip
            have hl : lv_has ls 7 [(2, .int 0), (6, .int (nI (P i))), (3, .int ko), (4, .ref (x9)), (5, .int (nI i)), (0, .ref (ga G 1)), (1, .ref (ga G (5 * 0 + 4)))] := hl
            refine lv_iinc (v := nI (i + 1)) (lv' := [(5, .int (nI (i + 1))), (2, .int 0), (6, .int (nI (P i))), (3, .int ko), (4, .ref (x9)), (0, .ref (ga G 1)), (1, .ref (ga G (5 * 0 + 4)))]) hx hb dX1_readInto_99 hl (k := 4) rfl (inc1 i) (by decide) rfl (fun ls hl => ?_)
            refine lv_goto (tgt := 14) hx hb dX1_readInto_102 (by decide) ?_
            exact ih_14 (i + 1) _ _ _ _ _ _ _ (by omega) (congrArg nI (pr2_s q_36).symm) rfl (by omega) (fun z => absurd z (by rw [pr2_s q_36]; omega)) (fun z => absurd z (by rw [pr2_s q_36]; omega)) (by first | exact Or.inl rfl | exact Or.inr ⟨_, rfl⟩) hW hS (hw0_14.sep hPV hfit q_36) ls (lv_sub hl [1, 3, 4, 0, 5, 6] rfl)
  exact loop_14 _ 0 _ _ _ _ _ _ _ (Nat.lt_succ_self _) rfl rfl (by omega) (fun z => absurd z (show ¬ 1 ≤ 0 by decide)) (fun z => absurd z (show ¬ 2 ≤ 0 by decide)) (Or.inl rfl) hW hS (by rw [hσ1]; exact RI_0) ls (lv_sub hl [3, 2, 1, 0, 4, 5] rfl)
set_option maxHeartbeats 4000000 in
set_option maxRecDepth 100000 in
theorem c_X3_fault (l : Launch) (G : Gam) (σ : St) (pn : Nat) (P : Nat → Nat) (hp : PG σ pn P) : Met l yX3_fault (w1 yX3_fault cX3_fault 1 (some .int)) ({ frames := 6, cells := 0, slots := 0, locals := 136 }) (PcS G σ [.ref (ga G 0)]) (vp_Si (fun r => r = nI (ftN P pn))) 0 0 (fun _ => False) := by
  refine met_of [.ref (ga G 0)] [(0, .ref (ga G 0))] (by decide) (Nat.le_of_ble_eq_true rfl) rfl ?_
  intro p e s m below meth c hx hb hr hown hml hlocks hW ls hl
  obtain ⟨hW, hSX⟩ := hW
  have hG : GW s := hW.2.2.2.1
  refine lv_aload_n hx hb dX3_fault_0 rfl (lv_at hl 0 rfl) ?_
  refine rd_X3_10 hx hb hown hW dX3_fault_1 ?_
  refine cr_i (q := 181) [] hx hb hml hown hG v_X1_firstFault (by decide +kernel) (c_X1_firstFault l G σ pn P hp) (preSP hW hSX _) rfl hl.1 (Nat.le_of_ble_eq_true rfl) dX3_fault_4 ⟨rfl, rfl, Nat.le_of_ble_eq_true rfl, Nat.le_of_ble_eq_true rfl⟩ ⟨Nat.le_of_ble_eq_true rfl, Nat.le_of_ble_eq_true rfl⟩ ?_
  exact W.iret (v := nI (ftN P pn)) hx hb hr (fun t9 ht9 hW9 => ⟨_, rfl, rfl, ht9⟩) (fun q h => by cases h) dX3_fault_7
