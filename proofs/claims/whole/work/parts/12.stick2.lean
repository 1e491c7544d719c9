set_option maxHeartbeats 4000000 in
set_option maxRecDepth 100000 in
theorem c_X2_placeAt (l : Launch) (G : Gam) (σ : St) (j : Nat) (hj : j < 12) (S : Sk) (hv : VS S) (hg : GS σ j S) (hgt : GT σ j S) (t L : Nat) (ht : t ≤ 30) (hL : L ≤ 9) : Met l yX2_placeAt (w1 yX2_placeAt cX2_placeAt 4 (some .int)) ({ frames := 0, cells := 0, slots := 0, locals := 0 }) (PcX G σ [.ref (ga G (3 * j + 14)), .int (nI t), .int (nI L)]) (vp_Si (fun r => r = nI (posN S (t - L)))) 0 0 (fun _ => False) := by
  rcases Nat.lt_or_ge t L with hlt | hge
  · skip
    refine met_of [.ref (ga G (3 * j + 14)), .int (nI t), .int (nI L)] [(0, .ref (ga G (3 * j + 14))), (1, .int (nI t)), (2, .int (nI L))] (by decide) (Nat.le_of_ble_eq_true rfl) rfl ?_
    intro p e s m below meth c hx hb hr hown hml hlocks hW ls hl
    have hG : GW s := hW.2.2.2.1
    have hv0 := hv.1
    have hv1 := hv.2.1
    have hv3 := hv.2.2.1
    refine lv_iload_n hx hb dX2_placeAt_0 rfl (lv_at hl 1 rfl) ?_
    refine lv_iload_n hx hb dX2_placeAt_1 rfl (lv_at hl 2 rfl) ?_
    refine lv_isub hx hb dX2_placeAt_2 ?_
    refine lv_istore_n (lv' := [(3, .int ((nI t) - (nI L))), (0, .ref (ga G (3 * j + 14))), (1, .int (nI t)), (2, .int (nI L))]) hx hb dX2_placeAt_3 rfl hl (by decide) rfl (fun ls hl => ?_)
    refine lv_iload_n hx hb dX2_placeAt_4 rfl (lv_at hl 0 rfl) ?_
    refine lv_if_ge (tgt := 13) hx hb dX2_placeAt_5 (by decide) (fun c_5 => ?_) (fun c_5 => ?_)
    · skip
      exact absurd c_5 (sub_neg hlt (by omega))
    · skip
      refine lv_aload_n hx hb dX2_placeAt_8 rfl (lv_at hl 1 rfl) ?_
      refine rd_X2_15 hx hb hown hW hj dX2_placeAt_9 ?_
      refine lv_eqi (y := nI (S 1)) hg.2.1 ?_
      exact W.iret (v := nI (S 1)) hx hb hr (fun t9 ht9 hW9 => ⟨_, rfl, by rw [Nat.sub_eq_zero_of_le (Nat.le_of_lt hlt)]; rfl, ht9⟩) (fun q h => by cases h) dX2_placeAt_12
  · skip
    refine met_of [.ref (ga G (3 * j + 14)), .int (nI t), .int (nI L)] [(0, .ref (ga G (3 * j + 14))), (1, .int (nI t)), (2, .int (nI L))] (by decide) (Nat.le_of_ble_eq_true rfl) rfl ?_
    intro p e s m below meth c hx hb hr hown hml hlocks hW ls hl
    have hG : GW s := hW.2.2.2.1
    have hv0 := hv.1
    have hv1 := hv.2.1
    have hv3 := hv.2.2.1
    refine lv_iload_n hx hb dX2_placeAt_0 rfl (lv_at hl 1 rfl) ?_
    refine lv_iload_n hx hb dX2_placeAt_1 rfl (lv_at hl 2 rfl) ?_
    refine ln_sub t L hx hb rfl rfl (by omega) dX2_placeAt_2 ?_
    refine lv_istore_n (lv' := [(3, .int (nI (t - L))), (0, .ref (ga G (3 * j + 14))), (1, .int (nI t)), (2, .int (nI L))]) hx hb dX2_placeAt_3 rfl hl (by decide) rfl (fun ls hl => ?_)
    refine lv_iload_n hx hb dX2_placeAt_4 rfl (lv_at hl 0 rfl) ?_
    refine lv_if_ge (tgt := 13) hx hb dX2_placeAt_5 (by decide) (fun c_5 => ?_) (fun c_5 => ?_)
    · skip
      have q_5 := tN_le 0 (t - L) c_5 rfl rfl (by omega) (by omega)
      refine lv_aload_n hx hb dX2_placeAt_13 rfl (lv_at hl 1 rfl) ?_
      refine rd_X2_25 hx hb hown hW hj dX2_placeAt_14 ?_
      refine lv_iload_n hx hb dX2_placeAt_17 rfl (lv_at hl 0 rfl) ?_
      refine lv_bipush (v := 30) hx hb dX2_placeAt_18 (by decide) ?_
      refine lv_icmp_gt (tgt := 27) hx hb dX2_placeAt_20 (by decide) (fun c_20 => ?_) (fun c_20 => ?_)
      · skip
        exact absurd (tN_lt 30 (t - L) c_20 rfl rfl (by omega) (by omega)) (by omega)
      · skip
        have q_20 := tN_nlt 30 (t - L) c_20 rfl rfl (by omega) (by omega)
        refine lv_iload_n hx hb dX2_placeAt_23 rfl (lv_at hl 0 rfl) ?_
        refine lv_goto (tgt := 29) hx hb dX2_placeAt_24 (by decide) ?_
        refine al_trail (k := t - L) hx hb hW hj rfl (by omega) dX2_placeAt_29 ?_
        refine lv_eqi (y := nI (posN S (t - L))) (hgt.1 (t - L) (by omega)) ?_
        exact W.iret (v := nI (posN S (t - L))) hx hb hr (fun t9 ht9 hW9 => ⟨_, rfl, rfl, ht9⟩) (fun q h => by cases h) dX2_placeAt_30
    · skip
      exact absurd (nI_pos' (by omega)) c_5
set_option maxHeartbeats 4000000 in
set_option maxRecDepth 100000 in
theorem c_X2_placeBehind (l : Launch) (G : Gam) (σ : St) (j : Nat) (hj : j < 12) (S : Sk) (hv : VS S) (hg : GS σ j S) (n : Nat) (hn : n ≤ S 3) : Met l yX2_placeBehind (w1 yX2_placeBehind cX2_placeBehind 4 (some .int)) ({ frames := 1, cells := 0, slots := 0, locals := 23 }) (PcX G σ [.ref (ga G (3 * j + 14)), .int (nI n)]) (vp_Si (fun r => r = nI (plainN S n))) 0 0 (fun _ => False) := by
  refine met_of [.ref (ga G (3 * j + 14)), .int (nI n)] [(0, .ref (ga G (3 * j + 14))), (1, .int (nI n))] (by decide) (Nat.le_of_ble_eq_true rfl) rfl ?_
  intro p e s m below meth c hx hb hr hown hml hlocks hW ls hl
  have hG : GW s := hW.2.2.2.1
  have hv0 := hv.1
  have hv1 := hv.2.1
  have hv3 := hv.2.2.1
  refine lv_aload_n hx hb dX2_placeBehind_0 rfl (lv_at hl 0 rfl) ?_
  refine rd_X2_15 hx hb hown hW hj dX2_placeBehind_1 ?_
  refine lv_eqi (y := nI (S 1)) hg.2.1 ?_
  refine lv_istore_n (lv' := [(2, .int (nI (S 1))), (0, .ref (ga G (3 * j + 14))), (1, .int (nI n))]) hx hb dX2_placeBehind_4 rfl hl (by decide) rfl (fun ls hl => ?_)
  refine lv_iconst (v := 0) hx hb dX2_placeBehind_5 (by decide) ?_
  refine lv_istore_n (lv' := [(3, .int 0), (2, .int (nI (S 1))), (0, .ref (ga G (3 * j + 14))), (1, .int (nI n))]) hx hb dX2_placeBehind_6 rfl hl (by decide) rfl (fun ls hl => ?_)
  have loop_7 : ∀ (N9 : Nat) (i : Nat) (pl : Int32) (io : Int32), n - i < N9 → pl = nI (plainN S i) → io = nI i → i ≤ n → ∀ ls : Array Slot, lv_has ls 4 [(2, .int pl), (3, .int io), (0, .ref (ga G (3 * j + 14))), (1, .int (nI n))] → W p l e (headSpec (w1 yX2_placeBehind cX2_placeBehind 4 (some .int)) ({ frames := 1, cells := 0, slots := 0, locals := 23 })).room s m [.ref (ga G (3 * j + 14)), .int (nI n)].toArray below meth c s.heap [] 0 0 (MQ below (vp_Si (fun r => r = nI (plainN S n))) [.ref (ga G (3 * j + 14)), .int (nI n)].toArray s 0 0 (fun _ => False)) (F0 m 7 ls []) := by
    intro N9
    induction N9 with
    | zero => intro i pl io hN; exact absurd hN (Nat.not_lt_zero _)
    | succ N9 ih =>
      intro i pl io hN e_pl e_io hi0_7 ls hl
      subst e_pl
      subst e_io
      have ih_7 := ih
      have hpl := plainN_lt hv i (by omega)
      refine lv_iload_n hx hb dX2_placeBehind_7 rfl (lv_at hl 1 rfl) ?_
      refine lv_iload_n hx hb dX2_placeBehind_8 rfl (lv_at hl 3 rfl) ?_
      refine lv_icmp_ge (tgt := 37) hx hb dX2_placeBehind_9 (by decide) (fun c_9 => ?_) (fun c_9 => ?_)
      · skip
        have q_9 := tN_le n i c_9 rfl rfl (by omega) (by omega)
        refine lv_iload_n hx hb dX2_placeBehind_37 rfl (lv_at hl 0 rfl) ?_
        exact W.iret (v := nI (plainN S i)) hx hb hr (fun t9 ht9 hW9 => ⟨_, rfl, (by have h9 : i = n := (by omega); subst h9; rfl), ht9⟩) (fun q h => by cases h) dX2_placeBehind_38
      · skip
        have q_9 := tN_nle n i c_9 rfl rfl (by omega) (by omega)
        refine lv_iload_n hx hb dX2_placeBehind_12 rfl (lv_at hl 1 rfl) ?_
        refine lv_aload_n hx hb dX2_placeBehind_13 rfl (lv_at hl 2 rfl) ?_
        refine rd_X2_18 hx hb hown hW hj dX2_placeBehind_14 ?_
        refine lv_eqi (y := nI (S 3)) hg.2.2.1 ?_
        refine lv_icmp_ge (tgt := 37) hx hb dX2_placeBehind_17 (by decide) (fun c_17 => ?_) (fun c_17 => ?_)
        · skip
          have q_17 := tN_le (S 3) i c_17 rfl rfl (by omega) (by omega)
          refine lv_iload_n hx hb dX2_placeBehind_37 rfl (lv_at hl 0 rfl) ?_
          exact W.iret (v := nI (plainN S i)) hx hb hr (fun t9 ht9 hW9 => ⟨_, rfl, (by have h9 : i = n := (by omega); subst h9; rfl), ht9⟩) (fun q h => by cases h) dX2_placeBehind_38
        · skip
          have q_17 := tN_nle (S 3) i c_17 rfl rfl (by omega) (by omega)
          refine lv_iload_n hx hb dX2_placeBehind_20 rfl (lv_at hl 0 rfl) ?_
          refine lv_aload_n hx hb dX2_placeBehind_21 rfl (lv_at hl 2 rfl) ?_
          refine rd_X2_21 hx hb hown hW hj dX2_placeBehind_22 ?_
          refine lv_iload_n hx hb dX2_placeBehind_25 rfl (lv_at hl 1 rfl) ?_
          refine al_way (k := i) hx hb hW hj rfl (by omega) dX2_placeBehind_26 ?_
          refine lv_eqi (y := nI (S (4 + i))) (hg.2.2.2 i (by omega)) ?_
          refine cn_i [.int (nI (plainN S i)), .int (nI (S (4 + i)))] hx hb hml hown hG v_X3_stepFrom (hW.2.2.2.2.use 17 rfl) (c_X3_stepFrom l (plainN S i) (S (4 + i)) hpl (hv.2.2.2 i (by omega))) (preT _) rfl hl.1 (Nat.le_of_ble_eq_true rfl) dX2_placeBehind_27 ⟨rfl, rfl, Nat.le_of_ble_eq_true rfl, Nat.le_of_ble_eq_true rfl⟩ ⟨Nat.le_of_ble_eq_true rfl, Nat.le_of_ble_eq_true rfl⟩ ?_
          refine lv_istore_n (lv' := [(2, .int (nI (stepN (plainN S i) (S (4 + i))))), (3, .int (nI i)), (0, .ref (ga G (3 * j + 14))), (1, .int (nI n))]) hx hb dX2_placeBehind_30 rfl hl (by decide) rfl (fun ls hl => ?_)
          refine lv_iinc (v := nI (i + 1)) (lv' := [(3, .int (nI (i + 1))), (2, .int (nI (stepN (plainN S i) (S (4 + i))))), (0, .ref (ga G (3 * j + 14))), (1, .int (nI n))]) hx hb dX2_placeBehind_31 hl (k := 1) rfl (inc1 i) (by decide) rfl (fun ls hl => ?_)
          refine lv_goto (tgt := 7) hx hb dX2_placeBehind_34 (by decide) ?_
          exact ih_7 (i + 1) _ _ (by omega) rfl rfl (by omega) ls (lv_sub hl [1, 0, 2, 3] rfl)
  exact loop_7 _ 0 _ _ (Nat.lt_succ_self _) rfl rfl (by omega) ls (lv_sub hl [1, 0, 2, 3] rfl)
set_option maxHeartbeats 4000000 in
set_option maxRecDepth 100000 in
theorem c_X2_startAnew (l : Launch) (G : Gam) (σ : St) (j : Nat) (hj : j < 12) (S : Sk) (hv : VS S) (h3 : S 3 = 0) : Met l yX2_startAnew (w1 yX2_startAnew cX2_startAnew 3 none) ({ frames := 3, cells := 0, slots := 0, locals := 63 }) (PcX G σ [.ref (ga G (3 * j + 14)), .int (nI (S 0)), .int (nI (S 1))]) (QvX G (fun σ9 => NS σ j S σ9)) 0 0 (aX G) := by
  refine met_of [.ref (ga G (3 * j + 14)), .int (nI (S 0)), .int (nI (S 1))] [(0, .ref (ga G (3 * j + 14))), (1, .int (nI (S 0))), (2, .int (nI (S 1)))] (by decide) (Nat.le_of_ble_eq_true rfl) rfl ?_
  intro p e s m below meth c hx hb hr hown hml hlocks hW ls hl
  have hG : GW s := hW.2.2.2.1
  have hS : va_S (aX G) s.heap s.heap [] := va_S.rf
  refine lv_aload_n hx hb dX2_startAnew_0 rfl (lv_at hl 0 rfl) ?_
  refine lv_iload_n hx hb dX2_startAnew_1 rfl (lv_at hl 1 rfl) ?_
  refine wr_X2_9 hx hb hown hW hS hj dX2_startAnew_2 (fun H locs hW hS => ?_)
  obtain ⟨σ1, hσ1⟩ : ∃ z, z = up2 σ (3 * j + 14) 0 (nI (S 0)) := ⟨_, rfl⟩
  rw [← hσ1] at hW
  refine lv_aload_n hx hb dX2_startAnew_5 rfl (lv_at hl 0 rfl) ?_
  refine lv_iload_n hx hb dX2_startAnew_6 rfl (lv_at hl 2 rfl) ?_
  refine wr_X2_15 hx hb hown hW hS hj dX2_startAnew_7 (fun H locs hW hS => ?_)
  obtain ⟨σ2, hσ2⟩ : ∃ z, z = up2 σ1 (3 * j + 14) 1 (nI (S 1)) := ⟨_, rfl⟩
  rw [← hσ2] at hW
  refine lv_aload_n hx hb dX2_startAnew_10 rfl (lv_at hl 0 rfl) ?_
  refine lv_iconst (v := 0) hx hb dX2_startAnew_11 (by decide) ?_
  refine wr_X2_18 hx hb hown hW hS hj dX2_startAnew_12 (fun H locs hW hS => ?_)
  obtain ⟨σ3, hσ3⟩ : ∃ z, z = up2 σ2 (3 * j + 14) 2 0 := ⟨_, rfl⟩
  rw [← hσ3] at hW
  refine lv_aload_n hx hb dX2_startAnew_15 rfl (lv_at hl 0 rfl) ?_
  have hF : FR σ j σ3 := fun a h1 h2 h4 => by subst hσ3; subst hσ2; subst hσ1; rw [up2_ne h1, up2_ne h1, up2_ne h1]
  have hg : GS σ3 j S := by subst hσ3; subst hσ2; subst hσ1; exact ⟨by rw [up2_nf (by omega), up2_nf (by omega), up2_eq], by rw [up2_nf (by omega), up2_eq], by rw [up2_eq, h3]; rfl, fun i hi => absurd hi (by omega)⟩
  refine cw_v (q := 306) [] hx hb hml hown hW.2 hS v_X2_retrace (by decide +kernel) (c_X2_retrace l G σ3 j hj S hv hg) (preK hW hj _) rfl hl.1 (Nat.le_of_ble_eq_true rfl) dX2_startAnew_16 ⟨rfl, rfl, Nat.le_of_ble_eq_true rfl, Nat.le_of_ble_eq_true rfl⟩ ⟨Nat.le_of_ble_eq_true rfl, Nat.le_of_ble_eq_true rfl⟩ (fun σ4 H locs hσ4 hW hS => ?_)
  exact W.vret hx hb hr (fun t9 ht9 hW9 => ⟨⟨σ4, rfl, NS.of hF hg hσ4, (by have h8 := hW.1; rw [← ht9] at h8; exact h8)⟩, hS.F ht9⟩) hS.2.2 dX2_startAnew_19
set_option maxHeartbeats 4000000 in
set_option maxRecDepth 100000 in
theorem c_X2_addStep (l : Launch) (G : Gam) (σ : St) (j : Nat) (hj : j < 12) (S : Sk) (hv : VS S) (hg : GS σ j S) (S' : Sk) (hv' : VS S') (h3 : S 3 < 5) (e0 : S' 0 = S 0) (e1 : S' 1 = S 1) (e3 : S' 3 = S 3 + 1) (e4 : ∀ i, i < S 3 → S' (4 + i) = S (4 + i)) (d : Nat) (hd : S' (4 + S 3) = d) : Met l yX2_addStep (w1 yX2_addStep cX2_addStep 2 none) ({ frames := 3, cells := 0, slots := 0, locals := 63 }) (PcX G σ [.ref (ga G (3 * j + 14)), .int (nI d)]) (QvX G (fun σ9 => NS σ j S' σ9)) 0 0 (aX G) := by
  refine met_of [.ref (ga G (3 * j + 14)), .int (nI d)] [(0, .ref (ga G (3 * j + 14))), (1, .int (nI d))] (by decide) (Nat.le_of_ble_eq_true rfl) rfl ?_
  intro p e s m below meth c hx hb hr hown hml hlocks hW ls hl
  have hG : GW s := hW.2.2.2.1
  have hS : va_S (aX G) s.heap s.heap [] := va_S.rf
  have hv0 := hv.1
  have hv1 := hv.2.1
  have hv3 := hv.2.2.1
  refine lv_aload_n hx hb dX2_addStep_0 rfl (lv_at hl 0 rfl) ?_
  refine rd_X2_18 hx hb hown hW hj dX2_addStep_1 ?_
  refine lv_eqi (y := nI (S 3)) hg.2.2.1 ?_
  refine lv_iconst (v := 5) hx hb dX2_addStep_4 (by decide) ?_
  refine lv_icmp_ge (tgt := 32) hx hb dX2_addStep_5 (by decide) (fun c_5 => ?_) (fun c_5 => ?_)
  · skip
    exact absurd (tN_le 5 (S 3) c_5 rfl rfl (by omega) (by omega)) (by omega)
  · skip
    have q_5 := tN_nle 5 (S 3) c_5 rfl rfl (by omega) (by omega)
    refine lv_aload_n hx hb dX2_addStep_8 rfl (lv_at hl 0 rfl) ?_
    refine rd_X2_21 hx hb hown hW hj dX2_addStep_9 ?_
    refine lv_aload_n hx hb dX2_addStep_12 rfl (lv_at hl 0 rfl) ?_
    refine rd_X2_18 hx hb hown hW hj dX2_addStep_13 ?_
    refine lv_eqi (y := nI (S 3)) hg.2.2.1 ?_
    refine lv_iload_n hx hb dX2_addStep_16 rfl (lv_at hl 1 rfl) ?_
    refine as_way (k := S 3) hx hb hW hS hj rfl (by omega) dX2_addStep_17 (fun H locs hW hS => ?_)
    obtain ⟨σ1, hσ1⟩ : ∃ z, z = up2 σ (3 * j + 15) (S 3) (nI d) := ⟨_, rfl⟩
    rw [← hσ1] at hW
    refine lv_aload_n hx hb dX2_addStep_18 rfl (lv_at hl 0 rfl) ?_
    refine lv_dup hx hb dX2_addStep_19 rfl ?_
    refine rd_X2_18 hx hb hown hW hj dX2_addStep_20 ?_
    refine lv_eqi (y := nI (S 3)) (by subst hσ1; rw [up2_nr (by omega)]; exact hg.2.2.1) ?_
    refine lv_iconst (v := 1) hx hb dX2_addStep_23 (by decide) ?_
    refine ln_add (S 3) 1 hx hb rfl rfl dX2_addStep_24 ?_
    refine wr_X2_18 hx hb hown hW hS hj dX2_addStep_25 (fun H locs hW hS => ?_)
    obtain ⟨σ2, hσ2⟩ : ∃ z, z = up2 σ1 (3 * j + 14) 2 (nI ((S 3) + 1)) := ⟨_, rfl⟩
    rw [← hσ2] at hW
    have hF : FR σ j σ2 := fun a h1 h2 h4 => by subst hσ2; subst hσ1; rw [up2_ne h1, up2_ne h2]
    have hg2 : GS σ2 j S' := by
        subst hσ2; subst hσ1
        refine ⟨?_, ?_, ?_, fun i hi => ?_⟩
        · rw [up2_nf (by omega), up2_nr (by omega), e0]; exact hg.1
        · rw [up2_nf (by omega), up2_nr (by omega), e1]; exact hg.2.1
        · rw [up2_eq, e3]
        · rw [up2_nr (by omega)]
          by_cases q : i = S 3
          · subst q; rw [up2_eq, hd]
          · rw [up2_nf q, hg.2.2.2 i (by omega), e4 i (by omega)]
    refine lv_aload_n hx hb dX2_addStep_28 rfl (lv_at hl 0 rfl) ?_
    refine cw_v (q := 306) [] hx hb hml hown hW.2 hS v_X2_retrace (by decide +kernel) (c_X2_retrace l G σ2 j hj S' hv' hg2) (preK hW hj _) rfl hl.1 (Nat.le_of_ble_eq_true rfl) dX2_addStep_29 ⟨rfl, rfl, Nat.le_of_ble_eq_true rfl, Nat.le_of_ble_eq_true rfl⟩ ⟨Nat.le_of_ble_eq_true rfl, Nat.le_of_ble_eq_true rfl⟩ (fun σ3 H locs hσ3 hW hS => ?_)
    exact W.vret hx hb hr (fun t9 ht9 hW9 => ⟨⟨σ3, rfl, NS.of hF hg2 hσ3, (by have h8 := hW.1; rw [← ht9] at h8; exact h8)⟩, hS.F ht9⟩) hS.2.2 dX2_addStep_32
set_option maxHeartbeats 4000000 in
set_option maxRecDepth 100000 in
theorem c_X2_shortenTo (l : Launch) (G : Gam) (σ : St) (j : Nat) (hj : j < 12) (S : Sk) (hv : VS S) (hg : GS σ j S) (S' : Sk) (hv' : VS S') (e0 : S' 0 = S 0) (e1 : S' 1 = S 1) (n : Nat) (e3 : S' 3 = n) (hn : n ≤ S 3) (e4 : ∀ i, i < n → S' (4 + i) = S (4 + i)) : Met l yX2_shortenTo (w1 yX2_shortenTo cX2_shortenTo 2 none) ({ frames := 3, cells := 0, slots := 0, locals := 63 }) (PcX G σ [.ref (ga G (3 * j + 14)), .int (nI n)]) (QvX G (fun σ9 => NS σ j S' σ9)) 0 0 (aX G) := by
  refine met_of [.ref (ga G (3 * j + 14)), .int (nI n)] [(0, .ref (ga G (3 * j + 14))), (1, .int (nI n))] (by decide) (Nat.le_of_ble_eq_true rfl) rfl ?_
  intro p e s m below meth c hx hb hr hown hml hlocks hW ls hl
  have hG : GW s := hW.2.2.2.1
  have hS : va_S (aX G) s.heap s.heap [] := va_S.rf
  have hv0 := hv.1
  have hv1 := hv.2.1
  have hv3 := hv.2.2.1
  refine lv_aload_n hx hb dX2_shortenTo_0 rfl (lv_at hl 0 rfl) ?_
  refine lv_aload_n hx hb dX2_shortenTo_1 rfl (lv_at hl 0 rfl) ?_
  refine rd_X2_18 hx hb hown hW hj dX2_shortenTo_2 ?_
  refine lv_eqi (y := nI (S 3)) hg.2.2.1 ?_
  refine lv_iload_n hx hb dX2_shortenTo_5 rfl (lv_at hl 1 rfl) ?_
  refine va_mmin (own := RX2) hx hb (hml.trans hl.1.symm) hown (hG.use (i := 402) (by decide +kernel) rfl _) (hG _ mt_min.1 rfl _) (hG _ mt_min.2.1 rfl _) (hG _ mt_min.2.2 rfl _) (Nat.le_of_ble_eq_true rfl) (Nat.le_of_ble_eq_true rfl) (Nat.le_of_ble_eq_true rfl) (Nat.le_of_ble_eq_true rfl) dX2_shortenTo_6 ?_
  refine lv_eqi (y := nI (min (S 3) n)) (min_nI (S 3) n (by omega) (by omega)) ?_
  refine wr_X2_18 hx hb hown hW hS hj dX2_shortenTo_9 (fun H locs hW hS => ?_)
  obtain ⟨σ1, hσ1⟩ : ∃ z, z = up2 σ (3 * j + 14) 2 (nI (min (S 3) n)) := ⟨_, rfl⟩
  rw [← hσ1] at hW
  have hF : FR σ j σ1 := fun a h1 h2 h4 => by subst hσ1; rw [up2_ne h1]
  have hg2 : GS σ1 j S' := by
      subst hσ1
      refine ⟨?_, ?_, ?_, fun i hi => ?_⟩
      · rw [up2_nf (by omega), e0]; exact hg.1
      · rw [up2_nf (by omega), e1]; exact hg.2.1
      · rw [up2_eq, e3, Nat.min_eq_right hn]
      · rw [up2_nr (by omega), hg.2.2.2 i (by omega), e4 i (by omega)]
  refine lv_aload_n hx hb dX2_shortenTo_12 rfl (lv_at hl 0 rfl) ?_
  refine cw_v (q := 306) [] hx hb hml hown hW.2 hS v_X2_retrace (by decide +kernel) (c_X2_retrace l G σ1 j hj S' hv' hg2) (preK hW hj _) rfl hl.1 (Nat.le_of_ble_eq_true rfl) dX2_shortenTo_13 ⟨rfl, rfl, Nat.le_of_ble_eq_true rfl, Nat.le_of_ble_eq_true rfl⟩ ⟨Nat.le_of_ble_eq_true rfl, Nat.le_of_ble_eq_true rfl⟩ (fun σ2 H locs hσ2 hW hS => ?_)
  exact W.vret hx hb hr (fun t9 ht9 hW9 => ⟨⟨σ2, rfl, NS.of hF hg2 hσ2, (by have h8 := hW.1; rw [← ht9] at h8; exact h8)⟩, hS.F ht9⟩) hS.2.2 dX2_shortenTo_16
set_option maxHeartbeats 4000000 in
set_option maxRecDepth 100000 in
theorem c_X2_copyFrom (l : Launch) (G : Gam) (σ : St) (j i : Nat) (hj : j < 12) (hi : i < 12) (hij : i ≠ j) (S : Sk) (hv : VS S) (hg : GS σ i S) : Met l yX2_copyFrom (w1 yX2_copyFrom cX2_copyFrom 2 none) ({ frames := 3, cells := 0, slots := 0, locals := 63 }) (PcX G σ [.ref (ga G (3 * j + 14)), .ref (ga G (3 * i + 14))]) (QvX G (fun σ9 => NS σ j S σ9)) 0 0 (aX G) := by
  refine met_of [.ref (ga G (3 * j + 14)), .ref (ga G (3 * i + 14))] [(0, .ref (ga G (3 * j + 14))), (1, .ref (ga G (3 * i + 14)))] (by decide) (Nat.le_of_ble_eq_true rfl) rfl ?_
  intro p e s m below meth c hx hb hr hown hml hlocks hW ls hl
  have hG : GW s := hW.2.2.2.1
  have hS : va_S (aX G) s.heap s.heap [] := va_S.rf
  have hv0 := hv.1
  have hv1 := hv.2.1
  have hv3 := hv.2.2.1
  refine lv_aload_n hx hb dX2_copyFrom_0 rfl (lv_at hl 0 rfl) ?_
  refine lv_aload_n hx hb dX2_copyFrom_1 rfl (lv_at hl 1 rfl) ?_
  refine rd_X2_9 hx hb hown hW hi dX2_copyFrom_2 ?_
  refine lv_eqi (y := nI (S 0)) hg.1 ?_
  refine wr_X2_9 hx hb hown hW hS hj dX2_copyFrom_5 (fun H locs hW hS => ?_)
  obtain ⟨σ1, hσ1⟩ : ∃ z, z = up2 σ (3 * j + 14) 0 (nI (S 0)) := ⟨_, rfl⟩
  rw [← hσ1] at hW
  refine lv_aload_n hx hb dX2_copyFrom_8 rfl (lv_at hl 0 rfl) ?_
  refine lv_aload_n hx hb dX2_copyFrom_9 rfl (lv_at hl 1 rfl) ?_
  refine rd_X2_15 hx hb hown hW hi dX2_copyFrom_10 ?_
  refine lv_eqi (y := nI (S 1)) (by subst hσ1; rw [up2_nr (by omega)]; exact hg.2.1) ?_
  refine wr_X2_15 hx hb hown hW hS hj dX2_copyFrom_13 (fun H locs hW hS => ?_)
  obtain ⟨σ2, hσ2⟩ : ∃ z, z = up2 σ1 (3 * j + 14) 1 (nI (S 1)) := ⟨_, rfl⟩
  rw [← hσ2] at hW
  refine lv_aload_n hx hb dX2_copyFrom_16 rfl (lv_at hl 0 rfl) ?_
  refine lv_aload_n hx hb dX2_copyFrom_17 rfl (lv_at hl 1 rfl) ?_
  refine rd_X2_18 hx hb hown hW hi dX2_copyFrom_18 ?_
  refine lv_eqi (y := nI (S 3)) (by subst hσ2; subst hσ1; rw [up2_nr (by omega), up2_nr (by omega)]; exact hg.2.2.1) ?_
  refine wr_X2_18 hx hb hown hW hS hj dX2_copyFrom_21 (fun H locs hW hS => ?_)
  obtain ⟨σ3, hσ3⟩ : ∃ z, z = up2 σ2 (3 * j + 14) 2 (nI (S 3)) := ⟨_, rfl⟩
  rw [← hσ3] at hW
  refine lv_aload_n hx hb dX2_copyFrom_24 rfl (lv_at hl 1 rfl) ?_
  refine rd_X2_21 hx hb hown hW hi dX2_copyFrom_25 ?_
  refine lv_iconst (v := 0) hx hb dX2_copyFrom_28 (by decide) ?_
  refine lv_aload_n hx hb dX2_copyFrom_29 rfl (lv_at hl 0 rfl) ?_
  refine rd_X2_21 hx hb hown hW hj dX2_copyFrom_30 ?_
  refine lv_iconst (v := 0) hx hb dX2_copyFrom_33 (by decide) ?_
  refine lv_iconst (v := 5) hx hb dX2_copyFrom_34 (by decide) ?_
  refine x_copy (q := 527) 5 hx hb (hml.trans hl.1.symm) hown hW hS (i0 := 3 * i + 15) (i1 := 3 * j + 15) (by omega) (by omega) (fun r => cX_way hi) (fun r => cX_way hj) (by omega) (by decide +kernel) (Nat.le_of_ble_eq_true rfl) (Nat.le_of_ble_eq_true rfl) dX2_copyFrom_35 (fun H locs hW hS => ?_)
  obtain ⟨σ4, hσ4⟩ : ∃ z, z = cpy2 σ3 (3 * i + 15) (3 * j + 15) 5 := ⟨_, rfl⟩
  rw [← hσ4] at hW
  have hF : FR σ j σ4 := fun a h1 h2 h4 => by subst hσ4; subst hσ3; subst hσ2; subst hσ1; rw [cpy2_ne h2, up2_ne h1, up2_ne h1, up2_ne h1]
  have hg2 : GS σ4 j S := by
      subst hσ4; subst hσ3; subst hσ2; subst hσ1
      refine ⟨?_, ?_, ?_, fun k hk => ?_⟩
      · rw [cpy2_ne (by omega), up2_nf (by omega), up2_nf (by omega), up2_eq]
      · rw [cpy2_ne (by omega), up2_nf (by omega), up2_eq]
      · rw [cpy2_ne (by omega), up2_eq]
      · rw [cpy2_at (by omega), up2_nr (by omega), up2_nr (by omega), up2_nr (by omega)]; exact hg.2.2.2 k hk
  refine lv_aload_n hx hb dX2_copyFrom_38 rfl (lv_at hl 0 rfl) ?_
  refine cw_v (q := 306) [] hx hb hml hown hW.2 hS v_X2_retrace (by decide +kernel) (c_X2_retrace l G σ4 j hj S hv hg2) (preK hW hj _) rfl hl.1 (Nat.le_of_ble_eq_true rfl) dX2_copyFrom_39 ⟨rfl, rfl, Nat.le_of_ble_eq_true rfl, Nat.le_of_ble_eq_true rfl⟩ ⟨Nat.le_of_ble_eq_true rfl, Nat.le_of_ble_eq_true rfl⟩ (fun σ5 H locs hσ5 hW hS => ?_)
  exact W.vret hx hb hr (fun t9 ht9 hW9 => ⟨⟨σ5, rfl, NS.of hF hg2 hσ5, (by have h8 := hW.1; rw [← ht9] at h8; exact h8)⟩, hS.F ht9⟩) hS.2.2 dX2_copyFrom_42
