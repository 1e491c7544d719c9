theorem posN_y {S : Sk} {i : Nat} (h : i + 1 ≤ hwN (S 0) (S 3) ∧ (i + 1) % hpN (S 0) = 0) : stepN (posN S i) (dirN S ((i + 1) / hpN (S 0) - 1)) = posN S (i + 1) := by rw [posN, if_pos h]
theorem posN_n {S : Sk} {i : Nat} (h : ¬ (i + 1 ≤ hwN (S 0) (S 3) ∧ (i + 1) % hpN (S 0) = 0)) : posN S i = posN S (i + 1) := by rw [posN, if_neg h]
theorem tell5 {S : Sk} (h3 : S 3 ≤ 5) : posN S (S 2 + hwN (S 0) (S 3) - S 2) = posN S 30 := by
  have := hw_20 (K := S 0) h3
  rw [Nat.add_sub_cancel_left, posN_end h3 30 (by omega)]
theorem inL_f {w : Int32} (h : hasB w 15 = false) : inL w.toInt64 10 14 = false := by
  unfold inL
  apply decide_eq_false
  rintro ⟨a, b⟩
  rw [l_lt, i64] at a b
  have a : ¬ w.toInt < 10 := a
  have b : ¬ (14 : Int) < w.toInt := b
  rcases hB_ff h with q | q
  · rw [i_lt] at q
    have q : w.toInt < 0 := q
    omega
  · rw [i_le, nI_toInt (by omega)] at q; omega
theorem ok_y {f V : Nat → Nat} {j : Nat} (h0 : okN f V j = true) (h : f (V (2 * j + 1)) = V (2 * j)) : (1 : Int32) = bI (okN f V (j + 1)) := by rw [okN_t h0 h]; rfl
theorem ok_n1 {f V : Nat → Nat} {j : Nat} (h0 : okN f V j = false) : (0 : Int32) = bI (okN f V (j + 1)) := by
  have : okN f V (j + 1) = false := by unfold okN; rw [h0]; rfl
  rw [this]; rfl
theorem ok_n2 {f V : Nat → Nat} {j : Nat} (h : f (V (2 * j + 1)) ≠ V (2 * j)) : (0 : Int32) = bI (okN f V (j + 1)) := by
  rw [okN_f h (Nat.lt_succ_self j)]; rfl
theorem wh_n0 {ok : Nat → Bool} {i : Nat} (h : ok i = false) : whN ok i ||| 0 = whN ok (i + 1) := by rw [Nat.or_zero]; exact wh_n h
set_option maxHeartbeats 4000000 in
set_option maxRecDepth 100000 in
theorem c_X4_atOf (l : Launch) (G : Gam) (μ : St) (hs : Int64) (n : Nat) (S : Nat → Sk) (q : Nat) (V : Nat → Nat) (ch : Int32) (hg : RM μ n S q V ch) (k : Nat) (hk : k < n) (t : Nat) (ht : t ≤ 40) : Met l yX4_atOf (w1 yX4_atOf cX4_atOf 6 (some .int)) ({ frames := 2, cells := 0, slots := 0, locals := 50 }) (PcM G μ hs [.ref (gm G 0), .int (nI k), .int (nI t)]) (vp_Si (fun r => r = nI (atN (S k) t))) 0 0 (fun _ => False) := by
  rcases Nat.lt_or_ge t (S k 2) with hlt | hge
  · skip
    refine met_of [.ref (gm G 0), .int (nI k), .int (nI t)] [(0, .ref (gm G 0)), (1, .int (nI k)), (2, .int (nI t))] (by decide) (Nat.le_of_ble_eq_true rfl) rfl ?_
    intro p e s m below meth c hx hb hr hown hml hlocks hW ls hl
    have hG : GW s := hW.2.2.2
    have hn6 := hg.1.2
    have hq8 := hg.2.2.1.2
    have hv9 := (hg.2.2.2.1 k hk).1
    have hv0 := hv9.1
    have hv1 := hv9.2.1
    have hv3 := hv9.2.2.1
    have hc1 := (hg.2.2.2.1 k hk).2.1
    have hl9 := (hg.2.2.2.1 k hk).2.2.1
    refine lv_aload_n hx hb dX4_atOf_0 rfl (lv_at hl 0 rfl) ?_
    refine rd_X4_16 hx hb hown hW dX4_atOf_1 ?_
    refine lv_bipush (v := 9) hx hb dX4_atOf_4 (by decide) ?_
    refine lv_iload_n hx hb dX4_atOf_6 rfl (lv_at hl 1 rfl) ?_
    refine ln_mul 9 k hx hb rfl rfl dX4_atOf_7 ?_
    refine lv_iconst (v := 1) hx hb dX4_atOf_8 (by decide) ?_
    refine ln_add (9 * k) 1 hx hb rfl rfl dX4_atOf_9 ?_
    refine al_M (k := (9 * k) + 1) 3 hx hb hW rfl (show _ < 54 by omega) dX4_atOf_10 ?_
    refine lv_eqi (y := nI (S k 1)) (hg.2.2.2.1 k (by omega)).2.2.2.2.1 ?_
    refine lv_istore_n (lv' := [(3, .int (nI (S k 1))), (0, .ref (gm G 0)), (1, .int (nI k)), (2, .int (nI t))]) hx hb dX4_atOf_11 rfl hl (by decide) rfl (fun ls hl => ?_)
    refine lv_iconst (v := 1) hx hb dX4_atOf_12 (by decide) ?_
    refine lv_istore (lv' := [(4, .int 1), (3, .int (nI (S k 1))), (0, .ref (gm G 0)), (1, .int (nI k)), (2, .int (nI t))]) hx hb dX4_atOf_13 hl (by decide) rfl (fun ls hl => ?_)
    have loop_15 : ∀ (N9 : Nat) (i : Nat) (pl : Int32) (io : Int32), t - S k 2 + 1 - i < N9 → pl = nI (posN (S k) i) → io = nI (i + 1) → i ≤ t - S k 2 → ∀ ls : Array Slot, lv_has ls 6 [(3, .int pl), (4, .int io), (0, .ref (gm G 0)), (1, .int (nI k)), (2, .int (nI t))] → W p l e (headSpec (w1 yX4_atOf cX4_atOf 6 (some .int)) ({ frames := 2, cells := 0, slots := 0, locals := 50 })).room s m [.ref (gm G 0), .int (nI k), .int (nI t)].toArray below meth c s.heap [] 0 0 (MQ below (vp_Si (fun r => r = nI (atN (S k) t))) [.ref (gm G 0), .int (nI k), .int (nI t)].toArray s 0 0 (fun _ => False)) (F0 m 15 ls []) := by
      intro N9
      induction N9 with
      | zero => intro i pl io hN; exact absurd hN (Nat.not_lt_zero _)
      | succ N9 ih =>
        intro i pl io hN e_pl e_io hi0_15 ls hl
        subst e_pl
        subst e_io
        have ih_15 := ih
        refine lv_iload hx hb dX4_atOf_15 (lv_at hl 1 rfl) ?_
        refine lv_iload_n hx hb dX4_atOf_17 rfl (lv_at hl 4 rfl) ?_
        refine lv_aload_n hx hb dX4_atOf_18 rfl (lv_at hl 2 rfl) ?_
        refine rd_X4_16 hx hb hown hW dX4_atOf_19 ?_
        refine lv_bipush (v := 9) hx hb dX4_atOf_22 (by decide) ?_
        refine lv_iload_n hx hb dX4_atOf_24 rfl (lv_at hl 3 rfl) ?_
        refine ln_mul 9 k hx hb rfl rfl dX4_atOf_25 ?_
        refine lv_iconst (v := 2) hx hb dX4_atOf_26 (by decide) ?_
        refine ln_add (9 * k) 2 hx hb rfl rfl dX4_atOf_27 ?_
        refine al_M (k := (9 * k) + 2) 3 hx hb hW rfl (show _ < 54 by omega) dX4_atOf_28 ?_
        refine lv_eqi (y := nI (S k 2)) (hg.2.2.2.1 k (by omega)).2.2.2.2.2.1 ?_
        refine lv_isub hx hb dX4_atOf_29 ?_
        refine lv_icmp_gt (tgt := 65) hx hb dX4_atOf_30 (by decide) (fun c_30 => ?_) (fun c_30 => ?_)
        · skip
          refine lv_iload_n hx hb dX4_atOf_65 rfl (lv_at hl 0 rfl) ?_
          exact W.iret (v := nI (posN (S k) i)) hx hb hr (fun t9 ht9 hW9 => ⟨_, rfl, (by have h9 : i = t - S k 2 := (by omega); subst h9; rfl), ht9⟩) (fun q h => by cases h) dX4_atOf_66
        · skip
          exact absurd (sub_lt hlt (by omega) (by omega)) c_30
    exact loop_15 _ 0 _ _ (Nat.lt_succ_self _) rfl rfl (by omega) ls (lv_sub hl [1, 0, 2, 3, 4] rfl)
  · skip
    refine met_of [.ref (gm G 0), .int (nI k), .int (nI t)] [(0, .ref (gm G 0)), (1, .int (nI k)), (2, .int (nI t))] (by decide) (Nat.le_of_ble_eq_true rfl) rfl ?_
    intro p e s m below meth c hx hb hr hown hml hlocks hW ls hl
    have hG : GW s := hW.2.2.2
    have hn6 := hg.1.2
    have hq8 := hg.2.2.1.2
    have hv9 := (hg.2.2.2.1 k hk).1
    have hv0 := hv9.1
    have hv1 := hv9.2.1
    have hv3 := hv9.2.2.1
    have hc1 := (hg.2.2.2.1 k hk).2.1
    have hl9 := (hg.2.2.2.1 k hk).2.2.1
    refine lv_aload_n hx hb dX4_atOf_0 rfl (lv_at hl 0 rfl) ?_
    refine rd_X4_16 hx hb hown hW dX4_atOf_1 ?_
    refine lv_bipush (v := 9) hx hb dX4_atOf_4 (by decide) ?_
    refine lv_iload_n hx hb dX4_atOf_6 rfl (lv_at hl 1 rfl) ?_
    refine ln_mul 9 k hx hb rfl rfl dX4_atOf_7 ?_
    refine lv_iconst (v := 1) hx hb dX4_atOf_8 (by decide) ?_
    refine ln_add (9 * k) 1 hx hb rfl rfl dX4_atOf_9 ?_
    refine al_M (k := (9 * k) + 1) 3 hx hb hW rfl (show _ < 54 by omega) dX4_atOf_10 ?_
    refine lv_eqi (y := nI (S k 1)) (hg.2.2.2.1 k (by omega)).2.2.2.2.1 ?_
    refine lv_istore_n (lv' := [(3, .int (nI (S k 1))), (0, .ref (gm G 0)), (1, .int (nI k)), (2, .int (nI t))]) hx hb dX4_atOf_11 rfl hl (by decide) rfl (fun ls hl => ?_)
    refine lv_iconst (v := 1) hx hb dX4_atOf_12 (by decide) ?_
    refine lv_istore (lv' := [(4, .int 1), (3, .int (nI (S k 1))), (0, .ref (gm G 0)), (1, .int (nI k)), (2, .int (nI t))]) hx hb dX4_atOf_13 hl (by decide) rfl (fun ls hl => ?_)
    have loop_15 : ∀ (N9 : Nat) (i : Nat) (pl : Int32) (io : Int32), t - S k 2 + 1 - i < N9 → pl = nI (posN (S k) i) → io = nI (i + 1) → i ≤ t - S k 2 → ∀ ls : Array Slot, lv_has ls 6 [(3, .int pl), (4, .int io), (0, .ref (gm G 0)), (1, .int (nI k)), (2, .int (nI t))] → W p l e (headSpec (w1 yX4_atOf cX4_atOf 6 (some .int)) ({ frames := 2, cells := 0, slots := 0, locals := 50 })).room s m [.ref (gm G 0), .int (nI k), .int (nI t)].toArray below meth c s.heap [] 0 0 (MQ below (vp_Si (fun r => r = nI (atN (S k) t))) [.ref (gm G 0), .int (nI k), .int (nI t)].toArray s 0 0 (fun _ => False)) (F0 m 15 ls []) := by
      intro N9
      induction N9 with
      | zero => intro i pl io hN; exact absurd hN (Nat.not_lt_zero _)
      | succ N9 ih =>
        intro i pl io hN e_pl e_io hi0_15 ls hl
        subst e_pl
        subst e_io
        have ih_15 := ih
        refine lv_iload hx hb dX4_atOf_15 (lv_at hl 1 rfl) ?_
        refine lv_iload_n hx hb dX4_atOf_17 rfl (lv_at hl 4 rfl) ?_
        refine lv_aload_n hx hb dX4_atOf_18 rfl (lv_at hl 2 rfl) ?_
        refine rd_X4_16 hx hb hown hW dX4_atOf_19 ?_
        refine lv_bipush (v := 9) hx hb dX4_atOf_22 (by decide) ?_
        refine lv_iload_n hx hb dX4_atOf_24 rfl (lv_at hl 3 rfl) ?_
        refine ln_mul 9 k hx hb rfl rfl dX4_atOf_25 ?_
        refine lv_iconst (v := 2) hx hb dX4_atOf_26 (by decide) ?_
        refine ln_add (9 * k) 2 hx hb rfl rfl dX4_atOf_27 ?_
        refine al_M (k := (9 * k) + 2) 3 hx hb hW rfl (show _ < 54 by omega) dX4_atOf_28 ?_
        refine lv_eqi (y := nI (S k 2)) (hg.2.2.2.1 k (by omega)).2.2.2.2.2.1 ?_
        refine ln_sub t (S k 2) hx hb rfl rfl (by omega) dX4_atOf_29 ?_
        refine lv_icmp_gt (tgt := 65) hx hb dX4_atOf_30 (by decide) (fun c_30 => ?_) (fun c_30 => ?_)
        · skip
          have q_30 := tN_lt (t - (S k 2)) (i + 1) c_30 rfl rfl (by omega) (by omega)
          refine lv_iload_n hx hb dX4_atOf_65 rfl (lv_at hl 0 rfl) ?_
          exact W.iret (v := nI (posN (S k) i)) hx hb hr (fun t9 ht9 hW9 => ⟨_, rfl, (by have h9 : i = t - S k 2 := (by omega); subst h9; rfl), ht9⟩) (fun q h => by cases h) dX4_atOf_66
        · skip
          have q_30 := tN_nlt (t - (S k 2)) (i + 1) c_30 rfl rfl (by omega) (by omega)
          refine lv_aload_n hx hb dX4_atOf_33 rfl (lv_at hl 2 rfl) ?_
          refine lv_iload_n hx hb dX4_atOf_34 rfl (lv_at hl 3 rfl) ?_
          refine lv_iload hx hb dX4_atOf_35 (lv_at hl 1 rfl) ?_
          refine cr_i (q := 698) [.int (nI k), .int (nI (i + 1))] hx hb hml hown hG v_X4_stepIn (by decide +kernel) (c_X4_stepIn l G μ hs n S q V ch hg k hk (i + 1) (by omega) (by omega)) (preM hW _) rfl hl.1 (Nat.le_of_ble_eq_true rfl) dX4_atOf_37 ⟨rfl, rfl, Nat.le_of_ble_eq_true rfl, Nat.le_of_ble_eq_true rfl⟩ ⟨Nat.le_of_ble_eq_true rfl, Nat.le_of_ble_eq_true rfl⟩ ?_
          refine lv_istore (lv' := [(5, .int (stI (S k) (i + 1))), (3, .int (nI (posN (S k) i))), (4, .int (nI (i + 1))), (0, .ref (gm G 0)), (1, .int (nI k)), (2, .int (nI t))]) hx hb dX4_atOf_40 hl (by decide) rfl (fun ls hl => ?_)
          by_cases hq9 : i + 1 ≤ hwN (S k 0) (S k 3) ∧ (i + 1) % hpN (S k 0) = 0
          · skip
            rw [show stI (S k) (i + 1) = _ from if_pos hq9] at hl
            have hd9 := dirN_lt hv9 hc1 ((i + 1) / hpN (S k 0) - 1)
            have hp9 := posN_lt hv9 i
            have hl : lv_has ls 6 [(5, .int (nI (dirN (S k) ((i + 1) / hpN (S k 0) - 1)))), (3, .int (nI (posN (S k) i))), (4, .int (nI (i + 1))), (0, .ref (gm G 0)), (1, .int (nI k)), (2, .int (nI t))] := hl
            refine lv_iload hx hb dX4_atOf_42 (lv_at hl 0 rfl) ?_
            refine lv_iconst (v := (-1)) hx hb dX4_atOf_44 (by decide) ?_
            refine lv_icmp_ne (tgt := 52) hx hb dX4_atOf_45 (by decide) (fun c_45 => ?_) (fun c_45 => ?_)
            · skip
              refine lv_iload_n hx hb dX4_atOf_52 rfl (lv_at hl 1 rfl) ?_
              refine lv_iload hx hb dX4_atOf_53 (lv_at hl 0 rfl) ?_
              refine cs_i (q := 702) [.int (nI (posN (S k) i)), .int (nI (dirN (S k) ((i + 1) / hpN (S k 0) - 1)))] hx hb hml hown hG v_X4_stepped (by decide +kernel) (c_X4_stepped l (posN (S k) i) (dirN (S k) ((i + 1) / hpN (S k 0) - 1)) hp9 hd9) (preG hG _) rfl hl.1 (Nat.le_of_ble_eq_true rfl) dX4_atOf_55 ⟨rfl, rfl, Nat.le_of_ble_eq_true rfl, Nat.le_of_ble_eq_true rfl⟩ ⟨Nat.le_of_ble_eq_true rfl, Nat.le_of_ble_eq_true rfl⟩ ?_
              refine lv_istore_n (lv' := [(3, .int (nI (stepN (posN (S k) i) (dirN (S k) ((i + 1) / hpN (S k 0) - 1))))), (5, .int (nI (dirN (S k) ((i + 1) / hpN (S k 0) - 1)))), (4, .int (nI (i + 1))), (0, .ref (gm G 0)), (1, .int (nI k)), (2, .int (nI t))]) hx hb dX4_atOf_58 rfl hl (by decide) rfl (fun ls hl => ?_)
              refine lv_iinc (v := nI (i + 1 + 1)) (lv' := [(4, .int (nI (i + 1 + 1))), (3, .int (nI (stepN (posN (S k) i) (dirN (S k) ((i + 1) / hpN (S k 0) - 1))))), (5, .int (nI (dirN (S k) ((i + 1) / hpN (S k 0) - 1)))), (0, .ref (gm G 0)), (1, .int (nI k)), (2, .int (nI t))]) hx hb dX4_atOf_59 hl (k := 2) rfl (inc1 (i + 1)) (by decide) rfl (fun ls hl => ?_)
              refine lv_goto (tgt := 15) hx hb dX4_atOf_62 (by decide) ?_
              exact ih_15 (i + 1) _ _ (by omega) (congrArg nI (posN_y hq9)) rfl (by omega) ls (lv_sub hl [1, 0, 3, 4, 5] rfl)
            · skip
              exact absurd c_45 (nI_nm1 (by omega))
          · skip
            rw [show stI (S k) (i + 1) = _ from if_neg hq9] at hl
            have hl : lv_has ls 6 [(5, .int ((-1))), (3, .int (nI (posN (S k) i))), (4, .int (nI (i + 1))), (0, .ref (gm G 0)), (1, .int (nI k)), (2, .int (nI t))] := hl
            refine lv_iload hx hb dX4_atOf_42 (lv_at hl 0 rfl) ?_
            refine lv_iconst (v := (-1)) hx hb dX4_atOf_44 (by decide) ?_
            refine lv_icmp_ne (tgt := 52) hx hb dX4_atOf_45 (by decide) (fun c_45 => ?_) (fun c_45 => ?_)
            · skip
              exact absurd (by decide) c_45
            · skip
              refine lv_iload_n hx hb dX4_atOf_48 rfl (lv_at hl 1 rfl) ?_
              refine lv_goto (tgt := 58) hx hb dX4_atOf_49 (by decide) ?_
              refine lv_istore_n (lv' := [(3, .int (nI (posN (S k) i))), (5, .int ((-1))), (4, .int (nI (i + 1))), (0, .ref (gm G 0)), (1, .int (nI k)), (2, .int (nI t))]) hx hb dX4_atOf_58 rfl hl (by decide) rfl (fun ls hl => ?_)
              refine lv_iinc (v := nI (i + 1 + 1)) (lv' := [(4, .int (nI (i + 1 + 1))), (3, .int (nI (posN (S k) i))), (5, .int ((-1))), (0, .ref (gm G 0)), (1, .int (nI k)), (2, .int (nI t))]) hx hb dX4_atOf_59 hl (k := 2) rfl (inc1 (i + 1)) (by decide) rfl (fun ls hl => ?_)
              refine lv_goto (tgt := 15) hx hb dX4_atOf_62 (by decide) ?_
              exact ih_15 (i + 1) _ _ (by omega) (congrArg nI (posN_n hq9)) rfl (by omega) ls (lv_sub hl [1, 0, 3, 4, 5] rfl)
    exact loop_15 _ 0 _ _ (Nat.lt_succ_self _) rfl rfl (by omega) ls (lv_sub hl [1, 0, 2, 3, 4] rfl)
set_option maxHeartbeats 4000000 in
set_option maxRecDepth 100000 in
theorem c_X4_placesOf (l : Launch) (G : Gam) (μ : St) (hs : Int64) (n : Nat) (S : Nat → Sk) (q : Nat) (V : Nat → Nat) (ch : Int32) (hg : RM μ n S q V ch) (k : Nat) (hk : k < n) : Met l yX4_placesOf (w1 yX4_placesOf cX4_placesOf 4 (some .int)) ({ frames := 3, cells := 0, slots := 0, locals := 75 }) (PcM G μ hs [.ref (gm G 0), .int (nI k)]) (vp_Si (fun r => r = nI (orN (atN (S k)) 31))) 0 0 (fun _ => False) := by
  refine met_of [.ref (gm G 0), .int (nI k)] [(0, .ref (gm G 0)), (1, .int (nI k))] (by decide) (Nat.le_of_ble_eq_true rfl) rfl ?_
  intro p e s m below meth c hx hb hr hown hml hlocks hW ls hl
  have hG : GW s := hW.2.2.2
  have hn6 := hg.1.2
  have hq8 := hg.2.2.1.2
  have hv9 := (hg.2.2.2.1 k hk).1
  have hv0 := hv9.1
  have hv1 := hv9.2.1
  have hv3 := hv9.2.2.1
  have hc1 := (hg.2.2.2.1 k hk).2.1
  have hl9 := (hg.2.2.2.1 k hk).2.2.1
  refine lv_iconst (v := 0) hx hb dX4_placesOf_0 (by decide) ?_
  refine lv_istore_n (lv' := [(2, .int 0), (0, .ref (gm G 0)), (1, .int (nI k))]) hx hb dX4_placesOf_1 rfl hl (by decide) rfl (fun ls hl => ?_)
  refine lv_iconst (v := 0) hx hb dX4_placesOf_2 (by decide) ?_
  refine lv_istore_n (lv' := [(3, .int 0), (2, .int 0), (0, .ref (gm G 0)), (1, .int (nI k))]) hx hb dX4_placesOf_3 rfl hl (by decide) rfl (fun ls hl => ?_)
  have loop_4 : ∀ (N9 : Nat) (t : Nat) (bo : Int32) (to : Int32), 31 - t < N9 → bo = nI (orN (atN (S k)) t) → to = nI t → t ≤ 31 → ∀ ls : Array Slot, lv_has ls 4 [(2, .int bo), (3, .int to), (0, .ref (gm G 0)), (1, .int (nI k))] → W p l e (headSpec (w1 yX4_placesOf cX4_placesOf 4 (some .int)) ({ frames := 3, cells := 0, slots := 0, locals := 75 })).room s m [.ref (gm G 0), .int (nI k)].toArray below meth c s.heap [] 0 0 (MQ below (vp_Si (fun r => r = nI (orN (atN (S k)) 31))) [.ref (gm G 0), .int (nI k)].toArray s 0 0 (fun _ => False)) (F0 m 4 ls []) := by
    intro N9
    induction N9 with
    | zero => intro t bo to hN; exact absurd hN (Nat.not_lt_zero _)
    | succ N9 ih =>
      intro t bo to hN e_bo e_to hi0_4 ls hl
      subst e_bo
      subst e_to
      have ih_4 := ih
      refine lv_iload_n hx hb dX4_placesOf_4 rfl (lv_at hl 1 rfl) ?_
      refine lv_bipush (v := 31) hx hb dX4_placesOf_5 (by decide) ?_
      refine lv_icmp_ge (tgt := 27) hx hb dX4_placesOf_7 (by decide) (fun c_7 => ?_) (fun c_7 => ?_)
      · skip
        have q_7 := tN_le 31 t c_7 rfl rfl (by omega) (by omega)
        refine lv_iload_n hx hb dX4_placesOf_27 rfl (lv_at hl 0 rfl) ?_
        exact W.iret (v := nI (orN (atN (S k)) t)) hx hb hr (fun t9 ht9 hW9 => ⟨_, rfl, (by have h9 : t = 31 := (by omega); subst h9; rfl), ht9⟩) (fun q h => by cases h) dX4_placesOf_28
      · skip
        have q_7 := tN_nle 31 t c_7 rfl rfl (by omega) (by omega)
        refine lv_iload_n hx hb dX4_placesOf_10 rfl (lv_at hl 0 rfl) ?_
        refine lv_iconst (v := 1) hx hb dX4_placesOf_11 (by decide) ?_
        refine lv_aload_n hx hb dX4_placesOf_12 rfl (lv_at hl 2 rfl) ?_
        refine lv_iload_n hx hb dX4_placesOf_13 rfl (lv_at hl 3 rfl) ?_
        refine lv_iload_n hx hb dX4_placesOf_14 rfl (lv_at hl 1 rfl) ?_
        refine cr_i (q := 694) [.int (nI k), .int (nI t)] hx hb hml hown hG v_X4_atOf (by decide +kernel) (c_X4_atOf l G μ hs n S q V ch hg k hk t (by omega)) (preM hW _) rfl hl.1 (Nat.le_of_ble_eq_true rfl) dX4_placesOf_15 ⟨rfl, rfl, Nat.le_of_ble_eq_true rfl, Nat.le_of_ble_eq_true rfl⟩ ⟨Nat.le_of_ble_eq_true rfl, Nat.le_of_ble_eq_true rfl⟩ ?_
        refine lv_ishl hx hb dX4_placesOf_18 ?_
        refine lv_eqi (y := nI (2 ^ (atN (S k) t))) (bitI _ (Nat.lt_trans (posN_lt hv9 _) (by omega))) ?_
        refine lv_ior hx hb dX4_placesOf_19 ?_
        refine lv_eqi (y := nI ((orN (atN (S k)) t) ||| (2 ^ (atN (S k) t)))) (nI_or (orN (atN (S k)) t) (2 ^ (atN (S k) t))) ?_
        refine lv_istore_n (lv' := [(2, .int (nI ((orN (atN (S k)) t) ||| (2 ^ (atN (S k) t))))), (3, .int (nI t)), (0, .ref (gm G 0)), (1, .int (nI k))]) hx hb dX4_placesOf_20 rfl hl (by decide) rfl (fun ls hl => ?_)
        refine lv_iinc (v := nI (t + 1)) (lv' := [(3, .int (nI (t + 1))), (2, .int (nI ((orN (atN (S k)) t) ||| (2 ^ (atN (S k) t))))), (0, .ref (gm G 0)), (1, .int (nI k))]) hx hb dX4_placesOf_21 hl (k := 1) rfl (inc1 t) (by decide) rfl (fun ls hl => ?_)
        refine lv_goto (tgt := 4) hx hb dX4_placesOf_24 (by decide) ?_
        exact ih_4 (t + 1) _ _ (by omega) rfl rfl (by omega) ls (lv_sub hl [1, 0, 2, 3] rfl)
  exact loop_4 _ 0 _ _ (Nat.lt_succ_self _) rfl rfl (by omega) ls (lv_sub hl [1, 0, 2, 3] rfl)
set_option maxHeartbeats 4000000 in
set_option maxRecDepth 100000 in
theorem c_X4_endOf (l : Launch) (G : Gam) (μ : St) (hs : Int64) (n : Nat) (S : Nat → Sk) (q : Nat) (V : Nat → Nat) (ch : Int32) (hg : RM μ n S q V ch) (k : Nat) (hk : k < n) : Met l yX4_endOf (w1 yX4_endOf cX4_endOf 2 (some .int)) ({ frames := 1, cells := 0, slots := 0, locals := 23 }) (PcM G μ hs [.ref (gm G 0), .int (nI k)]) (vp_Si (fun r => r = nI (S k 2 + hwN (S k 0) (S k 3)))) 0 0 (fun _ => False) := by
  refine met_of [.ref (gm G 0), .int (nI k)] [(0, .ref (gm G 0)), (1, .int (nI k))] (by decide) (Nat.le_of_ble_eq_true rfl) rfl ?_
  intro p e s m below meth c hx hb hr hown hml hlocks hW ls hl
  have hG : GW s := hW.2.2.2
  have hn6 := hg.1.2
  have hq8 := hg.2.2.1.2
  have hv9 := (hg.2.2.2.1 k hk).1
  have hv0 := hv9.1
  have hv1 := hv9.2.1
  have hv3 := hv9.2.2.1
  have hc1 := (hg.2.2.2.1 k hk).2.1
  have hl9 := (hg.2.2.2.1 k hk).2.2.1
  refine lv_aload_n hx hb dX4_endOf_0 rfl (lv_at hl 0 rfl) ?_
  refine rd_X4_16 hx hb hown hW dX4_endOf_1 ?_
  refine lv_bipush (v := 9) hx hb dX4_endOf_4 (by decide) ?_
  refine lv_iload_n hx hb dX4_endOf_6 rfl (lv_at hl 1 rfl) ?_
  refine ln_mul 9 k hx hb rfl rfl dX4_endOf_7 ?_
  refine lv_iconst (v := 2) hx hb dX4_endOf_8 (by decide) ?_
  refine ln_add (9 * k) 2 hx hb rfl rfl dX4_endOf_9 ?_
  refine al_M (k := (9 * k) + 2) 3 hx hb hW rfl (show _ < 54 by omega) dX4_endOf_10 ?_
  refine lv_eqi (y := nI (S k 2)) (hg.2.2.2.1 k (by omega)).2.2.2.2.2.1 ?_
  refine lv_aload_n hx hb dX4_endOf_11 rfl (lv_at hl 0 rfl) ?_
  refine lv_iload_n hx hb dX4_endOf_12 rfl (lv_at hl 1 rfl) ?_
  refine cr_i (q := 690) [.int (nI k)] hx hb hml hown hG v_X4_hoursOf (by decide +kernel) (c_X4_hoursOf l G μ hs n S q V ch hg k hk) (preM hW _) rfl hl.1 (Nat.le_of_ble_eq_true rfl) dX4_endOf_13 ⟨rfl, rfl, Nat.le_of_ble_eq_true rfl, Nat.le_of_ble_eq_true rfl⟩ ⟨Nat.le_of_ble_eq_true rfl, Nat.le_of_ble_eq_true rfl⟩ ?_
  refine ln_add (S k 2) (hwN (S k 0) (S k 3)) hx hb rfl rfl dX4_endOf_16 ?_
  exact W.iret (v := nI ((S k 2) + (hwN (S k 0) (S k 3)))) hx hb hr (fun t9 ht9 hW9 => ⟨_, rfl, rfl, ht9⟩) (fun q h => by cases h) dX4_endOf_17
set_option maxHeartbeats 4000000 in
set_option maxRecDepth 100000 in
theorem c_X4_tell (l : Launch) (G : Gam) (μ : St) (hs : Int64) (n : Nat) (S : Nat → Sk) (q : Nat) (V : Nat → Nat) (ch : Int32) (hg : RM μ n S q V ch) (k : Nat) (hk : k < n) (x : Int32) : Met l yX4_tell (w1 yX4_tell cX4_tell 3 (some .int)) ({ frames := 4, cells := 0, slots := 0, locals := 98 }) (PcM G μ hs [.ref (gm G 0), .int (nI k), .int x]) (vp_Si (fun r => r = wK x 15 (tellN (S k)) (-102))) 0 0 (fun _ => False) := by
  have hn6 := hg.1.2
  have hq8 := hg.2.2.1.2
  have hv9 := (hg.2.2.2.1 k hk).1
  have hv0 := hv9.1
  have hv1 := hv9.2.1
  have hv3 := hv9.2.2.1
  have hc1 := (hg.2.2.2.1 k hk).2.1
  have hl9 := (hg.2.2.2.1 k hk).2.2.1
  rcases hasB_c x (n := 15) (by omega) with hx0 | ⟨u9, hu9, rfl⟩
  · skip
    refine met_of [.ref (gm G 0), .int (nI k), .int x] [(0, .ref (gm G 0)), (1, .int (nI k)), (2, .int x)] (by decide) (Nat.le_of_ble_eq_true rfl) rfl ?_
    intro p e s m below meth c hx hb hr hown hml hlocks hW ls hl
    have hG : GW s := hW.2.2.2
    refine lv_iload_n hx hb dX4_tell_0 rfl (lv_at hl 2 rfl) ?_
    refine lv_i2l hx hb dX4_tell_1 rfl ?_
    refine lv_ldc2 (v := 10) hx hb hown (hG.use (i := 684) (by decide +kernel) rfl _) dX4_tell_2 ?_
    refine lv_ldc2 (v := 14) hx hb hown (hG.use (i := 685) (by decide +kernel) rfl _) dX4_tell_5 ?_
    refine cs_i (q := 641) [.long ((x : Int32).toInt64), .long 10, .long 14] hx hb hml hown hG v_X4_in (by decide +kernel) (c_X4_in l ((x : Int32).toInt64) (10) (14)) (preT _) rfl hl.1 (Nat.le_of_ble_eq_true rfl) dX4_tell_8 ⟨rfl, rfl, Nat.le_of_ble_eq_true rfl, Nat.le_of_ble_eq_true rfl⟩ ⟨Nat.le_of_ble_eq_true rfl, Nat.le_of_ble_eq_true rfl⟩ ?_
    refine lv_eqi (y := 0) (by rw [inL_f hx0]; rfl) ?_
    refine lv_if_eq (tgt := 51) hx hb dX4_tell_11 (by decide) (fun c_11 => ?_) (fun c_11 => ?_)
    · skip
      refine lv_iload_n hx hb dX4_tell_51 rfl (lv_at hl 2 rfl) ?_
      refine lv_tableOut (tgt := 158) hx hb dX4_tell_52 (hB_out 15 6 (by omega) (by omega) hx0) (by decide) ?_
      refine lv_bipush (v := (-102)) hx hb dX4_tell_158 (by decide) ?_
      exact W.iret (v := (-102)) hx hb hr (fun t9 ht9 hW9 => ⟨_, rfl, (wK_f hx0).symm, ht9⟩) (fun q h => by cases h) dX4_tell_160
    · skip
      exact absurd (by decide) c_11
  · skip
    rcases sw15 hu9 with rfl | rfl | rfl | rfl | rfl | rfl | rfl | rfl | rfl | rfl | rfl | rfl | rfl | rfl | rfl
    · skip
      refine met_of [.ref (gm G 0), .int (nI k), .int 0] [(0, .ref (gm G 0)), (1, .int (nI k)), (2, .int 0)] (by decide) (Nat.le_of_ble_eq_true rfl) rfl ?_
      intro p e s m below meth c hx hb hr hown hml hlocks hW ls hl
      have hG : GW s := hW.2.2.2
      refine lv_iload_n hx hb dX4_tell_0 rfl (lv_at hl 2 rfl) ?_
      refine lv_i2l hx hb dX4_tell_1 rfl ?_
      refine lv_ldc2 (v := 10) hx hb hown (hG.use (i := 684) (by decide +kernel) rfl _) dX4_tell_2 ?_
      refine lv_ldc2 (v := 14) hx hb hown (hG.use (i := 685) (by decide +kernel) rfl _) dX4_tell_5 ?_
      refine cs_i (q := 641) [.long ((0 : Int32).toInt64), .long 10, .long 14] hx hb hml hown hG v_X4_in (by decide +kernel) (c_X4_in l ((0 : Int32).toInt64) (10) (14)) (preT _) rfl hl.1 (Nat.le_of_ble_eq_true rfl) dX4_tell_8 ⟨rfl, rfl, Nat.le_of_ble_eq_true rfl, Nat.le_of_ble_eq_true rfl⟩ ⟨Nat.le_of_ble_eq_true rfl, Nat.le_of_ble_eq_true rfl⟩ ?_
      refine lv_eqi (y := 0) (by decide +kernel) ?_
      refine lv_if_eq (tgt := 51) hx hb dX4_tell_11 (by decide) (fun c_11 => ?_) (fun c_11 => ?_)
      · skip
        refine lv_iload_n hx hb dX4_tell_51 rfl (lv_at hl 2 rfl) ?_
        refine lv_tableIn (off := 44) (tgt := 96) hx hb dX4_tell_52 (by decide) (by decide) rfl (by decide) ?_
        refine lv_aload_n hx hb dX4_tell_96 rfl (lv_at hl 0 rfl) ?_
        refine rd_X4_16 hx hb hown hW dX4_tell_97 ?_
        refine lv_bipush (v := 9) hx hb dX4_tell_100 (by decide) ?_
        refine lv_iload_n hx hb dX4_tell_102 rfl (lv_at hl 1 rfl) ?_
        refine ln_mul 9 k hx hb rfl rfl dX4_tell_103 ?_
        refine lv_iload_n hx hb dX4_tell_104 rfl (lv_at hl 2 rfl) ?_
        refine ln_add (9 * k) 0 hx hb rfl rfl dX4_tell_105 ?_
        refine al_M (k := (9 * k) + 0) 3 hx hb hW rfl (show _ < 54 by omega) dX4_tell_106 ?_
        refine lv_eqi (y := nI (S k 0)) (hg.2.2.2.1 k (by omega)).2.2.2.1 ?_
        exact W.iret (v := nI (S k 0)) hx hb hr (fun t9 ht9 hW9 => ⟨_, rfl, (show _ = _ from (wK_k (k := 0) (f := tellN (S k)) (by omega) (by omega)).symm), ht9⟩) (fun q h => by cases h) dX4_tell_107
      · skip
        exact absurd (by decide) c_11
    · skip
      refine met_of [.ref (gm G 0), .int (nI k), .int 1] [(0, .ref (gm G 0)), (1, .int (nI k)), (2, .int 1)] (by decide) (Nat.le_of_ble_eq_true rfl) rfl ?_
      intro p e s m below meth c hx hb hr hown hml hlocks hW ls hl
      have hG : GW s := hW.2.2.2
      refine lv_iload_n hx hb dX4_tell_0 rfl (lv_at hl 2 rfl) ?_
      refine lv_i2l hx hb dX4_tell_1 rfl ?_
      refine lv_ldc2 (v := 10) hx hb hown (hG.use (i := 684) (by decide +kernel) rfl _) dX4_tell_2 ?_
      refine lv_ldc2 (v := 14) hx hb hown (hG.use (i := 685) (by decide +kernel) rfl _) dX4_tell_5 ?_
      refine cs_i (q := 641) [.long ((1 : Int32).toInt64), .long 10, .long 14] hx hb hml hown hG v_X4_in (by decide +kernel) (c_X4_in l ((1 : Int32).toInt64) (10) (14)) (preT _) rfl hl.1 (Nat.le_of_ble_eq_true rfl) dX4_tell_8 ⟨rfl, rfl, Nat.le_of_ble_eq_true rfl, Nat.le_of_ble_eq_true rfl⟩ ⟨Nat.le_of_ble_eq_true rfl, Nat.le_of_ble_eq_true rfl⟩ ?_
      refine lv_eqi (y := 0) (by decide +kernel) ?_
      refine lv_if_eq (tgt := 51) hx hb dX4_tell_11 (by decide) (fun c_11 => ?_) (fun c_11 => ?_)
      · skip
        refine lv_iload_n hx hb dX4_tell_51 rfl (lv_at hl 2 rfl) ?_
        refine lv_tableIn (off := 44) (tgt := 96) hx hb dX4_tell_52 (by decide) (by decide) rfl (by decide) ?_
        refine lv_aload_n hx hb dX4_tell_96 rfl (lv_at hl 0 rfl) ?_
        refine rd_X4_16 hx hb hown hW dX4_tell_97 ?_
        refine lv_bipush (v := 9) hx hb dX4_tell_100 (by decide) ?_
        refine lv_iload_n hx hb dX4_tell_102 rfl (lv_at hl 1 rfl) ?_
        refine ln_mul 9 k hx hb rfl rfl dX4_tell_103 ?_
        refine lv_iload_n hx hb dX4_tell_104 rfl (lv_at hl 2 rfl) ?_
        refine ln_add (9 * k) 1 hx hb rfl rfl dX4_tell_105 ?_
        refine al_M (k := (9 * k) + 1) 3 hx hb hW rfl (show _ < 54 by omega) dX4_tell_106 ?_
        refine lv_eqi (y := nI (S k 1)) (hg.2.2.2.1 k (by omega)).2.2.2.2.1 ?_
        exact W.iret (v := nI (S k 1)) hx hb hr (fun t9 ht9 hW9 => ⟨_, rfl, (show _ = _ from (wK_k (k := 1) (f := tellN (S k)) (by omega) (by omega)).symm), ht9⟩) (fun q h => by cases h) dX4_tell_107
      · skip
        exact absurd (by decide) c_11
    · skip
      refine met_of [.ref (gm G 0), .int (nI k), .int 2] [(0, .ref (gm G 0)), (1, .int (nI k)), (2, .int 2)] (by decide) (Nat.le_of_ble_eq_true rfl) rfl ?_
      intro p e s m below meth c hx hb hr hown hml hlocks hW ls hl
      have hG : GW s := hW.2.2.2
      refine lv_iload_n hx hb dX4_tell_0 rfl (lv_at hl 2 rfl) ?_
      refine lv_i2l hx hb dX4_tell_1 rfl ?_
      refine lv_ldc2 (v := 10) hx hb hown (hG.use (i := 684) (by decide +kernel) rfl _) dX4_tell_2 ?_
      refine lv_ldc2 (v := 14) hx hb hown (hG.use (i := 685) (by decide +kernel) rfl _) dX4_tell_5 ?_
      refine cs_i (q := 641) [.long ((2 : Int32).toInt64), .long 10, .long 14] hx hb hml hown hG v_X4_in (by decide +kernel) (c_X4_in l ((2 : Int32).toInt64) (10) (14)) (preT _) rfl hl.1 (Nat.le_of_ble_eq_true rfl) dX4_tell_8 ⟨rfl, rfl, Nat.le_of_ble_eq_true rfl, Nat.le_of_ble_eq_true rfl⟩ ⟨Nat.le_of_ble_eq_true rfl, Nat.le_of_ble_eq_true rfl⟩ ?_
      refine lv_eqi (y := 0) (by decide +kernel) ?_
      refine lv_if_eq (tgt := 51) hx hb dX4_tell_11 (by decide) (fun c_11 => ?_) (fun c_11 => ?_)
      · skip
        refine lv_iload_n hx hb dX4_tell_51 rfl (lv_at hl 2 rfl) ?_
        refine lv_tableIn (off := 56) (tgt := 108) hx hb dX4_tell_52 (by decide) (by decide) rfl (by decide) ?_
        refine lv_aload_n hx hb dX4_tell_108 rfl (lv_at hl 0 rfl) ?_
        refine rd_X4_16 hx hb hown hW dX4_tell_109 ?_
        refine lv_bipush (v := 9) hx hb dX4_tell_112 (by decide) ?_
        refine lv_iload_n hx hb dX4_tell_114 rfl (lv_at hl 1 rfl) ?_
        refine ln_mul 9 k hx hb rfl rfl dX4_tell_115 ?_
        refine lv_iconst (v := 3) hx hb dX4_tell_116 (by decide) ?_
        refine ln_add (9 * k) 3 hx hb rfl rfl dX4_tell_117 ?_
        refine al_M (k := (9 * k) + 3) 3 hx hb hW rfl (show _ < 54 by omega) dX4_tell_118 ?_
        refine lv_eqi (y := nI (S k 3)) (hg.2.2.2.1 k (by omega)).2.2.2.2.2.2.1 ?_
        exact W.iret (v := nI (S k 3)) hx hb hr (fun t9 ht9 hW9 => ⟨_, rfl, (show _ = _ from (wK_k (k := 2) (f := tellN (S k)) (by omega) (by omega)).symm), ht9⟩) (fun q h => by cases h) dX4_tell_119
      · skip
        exact absurd (by decide) c_11
    · skip
      refine met_of [.ref (gm G 0), .int (nI k), .int 3] [(0, .ref (gm G 0)), (1, .int (nI k)), (2, .int 3)] (by decide) (Nat.le_of_ble_eq_true rfl) rfl ?_
      intro p e s m below meth c hx hb hr hown hml hlocks hW ls hl
      have hG : GW s := hW.2.2.2
      refine lv_iload_n hx hb dX4_tell_0 rfl (lv_at hl 2 rfl) ?_
      refine lv_i2l hx hb dX4_tell_1 rfl ?_
      refine lv_ldc2 (v := 10) hx hb hown (hG.use (i := 684) (by decide +kernel) rfl _) dX4_tell_2 ?_
      refine lv_ldc2 (v := 14) hx hb hown (hG.use (i := 685) (by decide +kernel) rfl _) dX4_tell_5 ?_
      refine cs_i (q := 641) [.long ((3 : Int32).toInt64), .long 10, .long 14] hx hb hml hown hG v_X4_in (by decide +kernel) (c_X4_in l ((3 : Int32).toInt64) (10) (14)) (preT _) rfl hl.1 (Nat.le_of_ble_eq_true rfl) dX4_tell_8 ⟨rfl, rfl, Nat.le_of_ble_eq_true rfl, Nat.le_of_ble_eq_true rfl⟩ ⟨Nat.le_of_ble_eq_true rfl, Nat.le_of_ble_eq_true rfl⟩ ?_
      refine lv_eqi (y := 0) (by decide +kernel) ?_
      refine lv_if_eq (tgt := 51) hx hb dX4_tell_11 (by decide) (fun c_11 => ?_) (fun c_11 => ?_)
      · skip
        refine lv_iload_n hx hb dX4_tell_51 rfl (lv_at hl 2 rfl) ?_
        refine lv_tableIn (off := 68) (tgt := 120) hx hb dX4_tell_52 (by decide) (by decide) rfl (by decide) ?_
        refine lv_aload_n hx hb dX4_tell_120 rfl (lv_at hl 0 rfl) ?_
        refine rd_X4_16 hx hb hown hW dX4_tell_121 ?_
        refine lv_bipush (v := 9) hx hb dX4_tell_124 (by decide) ?_
        refine lv_iload_n hx hb dX4_tell_126 rfl (lv_at hl 1 rfl) ?_
        refine ln_mul 9 k hx hb rfl rfl dX4_tell_127 ?_
        refine lv_iconst (v := 2) hx hb dX4_tell_128 (by decide) ?_
        refine ln_add (9 * k) 2 hx hb rfl rfl dX4_tell_129 ?_
        refine al_M (k := (9 * k) + 2) 3 hx hb hW rfl (show _ < 54 by omega) dX4_tell_130 ?_
        refine lv_eqi (y := nI (S k 2)) (hg.2.2.2.1 k (by omega)).2.2.2.2.2.1 ?_
        exact W.iret (v := nI (S k 2)) hx hb hr (fun t9 ht9 hW9 => ⟨_, rfl, (show _ = _ from (wK_k (k := 3) (f := tellN (S k)) (by omega) (by omega)).symm), ht9⟩) (fun q h => by cases h) dX4_tell_131
      · skip
        exact absurd (by decide) c_11
    · skip
      refine met_of [.ref (gm G 0), .int (nI k), .int 4] [(0, .ref (gm G 0)), (1, .int (nI k)), (2, .int 4)] (by decide) (Nat.le_of_ble_eq_true rfl) rfl ?_
      intro p e s m below meth c hx hb hr hown hml hlocks hW ls hl
      have hG : GW s := hW.2.2.2
      refine lv_iload_n hx hb dX4_tell_0 rfl (lv_at hl 2 rfl) ?_
      refine lv_i2l hx hb dX4_tell_1 rfl ?_
      refine lv_ldc2 (v := 10) hx hb hown (hG.use (i := 684) (by decide +kernel) rfl _) dX4_tell_2 ?_
      refine lv_ldc2 (v := 14) hx hb hown (hG.use (i := 685) (by decide +kernel) rfl _) dX4_tell_5 ?_
      refine cs_i (q := 641) [.long ((4 : Int32).toInt64), .long 10, .long 14] hx hb hml hown hG v_X4_in (by decide +kernel) (c_X4_in l ((4 : Int32).toInt64) (10) (14)) (preT _) rfl hl.1 (Nat.le_of_ble_eq_true rfl) dX4_tell_8 ⟨rfl, rfl, Nat.le_of_ble_eq_true rfl, Nat.le_of_ble_eq_true rfl⟩ ⟨Nat.le_of_ble_eq_true rfl, Nat.le_of_ble_eq_true rfl⟩ ?_
      refine lv_eqi (y := 0) (by decide +kernel) ?_
      refine lv_if_eq (tgt := 51) hx hb dX4_tell_11 (by decide) (fun c_11 => ?_) (fun c_11 => ?_)
      · skip
        refine lv_iload_n hx hb dX4_tell_51 rfl (lv_at hl 2 rfl) ?_
        refine lv_tableIn (off := 80) (tgt := 132) hx hb dX4_tell_52 (by decide) (by decide) rfl (by decide) ?_
        refine lv_aload_n hx hb dX4_tell_132 rfl (lv_at hl 0 rfl) ?_
        refine lv_iload_n hx hb dX4_tell_133 rfl (lv_at hl 1 rfl) ?_
        refine cr_i (q := 686) [.int (nI k)] hx hb hml hown hG v_X4_endOf (by decide +kernel) (c_X4_endOf l G μ hs n S q V ch hg k hk) (preM hW _) rfl hl.1 (Nat.le_of_ble_eq_true rfl) dX4_tell_134 ⟨rfl, rfl, Nat.le_of_ble_eq_true rfl, Nat.le_of_ble_eq_true rfl⟩ ⟨Nat.le_of_ble_eq_true rfl, Nat.le_of_ble_eq_true rfl⟩ ?_
        exact W.iret (v := nI (S k 2 + hwN (S k 0) (S k 3))) hx hb hr (fun t9 ht9 hW9 => ⟨_, rfl, (show _ = _ from (wK_k (k := 4) (f := tellN (S k)) (by omega) (by omega)).symm), ht9⟩) (fun q h => by cases h) dX4_tell_137
      · skip
        exact absurd (by decide) c_11
    · skip
      refine met_of [.ref (gm G 0), .int (nI k), .int 5] [(0, .ref (gm G 0)), (1, .int (nI k)), (2, .int 5)] (by decide) (Nat.le_of_ble_eq_true rfl) rfl ?_
      intro p e s m below meth c hx hb hr hown hml hlocks hW ls hl
      have hG : GW s := hW.2.2.2
      refine lv_iload_n hx hb dX4_tell_0 rfl (lv_at hl 2 rfl) ?_
      refine lv_i2l hx hb dX4_tell_1 rfl ?_
      refine lv_ldc2 (v := 10) hx hb hown (hG.use (i := 684) (by decide +kernel) rfl _) dX4_tell_2 ?_
      refine lv_ldc2 (v := 14) hx hb hown (hG.use (i := 685) (by decide +kernel) rfl _) dX4_tell_5 ?_
      refine cs_i (q := 641) [.long ((5 : Int32).toInt64), .long 10, .long 14] hx hb hml hown hG v_X4_in (by decide +kernel) (c_X4_in l ((5 : Int32).toInt64) (10) (14)) (preT _) rfl hl.1 (Nat.le_of_ble_eq_true rfl) dX4_tell_8 ⟨rfl, rfl, Nat.le_of_ble_eq_true rfl, Nat.le_of_ble_eq_true rfl⟩ ⟨Nat.le_of_ble_eq_true rfl, Nat.le_of_ble_eq_true rfl⟩ ?_
      refine lv_eqi (y := 0) (by decide +kernel) ?_
      refine lv_if_eq (tgt := 51) hx hb dX4_tell_11 (by decide) (fun c_11 => ?_) (fun c_11 => ?_)
      · skip
        refine lv_iload_n hx hb dX4_tell_51 rfl (lv_at hl 2 rfl) ?_
        refine lv_tableIn (off := 86) (tgt := 138) hx hb dX4_tell_52 (by decide) (by decide) rfl (by decide) ?_
        refine lv_aload_n hx hb dX4_tell_138 rfl (lv_at hl 0 rfl) ?_
        refine lv_iload_n hx hb dX4_tell_139 rfl (lv_at hl 1 rfl) ?_
        refine lv_aload_n hx hb dX4_tell_140 rfl (lv_at hl 0 rfl) ?_
        refine lv_iload_n hx hb dX4_tell_141 rfl (lv_at hl 1 rfl) ?_
        refine cr_i (q := 686) [.int (nI k)] hx hb hml hown hG v_X4_endOf (by decide +kernel) (c_X4_endOf l G μ hs n S q V ch hg k hk) (preM hW _) rfl hl.1 (Nat.le_of_ble_eq_true rfl) dX4_tell_142 ⟨rfl, rfl, Nat.le_of_ble_eq_true rfl, Nat.le_of_ble_eq_true rfl⟩ ⟨Nat.le_of_ble_eq_true rfl, Nat.le_of_ble_eq_true rfl⟩ ?_
        refine cr_i (q := 694) [.int (nI k), .int (nI (S k 2 + hwN (S k 0) (S k 3)))] hx hb hml hown hG v_X4_atOf (by decide +kernel) (c_X4_atOf l G μ hs n S q V ch hg k hk (S k 2 + hwN (S k 0) (S k 3)) (by have := hw_20 (K := S k 0) hv3; omega)) (preM hW _) rfl hl.1 (Nat.le_of_ble_eq_true rfl) dX4_tell_145 ⟨rfl, rfl, Nat.le_of_ble_eq_true rfl, Nat.le_of_ble_eq_true rfl⟩ ⟨Nat.le_of_ble_eq_true rfl, Nat.le_of_ble_eq_true rfl⟩ ?_
        exact W.iret (v := nI (posN (S k) (S k 2 + hwN (S k 0) (S k 3) - S k 2))) hx hb hr (fun t9 ht9 hW9 => ⟨_, rfl, ((congrArg nI (tell5 hv3)).trans (wK_k (k := 5) (f := tellN (S k)) (by omega) (by omega)).symm), ht9⟩) (fun q h => by cases h) dX4_tell_148
      · skip
        exact absurd (by decide) c_11
    · skip
      refine met_of [.ref (gm G 0), .int (nI k), .int 6] [(0, .ref (gm G 0)), (1, .int (nI k)), (2, .int 6)] (by decide) (Nat.le_of_ble_eq_true rfl) rfl ?_
      intro p e s m below meth c hx hb hr hown hml hlocks hW ls hl
      have hG : GW s := hW.2.2.2
      refine lv_iload_n hx hb dX4_tell_0 rfl (lv_at hl 2 rfl) ?_
      refine lv_i2l hx hb dX4_tell_1 rfl ?_
      refine lv_ldc2 (v := 10) hx hb hown (hG.use (i := 684) (by decide +kernel) rfl _) dX4_tell_2 ?_
      refine lv_ldc2 (v := 14) hx hb hown (hG.use (i := 685) (by decide +kernel) rfl _) dX4_tell_5 ?_
      refine cs_i (q := 641) [.long ((6 : Int32).toInt64), .long 10, .long 14] hx hb hml hown hG v_X4_in (by decide +kernel) (c_X4_in l ((6 : Int32).toInt64) (10) (14)) (preT _) rfl hl.1 (Nat.le_of_ble_eq_true rfl) dX4_tell_8 ⟨rfl, rfl, Nat.le_of_ble_eq_true rfl, Nat.le_of_ble_eq_true rfl⟩ ⟨Nat.le_of_ble_eq_true rfl, Nat.le_of_ble_eq_true rfl⟩ ?_
      refine lv_eqi (y := 0) (by decide +kernel) ?_
      refine lv_if_eq (tgt := 51) hx hb dX4_tell_11 (by decide) (fun c_11 => ?_) (fun c_11 => ?_)
      · skip
        refine lv_iload_n hx hb dX4_tell_51 rfl (lv_at hl 2 rfl) ?_
        refine lv_tableIn (off := 97) (tgt := 149) hx hb dX4_tell_52 (by decide) (by decide) rfl (by decide) ?_
        refine lv_aload_n hx hb dX4_tell_149 rfl (lv_at hl 0 rfl) ?_
        refine lv_iload_n hx hb dX4_tell_150 rfl (lv_at hl 1 rfl) ?_
        refine cr_i (q := 706) [.int (nI k)] hx hb hml hown hG v_X4_placesOf (by decide +kernel) (c_X4_placesOf l G μ hs n S q V ch hg k hk) (preM hW _) rfl hl.1 (Nat.le_of_ble_eq_true rfl) dX4_tell_151 ⟨rfl, rfl, Nat.le_of_ble_eq_true rfl, Nat.le_of_ble_eq_true rfl⟩ ⟨Nat.le_of_ble_eq_true rfl, Nat.le_of_ble_eq_true rfl⟩ ?_
        refine cs_i (q := 710) [.int (nI (orN (atN (S k)) 31))] hx hb hml hown hG v_X4_ones (by decide +kernel) (c_X4_ones l (orN (atN (S k)) 31) (orN_lt (atN_lt hv9) 31)) (preT _) rfl hl.1 (Nat.le_of_ble_eq_true rfl) dX4_tell_154 ⟨rfl, rfl, Nat.le_of_ble_eq_true rfl, Nat.le_of_ble_eq_true rfl⟩ ⟨Nat.le_of_ble_eq_true rfl, Nat.le_of_ble_eq_true rfl⟩ ?_
        exact W.iret (v := nI (popN (orN (atN (S k)) 31))) hx hb hr (fun t9 ht9 hW9 => ⟨_, rfl, ((congrArg (fun z => nI (popN z)) (orN_at hv3 hl9)).trans (wK_k (k := 6) (f := tellN (S k)) (by omega) (by omega)).symm), ht9⟩) (fun q h => by cases h) dX4_tell_157
      · skip
        exact absurd (by decide) c_11
    · skip
      refine met_of [.ref (gm G 0), .int (nI k), .int 7] [(0, .ref (gm G 0)), (1, .int (nI k)), (2, .int 7)] (by decide) (Nat.le_of_ble_eq_true rfl) rfl ?_
      intro p e s m below meth c hx hb hr hown hml hlocks hW ls hl
      have hG : GW s := hW.2.2.2
      refine lv_iload_n hx hb dX4_tell_0 rfl (lv_at hl 2 rfl) ?_
      refine lv_i2l hx hb dX4_tell_1 rfl ?_
      refine lv_ldc2 (v := 10) hx hb hown (hG.use (i := 684) (by decide +kernel) rfl _) dX4_tell_2 ?_
      refine lv_ldc2 (v := 14) hx hb hown (hG.use (i := 685) (by decide +kernel) rfl _) dX4_tell_5 ?_
      refine cs_i (q := 641) [.long ((7 : Int32).toInt64), .long 10, .long 14] hx hb hml hown hG v_X4_in (by decide +kernel) (c_X4_in l ((7 : Int32).toInt64) (10) (14)) (preT _) rfl hl.1 (Nat.le_of_ble_eq_true rfl) dX4_tell_8 ⟨rfl, rfl, Nat.le_of_ble_eq_true rfl, Nat.le_of_ble_eq_true rfl⟩ ⟨Nat.le_of_ble_eq_true rfl, Nat.le_of_ble_eq_true rfl⟩ ?_
      refine lv_eqi (y := 0) (by decide +kernel) ?_
      refine lv_if_eq (tgt := 51) hx hb dX4_tell_11 (by decide) (fun c_11 => ?_) (fun c_11 => ?_)
      · skip
        refine lv_iload_n hx hb dX4_tell_51 rfl (lv_at hl 2 rfl) ?_
        refine lv_tableOut (tgt := 158) hx hb dX4_tell_52 (by decide) (by decide) ?_
        refine lv_bipush (v := (-102)) hx hb dX4_tell_158 (by decide) ?_
        exact W.iret (v := (-102)) hx hb hr (fun t9 ht9 hW9 => ⟨_, rfl, (show _ = _ from (wK_k (k := 7) (f := tellN (S k)) (by omega) (by omega)).symm), ht9⟩) (fun q h => by cases h) dX4_tell_160
      · skip
        exact absurd (by decide) c_11
    · skip
      refine met_of [.ref (gm G 0), .int (nI k), .int 8] [(0, .ref (gm G 0)), (1, .int (nI k)), (2, .int 8)] (by decide) (Nat.le_of_ble_eq_true rfl) rfl ?_
      intro p e s m below meth c hx hb hr hown hml hlocks hW ls hl
      have hG : GW s := hW.2.2.2
      refine lv_iload_n hx hb dX4_tell_0 rfl (lv_at hl 2 rfl) ?_
      refine lv_i2l hx hb dX4_tell_1 rfl ?_
      refine lv_ldc2 (v := 10) hx hb hown (hG.use (i := 684) (by decide +kernel) rfl _) dX4_tell_2 ?_
      refine lv_ldc2 (v := 14) hx hb hown (hG.use (i := 685) (by decide +kernel) rfl _) dX4_tell_5 ?_
      refine cs_i (q := 641) [.long ((8 : Int32).toInt64), .long 10, .long 14] hx hb hml hown hG v_X4_in (by decide +kernel) (c_X4_in l ((8 : Int32).toInt64) (10) (14)) (preT _) rfl hl.1 (Nat.le_of_ble_eq_true rfl) dX4_tell_8 ⟨rfl, rfl, Nat.le_of_ble_eq_true rfl, Nat.le_of_ble_eq_true rfl⟩ ⟨Nat.le_of_ble_eq_true rfl, Nat.le_of_ble_eq_true rfl⟩ ?_
      refine lv_eqi (y := 0) (by decide +kernel) ?_
      refine lv_if_eq (tgt := 51) hx hb dX4_tell_11 (by decide) (fun c_11 => ?_) (fun c_11 => ?_)
      · skip
        refine lv_iload_n hx hb dX4_tell_51 rfl (lv_at hl 2 rfl) ?_
        refine lv_tableOut (tgt := 158) hx hb dX4_tell_52 (by decide) (by decide) ?_
        refine lv_bipush (v := (-102)) hx hb dX4_tell_158 (by decide) ?_
        exact W.iret (v := (-102)) hx hb hr (fun t9 ht9 hW9 => ⟨_, rfl, (show _ = _ from (wK_k (k := 8) (f := tellN (S k)) (by omega) (by omega)).symm), ht9⟩) (fun q h => by cases h) dX4_tell_160
      · skip
        exact absurd (by decide) c_11
    · skip
      refine met_of [.ref (gm G 0), .int (nI k), .int 9] [(0, .ref (gm G 0)), (1, .int (nI k)), (2, .int 9)] (by decide) (Nat.le_of_ble_eq_true rfl) rfl ?_
      intro p e s m below meth c hx hb hr hown hml hlocks hW ls hl
      have hG : GW s := hW.2.2.2
      refine lv_iload_n hx hb dX4_tell_0 rfl (lv_at hl 2 rfl) ?_
      refine lv_i2l hx hb dX4_tell_1 rfl ?_
      refine lv_ldc2 (v := 10) hx hb hown (hG.use (i := 684) (by decide +kernel) rfl _) dX4_tell_2 ?_
      refine lv_ldc2 (v := 14) hx hb hown (hG.use (i := 685) (by decide +kernel) rfl _) dX4_tell_5 ?_
      refine cs_i (q := 641) [.long ((9 : Int32).toInt64), .long 10, .long 14] hx hb hml hown hG v_X4_in (by decide +kernel) (c_X4_in l ((9 : Int32).toInt64) (10) (14)) (preT _) rfl hl.1 (Nat.le_of_ble_eq_true rfl) dX4_tell_8 ⟨rfl, rfl, Nat.le_of_ble_eq_true rfl, Nat.le_of_ble_eq_true rfl⟩ ⟨Nat.le_of_ble_eq_true rfl, Nat.le_of_ble_eq_true rfl⟩ ?_
      refine lv_eqi (y := 0) (by decide +kernel) ?_
      refine lv_if_eq (tgt := 51) hx hb dX4_tell_11 (by decide) (fun c_11 => ?_) (fun c_11 => ?_)
      · skip
        refine lv_iload_n hx hb dX4_tell_51 rfl (lv_at hl 2 rfl) ?_
        refine lv_tableOut (tgt := 158) hx hb dX4_tell_52 (by decide) (by decide) ?_
        refine lv_bipush (v := (-102)) hx hb dX4_tell_158 (by decide) ?_
        exact W.iret (v := (-102)) hx hb hr (fun t9 ht9 hW9 => ⟨_, rfl, (show _ = _ from (wK_k (k := 9) (f := tellN (S k)) (by omega) (by omega)).symm), ht9⟩) (fun q h => by cases h) dX4_tell_160
      · skip
        exact absurd (by decide) c_11
    · skip
      refine met_of [.ref (gm G 0), .int (nI k), .int 10] [(0, .ref (gm G 0)), (1, .int (nI k)), (2, .int 10)] (by decide) (Nat.le_of_ble_eq_true rfl) rfl ?_
      intro p e s m below meth c hx hb hr hown hml hlocks hW ls hl
      have hG : GW s := hW.2.2.2
      refine lv_iload_n hx hb dX4_tell_0 rfl (lv_at hl 2 rfl) ?_
      refine lv_i2l hx hb dX4_tell_1 rfl ?_
      refine lv_ldc2 (v := 10) hx hb hown (hG.use (i := 684) (by decide +kernel) rfl _) dX4_tell_2 ?_
      refine lv_ldc2 (v := 14) hx hb hown (hG.use (i := 685) (by decide +kernel) rfl _) dX4_tell_5 ?_
      refine cs_i (q := 641) [.long ((10 : Int32).toInt64), .long 10, .long 14] hx hb hml hown hG v_X4_in (by decide +kernel) (c_X4_in l ((10 : Int32).toInt64) (10) (14)) (preT _) rfl hl.1 (Nat.le_of_ble_eq_true rfl) dX4_tell_8 ⟨rfl, rfl, Nat.le_of_ble_eq_true rfl, Nat.le_of_ble_eq_true rfl⟩ ⟨Nat.le_of_ble_eq_true rfl, Nat.le_of_ble_eq_true rfl⟩ ?_
      refine lv_eqi (y := 1) (by decide +kernel) ?_
      refine lv_if_eq (tgt := 51) hx hb dX4_tell_11 (by decide) (fun c_11 => ?_) (fun c_11 => ?_)
      · skip
        exact absurd c_11 (by decide)
      · skip
        refine lv_iload_n hx hb dX4_tell_14 rfl (lv_at hl 2 rfl) ?_
        refine lv_bipush (v := 10) hx hb dX4_tell_15 (by decide) ?_
        refine ln_sub 10 10 hx hb rfl rfl (by omega) dX4_tell_17 ?_
        refine lv_eqi (y := 0) rfl ?_
        refine lv_aload_n hx hb dX4_tell_18 rfl (lv_at hl 0 rfl) ?_
        refine rd_X4_16 hx hb hown hW dX4_tell_19 ?_
        refine lv_bipush (v := 9) hx hb dX4_tell_22 (by decide) ?_
        refine lv_iload_n hx hb dX4_tell_24 rfl (lv_at hl 1 rfl) ?_
        refine ln_mul 9 k hx hb rfl rfl dX4_tell_25 ?_
        refine lv_iconst (v := 3) hx hb dX4_tell_26 (by decide) ?_
        refine ln_add (9 * k) 3 hx hb rfl rfl dX4_tell_27 ?_
        refine al_M (k := (9 * k) + 3) 3 hx hb hW rfl (show _ < 54 by omega) dX4_tell_28 ?_
        refine lv_eqi (y := nI (S k 3)) (hg.2.2.2.1 k (by omega)).2.2.2.2.2.2.1 ?_
        refine lv_icmp_ge (tgt := 49) hx hb dX4_tell_29 (by decide) (fun c_29 => ?_) (fun c_29 => ?_)
        · skip
          have q_29 := tN_le (S k 3) 0 c_29 rfl rfl (by omega) (by omega)
          refine lv_iconst (v := (-1)) hx hb dX4_tell_49 (by decide) ?_
          exact W.iret (v := (-1)) hx hb hr (fun t9 ht9 hW9 => ⟨_, rfl, ((if_neg (show ¬ 0 < S k 3 by omega)).symm.trans (wK_k (k := 10) (f := tellN (S k)) (by omega) (by omega)).symm), ht9⟩) (fun q h => by cases h) dX4_tell_50
        · skip
          have q_29 := tN_nle (S k 3) 0 c_29 rfl rfl (by omega) (by omega)
          refine lv_aload_n hx hb dX4_tell_32 rfl (lv_at hl 0 rfl) ?_
          refine rd_X4_16 hx hb hown hW dX4_tell_33 ?_
          refine lv_bipush (v := 9) hx hb dX4_tell_36 (by decide) ?_
          refine lv_iload_n hx hb dX4_tell_38 rfl (lv_at hl 1 rfl) ?_
          refine ln_mul 9 k hx hb rfl rfl dX4_tell_39 ?_
          refine lv_iload_n hx hb dX4_tell_40 rfl (lv_at hl 2 rfl) ?_
          refine ln_add (9 * k) 10 hx hb rfl rfl dX4_tell_41 ?_
          refine lv_bipush (v := 6) hx hb dX4_tell_42 (by decide) ?_
          refine ln_sub ((9 * k) + 10) 6 hx hb rfl rfl (by omega) dX4_tell_44 ?_
          refine al_M (k := 9 * k + 4 + 0) 3 hx hb hW (congrArg nI (by omega)) (show _ < 54 by omega) dX4_tell_45 ?_
          refine lv_eqi (y := nI (S k (4 + 0))) ((hg.2.2.2.1 k hk).2.2.2.2.2.2.2 0 (by omega)) ?_
          refine lv_goto (tgt := 50) hx hb dX4_tell_46 (by decide) ?_
          exact W.iret (v := nI (S k (4 + 0))) hx hb hr (fun t9 ht9 hW9 => ⟨_, rfl, ((if_pos (show 0 < S k 3 by omega)).symm.trans (wK_k (k := 10) (f := tellN (S k)) (by omega) (by omega)).symm), ht9⟩) (fun q h => by cases h) dX4_tell_50
    · skip
      refine met_of [.ref (gm G 0), .int (nI k), .int 11] [(0, .ref (gm G 0)), (1, .int (nI k)), (2, .int 11)] (by decide) (Nat.le_of_ble_eq_true rfl) rfl ?_
      intro p e s m below meth c hx hb hr hown hml hlocks hW ls hl
      have hG : GW s := hW.2.2.2
      refine lv_iload_n hx hb dX4_tell_0 rfl (lv_at hl 2 rfl) ?_
      refine lv_i2l hx hb dX4_tell_1 rfl ?_
      refine lv_ldc2 (v := 10) hx hb hown (hG.use (i := 684) (by decide +kernel) rfl _) dX4_tell_2 ?_
      refine lv_ldc2 (v := 14) hx hb hown (hG.use (i := 685) (by decide +kernel) rfl _) dX4_tell_5 ?_
      refine cs_i (q := 641) [.long ((11 : Int32).toInt64), .long 10, .long 14] hx hb hml hown hG v_X4_in (by decide +kernel) (c_X4_in l ((11 : Int32).toInt64) (10) (14)) (preT _) rfl hl.1 (Nat.le_of_ble_eq_true rfl) dX4_tell_8 ⟨rfl, rfl, Nat.le_of_ble_eq_true rfl, Nat.le_of_ble_eq_true rfl⟩ ⟨Nat.le_of_ble_eq_true rfl, Nat.le_of_ble_eq_true rfl⟩ ?_
      refine lv_eqi (y := 1) (by decide +kernel) ?_
      refine lv_if_eq (tgt := 51) hx hb dX4_tell_11 (by decide) (fun c_11 => ?_) (fun c_11 => ?_)
      · skip
        exact absurd c_11 (by decide)
      · skip
        refine lv_iload_n hx hb dX4_tell_14 rfl (lv_at hl 2 rfl) ?_
        refine lv_bipush (v := 10) hx hb dX4_tell_15 (by decide) ?_
        refine ln_sub 11 10 hx hb rfl rfl (by omega) dX4_tell_17 ?_
        refine lv_eqi (y := 1) rfl ?_
        refine lv_aload_n hx hb dX4_tell_18 rfl (lv_at hl 0 rfl) ?_
        refine rd_X4_16 hx hb hown hW dX4_tell_19 ?_
        refine lv_bipush (v := 9) hx hb dX4_tell_22 (by decide) ?_
        refine lv_iload_n hx hb dX4_tell_24 rfl (lv_at hl 1 rfl) ?_
        refine ln_mul 9 k hx hb rfl rfl dX4_tell_25 ?_
        refine lv_iconst (v := 3) hx hb dX4_tell_26 (by decide) ?_
        refine ln_add (9 * k) 3 hx hb rfl rfl dX4_tell_27 ?_
        refine al_M (k := (9 * k) + 3) 3 hx hb hW rfl (show _ < 54 by omega) dX4_tell_28 ?_
        refine lv_eqi (y := nI (S k 3)) (hg.2.2.2.1 k (by omega)).2.2.2.2.2.2.1 ?_
        refine lv_icmp_ge (tgt := 49) hx hb dX4_tell_29 (by decide) (fun c_29 => ?_) (fun c_29 => ?_)
        · skip
          have q_29 := tN_le (S k 3) 1 c_29 rfl rfl (by omega) (by omega)
          refine lv_iconst (v := (-1)) hx hb dX4_tell_49 (by decide) ?_
          exact W.iret (v := (-1)) hx hb hr (fun t9 ht9 hW9 => ⟨_, rfl, ((if_neg (show ¬ 1 < S k 3 by omega)).symm.trans (wK_k (k := 11) (f := tellN (S k)) (by omega) (by omega)).symm), ht9⟩) (fun q h => by cases h) dX4_tell_50
        · skip
          have q_29 := tN_nle (S k 3) 1 c_29 rfl rfl (by omega) (by omega)
          refine lv_aload_n hx hb dX4_tell_32 rfl (lv_at hl 0 rfl) ?_
          refine rd_X4_16 hx hb hown hW dX4_tell_33 ?_
          refine lv_bipush (v := 9) hx hb dX4_tell_36 (by decide) ?_
          refine lv_iload_n hx hb dX4_tell_38 rfl (lv_at hl 1 rfl) ?_
          refine ln_mul 9 k hx hb rfl rfl dX4_tell_39 ?_
          refine lv_iload_n hx hb dX4_tell_40 rfl (lv_at hl 2 rfl) ?_
          refine ln_add (9 * k) 11 hx hb rfl rfl dX4_tell_41 ?_
          refine lv_bipush (v := 6) hx hb dX4_tell_42 (by decide) ?_
          refine ln_sub ((9 * k) + 11) 6 hx hb rfl rfl (by omega) dX4_tell_44 ?_
          refine al_M (k := 9 * k + 4 + 1) 3 hx hb hW (congrArg nI (by omega)) (show _ < 54 by omega) dX4_tell_45 ?_
          refine lv_eqi (y := nI (S k (4 + 1))) ((hg.2.2.2.1 k hk).2.2.2.2.2.2.2 1 (by omega)) ?_
          refine lv_goto (tgt := 50) hx hb dX4_tell_46 (by decide) ?_
          exact W.iret (v := nI (S k (4 + 1))) hx hb hr (fun t9 ht9 hW9 => ⟨_, rfl, ((if_pos (show 1 < S k 3 by omega)).symm.trans (wK_k (k := 11) (f := tellN (S k)) (by omega) (by omega)).symm), ht9⟩) (fun q h => by cases h) dX4_tell_50
    · skip
      refine met_of [.ref (gm G 0), .int (nI k), .int 12] [(0, .ref (gm G 0)), (1, .int (nI k)), (2, .int 12)] (by decide) (Nat.le_of_ble_eq_true rfl) rfl ?_
      intro p e s m below meth c hx hb hr hown hml hlocks hW ls hl
      have hG : GW s := hW.2.2.2
      refine lv_iload_n hx hb dX4_tell_0 rfl (lv_at hl 2 rfl) ?_
      refine lv_i2l hx hb dX4_tell_1 rfl ?_
      refine lv_ldc2 (v := 10) hx hb hown (hG.use (i := 684) (by decide +kernel) rfl _) dX4_tell_2 ?_
      refine lv_ldc2 (v := 14) hx hb hown (hG.use (i := 685) (by decide +kernel) rfl _) dX4_tell_5 ?_
      refine cs_i (q := 641) [.long ((12 : Int32).toInt64), .long 10, .long 14] hx hb hml hown hG v_X4_in (by decide +kernel) (c_X4_in l ((12 : Int32).toInt64) (10) (14)) (preT _) rfl hl.1 (Nat.le_of_ble_eq_true rfl) dX4_tell_8 ⟨rfl, rfl, Nat.le_of_ble_eq_true rfl, Nat.le_of_ble_eq_true rfl⟩ ⟨Nat.le_of_ble_eq_true rfl, Nat.le_of_ble_eq_true rfl⟩ ?_
      refine lv_eqi (y := 1) (by decide +kernel) ?_
      refine lv_if_eq (tgt := 51) hx hb dX4_tell_11 (by decide) (fun c_11 => ?_) (fun c_11 => ?_)
      · skip
        exact absurd c_11 (by decide)
      · skip
        refine lv_iload_n hx hb dX4_tell_14 rfl (lv_at hl 2 rfl) ?_
        refine lv_bipush (v := 10) hx hb dX4_tell_15 (by decide) ?_
        refine ln_sub 12 10 hx hb rfl rfl (by omega) dX4_tell_17 ?_
        refine lv_eqi (y := 2) rfl ?_
        refine lv_aload_n hx hb dX4_tell_18 rfl (lv_at hl 0 rfl) ?_
        refine rd_X4_16 hx hb hown hW dX4_tell_19 ?_
        refine lv_bipush (v := 9) hx hb dX4_tell_22 (by decide) ?_
        refine lv_iload_n hx hb dX4_tell_24 rfl (lv_at hl 1 rfl) ?_
        refine ln_mul 9 k hx hb rfl rfl dX4_tell_25 ?_
        refine lv_iconst (v := 3) hx hb dX4_tell_26 (by decide) ?_
        refine ln_add (9 * k) 3 hx hb rfl rfl dX4_tell_27 ?_
        refine al_M (k := (9 * k) + 3) 3 hx hb hW rfl (show _ < 54 by omega) dX4_tell_28 ?_
        refine lv_eqi (y := nI (S k 3)) (hg.2.2.2.1 k (by omega)).2.2.2.2.2.2.1 ?_
        refine lv_icmp_ge (tgt := 49) hx hb dX4_tell_29 (by decide) (fun c_29 => ?_) (fun c_29 => ?_)
        · skip
          have q_29 := tN_le (S k 3) 2 c_29 rfl rfl (by omega) (by omega)
          refine lv_iconst (v := (-1)) hx hb dX4_tell_49 (by decide) ?_
          exact W.iret (v := (-1)) hx hb hr (fun t9 ht9 hW9 => ⟨_, rfl, ((if_neg (show ¬ 2 < S k 3 by omega)).symm.trans (wK_k (k := 12) (f := tellN (S k)) (by omega) (by omega)).symm), ht9⟩) (fun q h => by cases h) dX4_tell_50
        · skip
          have q_29 := tN_nle (S k 3) 2 c_29 rfl rfl (by omega) (by omega)
          refine lv_aload_n hx hb dX4_tell_32 rfl (lv_at hl 0 rfl) ?_
          refine rd_X4_16 hx hb hown hW dX4_tell_33 ?_
          refine lv_bipush (v := 9) hx hb dX4_tell_36 (by decide) ?_
          refine lv_iload_n hx hb dX4_tell_38 rfl (lv_at hl 1 rfl) ?_
          refine ln_mul 9 k hx hb rfl rfl dX4_tell_39 ?_
          refine lv_iload_n hx hb dX4_tell_40 rfl (lv_at hl 2 rfl) ?_
          refine ln_add (9 * k) 12 hx hb rfl rfl dX4_tell_41 ?_
          refine lv_bipush (v := 6) hx hb dX4_tell_42 (by decide) ?_
          refine ln_sub ((9 * k) + 12) 6 hx hb rfl rfl (by omega) dX4_tell_44 ?_
          refine al_M (k := 9 * k + 4 + 2) 3 hx hb hW (congrArg nI (by omega)) (show _ < 54 by omega) dX4_tell_45 ?_
          refine lv_eqi (y := nI (S k (4 + 2))) ((hg.2.2.2.1 k hk).2.2.2.2.2.2.2 2 (by omega)) ?_
          refine lv_goto (tgt := 50) hx hb dX4_tell_46 (by decide) ?_
          exact W.iret (v := nI (S k (4 + 2))) hx hb hr (fun t9 ht9 hW9 => ⟨_, rfl, ((if_pos (show 2 < S k 3 by omega)).symm.trans (wK_k (k := 12) (f := tellN (S k)) (by omega) (by omega)).symm), ht9⟩) (fun q h => by cases h) dX4_tell_50
    · skip
      refine met_of [.ref (gm G 0), .int (nI k), .int 13] [(0, .ref (gm G 0)), (1, .int (nI k)), (2, .int 13)] (by decide) (Nat.le_of_ble_eq_true rfl) rfl ?_
      intro p e s m below meth c hx hb hr hown hml hlocks hW ls hl
      have hG : GW s := hW.2.2.2
      refine lv_iload_n hx hb dX4_tell_0 rfl (lv_at hl 2 rfl) ?_
      refine lv_i2l hx hb dX4_tell_1 rfl ?_
      refine lv_ldc2 (v := 10) hx hb hown (hG.use (i := 684) (by decide +kernel) rfl _) dX4_tell_2 ?_
      refine lv_ldc2 (v := 14) hx hb hown (hG.use (i := 685) (by decide +kernel) rfl _) dX4_tell_5 ?_
      refine cs_i (q := 641) [.long ((13 : Int32).toInt64), .long 10, .long 14] hx hb hml hown hG v_X4_in (by decide +kernel) (c_X4_in l ((13 : Int32).toInt64) (10) (14)) (preT _) rfl hl.1 (Nat.le_of_ble_eq_true rfl) dX4_tell_8 ⟨rfl, rfl, Nat.le_of_ble_eq_true rfl, Nat.le_of_ble_eq_true rfl⟩ ⟨Nat.le_of_ble_eq_true rfl, Nat.le_of_ble_eq_true rfl⟩ ?_
      refine lv_eqi (y := 1) (by decide +kernel) ?_
      refine lv_if_eq (tgt := 51) hx hb dX4_tell_11 (by decide) (fun c_11 => ?_) (fun c_11 => ?_)
      · skip
        exact absurd c_11 (by decide)
      · skip
        refine lv_iload_n hx hb dX4_tell_14 rfl (lv_at hl 2 rfl) ?_
        refine lv_bipush (v := 10) hx hb dX4_tell_15 (by decide) ?_
        refine ln_sub 13 10 hx hb rfl rfl (by omega) dX4_tell_17 ?_
        refine lv_eqi (y := 3) rfl ?_
        refine lv_aload_n hx hb dX4_tell_18 rfl (lv_at hl 0 rfl) ?_
        refine rd_X4_16 hx hb hown hW dX4_tell_19 ?_
        refine lv_bipush (v := 9) hx hb dX4_tell_22 (by decide) ?_
        refine lv_iload_n hx hb dX4_tell_24 rfl (lv_at hl 1 rfl) ?_
        refine ln_mul 9 k hx hb rfl rfl dX4_tell_25 ?_
        refine lv_iconst (v := 3) hx hb dX4_tell_26 (by decide) ?_
        refine ln_add (9 * k) 3 hx hb rfl rfl dX4_tell_27 ?_
        refine al_M (k := (9 * k) + 3) 3 hx hb hW rfl (show _ < 54 by omega) dX4_tell_28 ?_
        refine lv_eqi (y := nI (S k 3)) (hg.2.2.2.1 k (by omega)).2.2.2.2.2.2.1 ?_
        refine lv_icmp_ge (tgt := 49) hx hb dX4_tell_29 (by decide) (fun c_29 => ?_) (fun c_29 => ?_)
        · skip
          have q_29 := tN_le (S k 3) 3 c_29 rfl rfl (by omega) (by omega)
          refine lv_iconst (v := (-1)) hx hb dX4_tell_49 (by decide) ?_
          exact W.iret (v := (-1)) hx hb hr (fun t9 ht9 hW9 => ⟨_, rfl, ((if_neg (show ¬ 3 < S k 3 by omega)).symm.trans (wK_k (k := 13) (f := tellN (S k)) (by omega) (by omega)).symm), ht9⟩) (fun q h => by cases h) dX4_tell_50
        · skip
          have q_29 := tN_nle (S k 3) 3 c_29 rfl rfl (by omega) (by omega)
          refine lv_aload_n hx hb dX4_tell_32 rfl (lv_at hl 0 rfl) ?_
          refine rd_X4_16 hx hb hown hW dX4_tell_33 ?_
          refine lv_bipush (v := 9) hx hb dX4_tell_36 (by decide) ?_
          refine lv_iload_n hx hb dX4_tell_38 rfl (lv_at hl 1 rfl) ?_
          refine ln_mul 9 k hx hb rfl rfl dX4_tell_39 ?_
          refine lv_iload_n hx hb dX4_tell_40 rfl (lv_at hl 2 rfl) ?_
          refine ln_add (9 * k) 13 hx hb rfl rfl dX4_tell_41 ?_
          refine lv_bipush (v := 6) hx hb dX4_tell_42 (by decide) ?_
          refine ln_sub ((9 * k) + 13) 6 hx hb rfl rfl (by omega) dX4_tell_44 ?_
          refine al_M (k := 9 * k + 4 + 3) 3 hx hb hW (congrArg nI (by omega)) (show _ < 54 by omega) dX4_tell_45 ?_
          refine lv_eqi (y := nI (S k (4 + 3))) ((hg.2.2.2.1 k hk).2.2.2.2.2.2.2 3 (by omega)) ?_
          refine lv_goto (tgt := 50) hx hb dX4_tell_46 (by decide) ?_
          exact W.iret (v := nI (S k (4 + 3))) hx hb hr (fun t9 ht9 hW9 => ⟨_, rfl, ((if_pos (show 3 < S k 3 by omega)).symm.trans (wK_k (k := 13) (f := tellN (S k)) (by omega) (by omega)).symm), ht9⟩) (fun q h => by cases h) dX4_tell_50
    · skip
      refine met_of [.ref (gm G 0), .int (nI k), .int 14] [(0, .ref (gm G 0)), (1, .int (nI k)), (2, .int 14)] (by decide) (Nat.le_of_ble_eq_true rfl) rfl ?_
      intro p e s m below meth c hx hb hr hown hml hlocks hW ls hl
      have hG : GW s := hW.2.2.2
      refine lv_iload_n hx hb dX4_tell_0 rfl (lv_at hl 2 rfl) ?_
      refine lv_i2l hx hb dX4_tell_1 rfl ?_
      refine lv_ldc2 (v := 10) hx hb hown (hG.use (i := 684) (by decide +kernel) rfl _) dX4_tell_2 ?_
      refine lv_ldc2 (v := 14) hx hb hown (hG.use (i := 685) (by decide +kernel) rfl _) dX4_tell_5 ?_
      refine cs_i (q := 641) [.long ((14 : Int32).toInt64), .long 10, .long 14] hx hb hml hown hG v_X4_in (by decide +kernel) (c_X4_in l ((14 : Int32).toInt64) (10) (14)) (preT _) rfl hl.1 (Nat.le_of_ble_eq_true rfl) dX4_tell_8 ⟨rfl, rfl, Nat.le_of_ble_eq_true rfl, Nat.le_of_ble_eq_true rfl⟩ ⟨Nat.le_of_ble_eq_true rfl, Nat.le_of_ble_eq_true rfl⟩ ?_
      refine lv_eqi (y := 1) (by decide +kernel) ?_
      refine lv_if_eq (tgt := 51) hx hb dX4_tell_11 (by decide) (fun c_11 => ?_) (fun c_11 => ?_)
      · skip
        exact absurd c_11 (by decide)
      · skip
        refine lv_iload_n hx hb dX4_tell_14 rfl (lv_at hl 2 rfl) ?_
        refine lv_bipush (v := 10) hx hb dX4_tell_15 (by decide) ?_
        refine ln_sub 14 10 hx hb rfl rfl (by omega) dX4_tell_17 ?_
        refine lv_eqi (y := 4) rfl ?_
        refine lv_aload_n hx hb dX4_tell_18 rfl (lv_at hl 0 rfl) ?_
        refine rd_X4_16 hx hb hown hW dX4_tell_19 ?_
        refine lv_bipush (v := 9) hx hb dX4_tell_22 (by decide) ?_
        refine lv_iload_n hx hb dX4_tell_24 rfl (lv_at hl 1 rfl) ?_
        refine ln_mul 9 k hx hb rfl rfl dX4_tell_25 ?_
        refine lv_iconst (v := 3) hx hb dX4_tell_26 (by decide) ?_
        refine ln_add (9 * k) 3 hx hb rfl rfl dX4_tell_27 ?_
        refine al_M (k := (9 * k) + 3) 3 hx hb hW rfl (show _ < 54 by omega) dX4_tell_28 ?_
        refine lv_eqi (y := nI (S k 3)) (hg.2.2.2.1 k (by omega)).2.2.2.2.2.2.1 ?_
        refine lv_icmp_ge (tgt := 49) hx hb dX4_tell_29 (by decide) (fun c_29 => ?_) (fun c_29 => ?_)
        · skip
          have q_29 := tN_le (S k 3) 4 c_29 rfl rfl (by omega) (by omega)
          refine lv_iconst (v := (-1)) hx hb dX4_tell_49 (by decide) ?_
          exact W.iret (v := (-1)) hx hb hr (fun t9 ht9 hW9 => ⟨_, rfl, ((if_neg (show ¬ 4 < S k 3 by omega)).symm.trans (wK_k (k := 14) (f := tellN (S k)) (by omega) (by omega)).symm), ht9⟩) (fun q h => by cases h) dX4_tell_50
        · skip
          have q_29 := tN_nle (S k 3) 4 c_29 rfl rfl (by omega) (by omega)
          refine lv_aload_n hx hb dX4_tell_32 rfl (lv_at hl 0 rfl) ?_
          refine rd_X4_16 hx hb hown hW dX4_tell_33 ?_
          refine lv_bipush (v := 9) hx hb dX4_tell_36 (by decide) ?_
          refine lv_iload_n hx hb dX4_tell_38 rfl (lv_at hl 1 rfl) ?_
          refine ln_mul 9 k hx hb rfl rfl dX4_tell_39 ?_
          refine lv_iload_n hx hb dX4_tell_40 rfl (lv_at hl 2 rfl) ?_
          refine ln_add (9 * k) 14 hx hb rfl rfl dX4_tell_41 ?_
          refine lv_bipush (v := 6) hx hb dX4_tell_42 (by decide) ?_
          refine ln_sub ((9 * k) + 14) 6 hx hb rfl rfl (by omega) dX4_tell_44 ?_
          refine al_M (k := 9 * k + 4 + 4) 3 hx hb hW (congrArg nI (by omega)) (show _ < 54 by omega) dX4_tell_45 ?_
          refine lv_eqi (y := nI (S k (4 + 4))) ((hg.2.2.2.1 k hk).2.2.2.2.2.2.2 4 (by omega)) ?_
          refine lv_goto (tgt := 50) hx hb dX4_tell_46 (by decide) ?_
          exact W.iret (v := nI (S k (4 + 4))) hx hb hr (fun t9 ht9 hW9 => ⟨_, rfl, ((if_pos (show 4 < S k 3 by omega)).symm.trans (wK_k (k := 14) (f := tellN (S k)) (by omega) (by omega)).symm), ht9⟩) (fun q h => by cases h) dX4_tell_50
set_option maxHeartbeats 4000000 in
set_option maxRecDepth 100000 in
theorem c_X4_stick (l : Launch) (G : Gam) (μ : St) (hs : Int64) (n : Nat) (S : Nat → Sk) (q : Nat) (V : Nat → Nat) (ch : Int32) (hg : RM μ n S q V ch) (x y : Int32) : Met l yX4_stick (w1 yX4_stick cX4_stick 3 (some .int)) ({ frames := 5, cells := 0, slots := 0, locals := 120 }) (PcM G μ hs [.ref (gm G 0), .int x, .int y]) (vp_Si (fun r => r = aStick n S x y)) 0 0 (fun _ => False) := by
  have hn6 := hg.1.2
  have hq8 := hg.2.2.1.2
  rcases hasB_c x (n := n) (by omega) with hx0 | ⟨k, hk, rfl⟩
  · skip
    refine met_of [.ref (gm G 0), .int x, .int y] [(0, .ref (gm G 0)), (1, .int x), (2, .int y)] (by decide) (Nat.le_of_ble_eq_true rfl) rfl ?_
    intro p e s m below meth c hx hb hr hown hml hlocks hW ls hl
    have hG : GW s := hW.2.2.2
    refine lv_aload_n hx hb dX4_stick_0 rfl (lv_at hl 0 rfl) ?_
    refine lv_iload_n hx hb dX4_stick_1 rfl (lv_at hl 1 rfl) ?_
    refine cr_i (q := 676) [.int x] hx hb hml hown hG v_X4_isStick (by decide +kernel) (c_X4_isStick l G μ hs n S q V ch hg (x)) (preM hW _) rfl hl.1 (Nat.le_of_ble_eq_true rfl) dX4_stick_2 ⟨rfl, rfl, Nat.le_of_ble_eq_true rfl, Nat.le_of_ble_eq_true rfl⟩ ⟨Nat.le_of_ble_eq_true rfl, Nat.le_of_ble_eq_true rfl⟩ ?_
    refine lv_eqi (y := 0) (by rw [hx0]; rfl) ?_
    refine lv_if_eq (tgt := 17) hx hb dX4_stick_5 (by decide) (fun c_5 => ?_) (fun c_5 => ?_)
    · skip
      refine lv_bipush (v := (-101)) hx hb dX4_stick_17 (by decide) ?_
      exact W.iret (v := (-101)) hx hb hr (fun t9 ht9 hW9 => ⟨_, rfl, (wK_f hx0).symm, ht9⟩) (fun q h => by cases h) dX4_stick_19
    · skip
      exact absurd (by decide) c_5
  · skip
    refine met_of [.ref (gm G 0), .int (nI k), .int y] [(0, .ref (gm G 0)), (1, .int (nI k)), (2, .int y)] (by decide) (Nat.le_of_ble_eq_true rfl) rfl ?_
    intro p e s m below meth c hx hb hr hown hml hlocks hW ls hl
    have hG : GW s := hW.2.2.2
    refine lv_aload_n hx hb dX4_stick_0 rfl (lv_at hl 0 rfl) ?_
    refine lv_iload_n hx hb dX4_stick_1 rfl (lv_at hl 1 rfl) ?_
    refine cr_i (q := 676) [.int (nI k)] hx hb hml hown hG v_X4_isStick (by decide +kernel) (c_X4_isStick l G μ hs n S q V ch hg (nI k)) (preM hW _) rfl hl.1 (Nat.le_of_ble_eq_true rfl) dX4_stick_2 ⟨rfl, rfl, Nat.le_of_ble_eq_true rfl, Nat.le_of_ble_eq_true rfl⟩ ⟨Nat.le_of_ble_eq_true rfl, Nat.le_of_ble_eq_true rfl⟩ ?_
    refine lv_eqi (y := 1) (by rw [hasB_k hk (by omega)]; rfl) ?_
    refine lv_if_eq (tgt := 17) hx hb dX4_stick_5 (by decide) (fun c_5 => ?_) (fun c_5 => ?_)
    · skip
      exact absurd c_5 (by decide)
    · skip
      refine lv_aload_n hx hb dX4_stick_8 rfl (lv_at hl 0 rfl) ?_
      refine lv_iload_n hx hb dX4_stick_9 rfl (lv_at hl 1 rfl) ?_
      refine lv_iload_n hx hb dX4_stick_10 rfl (lv_at hl 2 rfl) ?_
      refine cr_i (q := 680) [.int (nI k), .int y] hx hb hml hown hG v_X4_tell (by decide +kernel) (c_X4_tell l G μ hs n S q V ch hg k hk y) (preM hW _) rfl hl.1 (Nat.le_of_ble_eq_true rfl) dX4_stick_11 ⟨rfl, rfl, Nat.le_of_ble_eq_true rfl, Nat.le_of_ble_eq_true rfl⟩ ⟨Nat.le_of_ble_eq_true rfl, Nat.le_of_ble_eq_true rfl⟩ ?_
      refine lv_goto (tgt := 19) hx hb dX4_stick_14 (by decide) ?_
      exact W.iret (v := wK y 15 (tellN (S k)) (-102)) hx hb hr (fun t9 ht9 hW9 => ⟨_, rfl, (by rw [aStick, wK_k hk (by omega)]), ht9⟩) (fun q h => by cases h) dX4_stick_19
