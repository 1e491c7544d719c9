set_option maxHeartbeats 4000000 in
set_option maxRecDepth 100000 in
theorem c_X3_at (l : Launch) (G : Gam) (σ : St) (n : Nat) (S : Nat → Sk) (q : Nat) (V : Nat → Nat) (ch : Int32) (hg : GH σ 0 n S q V ch) (x y : Int32) : Met l yX3_at (w1 yX3_at cX3_at 3 (some .int)) ({ frames := 2, cells := 0, slots := 0, locals := 45 }) (PcX G σ [.ref (ga G 0), .int x, .int y]) (vp_Si (fun r => r = aAt n S x y)) 0 0 (fun _ => False) := by
  have hn6 := hg.1.2
  have hq8 := hg.2.2.1.2
  rcases hasB_c x (n := n) (by omega) with hx0 | ⟨k, hk, rfl⟩
  · skip
    refine met_of [.ref (ga G 0), .int x, .int y] [(0, .ref (ga G 0)), (1, .int x), (2, .int y)] (by decide) (Nat.le_of_ble_eq_true rfl) rfl ?_
    intro p e s m below meth c hx hb hr hown hml hlocks hW ls hl
    have hG : GW s := hW.2.2.2.1
    refine lv_aload_n hx hb dX3_at_0 rfl (lv_at hl 0 rfl) ?_
    refine rd_X3_19 hx hb hown hW dX3_at_1 ?_
    refine lv_iload_n hx hb dX3_at_4 rfl (lv_at hl 1 rfl) ?_
    refine cr_i (q := 337) [.int x] hx hb hml hown hG v_X0_has (by decide +kernel) (c_X0_has l G σ 0 (by omega) n S q V ch hg (x)) (preH hW (show 0 < 2 by omega) _) rfl hl.1 (Nat.le_of_ble_eq_true rfl) dX3_at_5 ⟨rfl, rfl, Nat.le_of_ble_eq_true rfl, Nat.le_of_ble_eq_true rfl⟩ ⟨Nat.le_of_ble_eq_true rfl, Nat.le_of_ble_eq_true rfl⟩ ?_
    refine lv_eqi (y := 0) (by rw [hx0]; rfl) ?_
    refine lv_if_ne (tgt := 14) hx hb dX3_at_8 (by decide) (fun c_8 => ?_) (fun c_8 => ?_)
    · skip
      exact absurd (by decide) c_8
    · skip
      refine lv_bipush (v := (-101)) hx hb dX3_at_11 (by decide) ?_
      exact W.iret (v := (-101)) hx hb hr (fun t9 ht9 hW9 => ⟨_, rfl, (wK_f hx0).symm, ht9⟩) (fun q h => by cases h) dX3_at_13
  · skip
    rcases hasB_c y (n := 31) (by omega) with hy0 | ⟨t, ht, rfl⟩
    · skip
      refine met_of [.ref (ga G 0), .int (nI k), .int y] [(0, .ref (ga G 0)), (1, .int (nI k)), (2, .int y)] (by decide) (Nat.le_of_ble_eq_true rfl) rfl ?_
      intro p e s m below meth c hx hb hr hown hml hlocks hW ls hl
      have hG : GW s := hW.2.2.2.1
      refine lv_aload_n hx hb dX3_at_0 rfl (lv_at hl 0 rfl) ?_
      refine rd_X3_19 hx hb hown hW dX3_at_1 ?_
      refine lv_iload_n hx hb dX3_at_4 rfl (lv_at hl 1 rfl) ?_
      refine cr_i (q := 337) [.int (nI k)] hx hb hml hown hG v_X0_has (by decide +kernel) (c_X0_has l G σ 0 (by omega) n S q V ch hg (nI k)) (preH hW (show 0 < 2 by omega) _) rfl hl.1 (Nat.le_of_ble_eq_true rfl) dX3_at_5 ⟨rfl, rfl, Nat.le_of_ble_eq_true rfl, Nat.le_of_ble_eq_true rfl⟩ ⟨Nat.le_of_ble_eq_true rfl, Nat.le_of_ble_eq_true rfl⟩ ?_
      refine lv_eqi (y := 1) (by rw [hasB_k hk (by omega)]; rfl) ?_
      refine lv_if_ne (tgt := 14) hx hb dX3_at_8 (by decide) (fun c_8 => ?_) (fun c_8 => ?_)
      · skip
        refine lv_iload_n hx hb dX3_at_14 rfl (lv_at hl 2 rfl) ?_
        refine cs_i (q := 366) [.int y] hx hb hml hown hG v_X3_isHour (by decide +kernel) (c_X3_isHour l (y)) (preT _) rfl hl.1 (Nat.le_of_ble_eq_true rfl) dX3_at_15 ⟨rfl, rfl, Nat.le_of_ble_eq_true rfl, Nat.le_of_ble_eq_true rfl⟩ ⟨Nat.le_of_ble_eq_true rfl, Nat.le_of_ble_eq_true rfl⟩ ?_
        refine lv_eqi (y := 0) (by rw [hB30, hy0]; rfl) ?_
        refine lv_if_eq (tgt := 33) hx hb dX3_at_18 (by decide) (fun c_18 => ?_) (fun c_18 => ?_)
        · skip
          refine lv_bipush (v := (-102)) hx hb dX3_at_33 (by decide) ?_
          exact W.iret (v := (-102)) hx hb hr (fun t9 ht9 hW9 => ⟨_, rfl, (by rw [aAt, wK_k hk (by omega), wK_f hy0]), ht9⟩) (fun q h => by cases h) dX3_at_35
        · skip
          exact absurd (by decide) c_18
      · skip
        exact absurd c_8 (by decide)
    · skip
      refine met_of [.ref (ga G 0), .int (nI k), .int (nI t)] [(0, .ref (ga G 0)), (1, .int (nI k)), (2, .int (nI t))] (by decide) (Nat.le_of_ble_eq_true rfl) rfl ?_
      intro p e s m below meth c hx hb hr hown hml hlocks hW ls hl
      have hG : GW s := hW.2.2.2.1
      refine lv_aload_n hx hb dX3_at_0 rfl (lv_at hl 0 rfl) ?_
      refine rd_X3_19 hx hb hown hW dX3_at_1 ?_
      refine lv_iload_n hx hb dX3_at_4 rfl (lv_at hl 1 rfl) ?_
      refine cr_i (q := 337) [.int (nI k)] hx hb hml hown hG v_X0_has (by decide +kernel) (c_X0_has l G σ 0 (by omega) n S q V ch hg (nI k)) (preH hW (show 0 < 2 by omega) _) rfl hl.1 (Nat.le_of_ble_eq_true rfl) dX3_at_5 ⟨rfl, rfl, Nat.le_of_ble_eq_true rfl, Nat.le_of_ble_eq_true rfl⟩ ⟨Nat.le_of_ble_eq_true rfl, Nat.le_of_ble_eq_true rfl⟩ ?_
      refine lv_eqi (y := 1) (by rw [hasB_k hk (by omega)]; rfl) ?_
      refine lv_if_ne (tgt := 14) hx hb dX3_at_8 (by decide) (fun c_8 => ?_) (fun c_8 => ?_)
      · skip
        refine lv_iload_n hx hb dX3_at_14 rfl (lv_at hl 2 rfl) ?_
        refine cs_i (q := 366) [.int (nI t)] hx hb hml hown hG v_X3_isHour (by decide +kernel) (c_X3_isHour l (nI t)) (preT _) rfl hl.1 (Nat.le_of_ble_eq_true rfl) dX3_at_15 ⟨rfl, rfl, Nat.le_of_ble_eq_true rfl, Nat.le_of_ble_eq_true rfl⟩ ⟨Nat.le_of_ble_eq_true rfl, Nat.le_of_ble_eq_true rfl⟩ ?_
        refine lv_eqi (y := 1) (by rw [hB30, hasB_k ht (by omega)]; rfl) ?_
        refine lv_if_eq (tgt := 33) hx hb dX3_at_18 (by decide) (fun c_18 => ?_) (fun c_18 => ?_)
        · skip
          exact absurd c_18 (by decide)
        · skip
          refine lv_aload_n hx hb dX3_at_21 rfl (lv_at hl 0 rfl) ?_
          refine rd_X3_19 hx hb hown hW dX3_at_22 ?_
          refine lv_iload_n hx hb dX3_at_25 rfl (lv_at hl 1 rfl) ?_
          refine lv_iload_n hx hb dX3_at_26 rfl (lv_at hl 2 rfl) ?_
          refine cr_i (q := 369) [.int (nI k), .int (nI t)] hx hb hml hown hG v_X0_placeAt (by decide +kernel) (c_X0_placeAt l G σ 0 (by omega) n S q V ch hg k t hk (by omega)) (preH hW (show 0 < 2 by omega) _) rfl hl.1 (Nat.le_of_ble_eq_true rfl) dX3_at_27 ⟨rfl, rfl, Nat.le_of_ble_eq_true rfl, Nat.le_of_ble_eq_true rfl⟩ ⟨Nat.le_of_ble_eq_true rfl, Nat.le_of_ble_eq_true rfl⟩ ?_
          refine lv_goto (tgt := 35) hx hb dX3_at_30 (by decide) ?_
          exact W.iret (v := nI (posN (S k) (t - S k 2))) hx hb hr (fun t9 ht9 hW9 => ⟨_, rfl, (by rw [aAt, wK_k hk (by omega), wK_k ht (by omega)]), ht9⟩) (fun q h => by cases h) dX3_at_35
      · skip
        exact absurd c_8 (by decide)
set_option maxHeartbeats 4000000 in
set_option maxRecDepth 100000 in
theorem c_X3_meet (l : Launch) (G : Gam) (σ : St) (n : Nat) (S : Nat → Sk) (q : Nat) (V : Nat → Nat) (ch : Int32) (hg : GH σ 0 n S q V ch) (x y : Int32) : Met l yX3_meet (w1 yX3_meet cX3_meet 3 (some .int)) ({ frames := 2, cells := 0, slots := 0, locals := 49 }) (PcX G σ [.ref (ga G 0), .int x, .int y]) (vp_Si (fun r => r = aMeet n S x y)) 0 0 (fun _ => False) := by
  have hn6 := hg.1.2
  have hq8 := hg.2.2.1.2
  rcases hasB_c x (n := n) (by omega) with hx0 | ⟨k, hk, rfl⟩
  · skip
    refine met_of [.ref (ga G 0), .int x, .int y] [(0, .ref (ga G 0)), (1, .int x), (2, .int y)] (by decide) (Nat.le_of_ble_eq_true rfl) rfl ?_
    intro p e s m below meth c hx hb hr hown hml hlocks hW ls hl
    have hG : GW s := hW.2.2.2.1
    refine lv_aload_n hx hb dX3_meet_0 rfl (lv_at hl 0 rfl) ?_
    refine rd_X3_19 hx hb hown hW dX3_meet_1 ?_
    refine lv_iload_n hx hb dX3_meet_4 rfl (lv_at hl 1 rfl) ?_
    refine lv_iload_n hx hb dX3_meet_5 rfl (lv_at hl 2 rfl) ?_
    refine cr_i (q := 381) [.int x, .int y] hx hb hml hown hG v_X0_hasBoth (by decide +kernel) (c_X0_hasBoth l G σ 0 (by omega) n S q V ch hg (x) (y)) (preH hW (show 0 < 2 by omega) _) rfl hl.1 (Nat.le_of_ble_eq_true rfl) dX3_meet_6 ⟨rfl, rfl, Nat.le_of_ble_eq_true rfl, Nat.le_of_ble_eq_true rfl⟩ ⟨Nat.le_of_ble_eq_true rfl, Nat.le_of_ble_eq_true rfl⟩ ?_
    refine lv_eqi (y := 0) (by rw [hx0]; rfl) ?_
    refine lv_if_ne (tgt := 15) hx hb dX3_meet_9 (by decide) (fun c_9 => ?_) (fun c_9 => ?_)
    · skip
      exact absurd (by decide) c_9
    · skip
      refine lv_bipush (v := (-101)) hx hb dX3_meet_12 (by decide) ?_
      exact W.iret (v := (-101)) hx hb hr (fun t9 ht9 hW9 => ⟨_, rfl, (by rw [aMeet, w2_f1 hx0]), ht9⟩) (fun q h => by cases h) dX3_meet_14
  · skip
    rcases hasB_c y (n := n) (by omega) with hy0 | ⟨t, ht, rfl⟩
    · skip
      refine met_of [.ref (ga G 0), .int (nI k), .int y] [(0, .ref (ga G 0)), (1, .int (nI k)), (2, .int y)] (by decide) (Nat.le_of_ble_eq_true rfl) rfl ?_
      intro p e s m below meth c hx hb hr hown hml hlocks hW ls hl
      have hG : GW s := hW.2.2.2.1
      refine lv_aload_n hx hb dX3_meet_0 rfl (lv_at hl 0 rfl) ?_
      refine rd_X3_19 hx hb hown hW dX3_meet_1 ?_
      refine lv_iload_n hx hb dX3_meet_4 rfl (lv_at hl 1 rfl) ?_
      refine lv_iload_n hx hb dX3_meet_5 rfl (lv_at hl 2 rfl) ?_
      refine cr_i (q := 381) [.int (nI k), .int y] hx hb hml hown hG v_X0_hasBoth (by decide +kernel) (c_X0_hasBoth l G σ 0 (by omega) n S q V ch hg (nI k) (y)) (preH hW (show 0 < 2 by omega) _) rfl hl.1 (Nat.le_of_ble_eq_true rfl) dX3_meet_6 ⟨rfl, rfl, Nat.le_of_ble_eq_true rfl, Nat.le_of_ble_eq_true rfl⟩ ⟨Nat.le_of_ble_eq_true rfl, Nat.le_of_ble_eq_true rfl⟩ ?_
      refine lv_eqi (y := 0) (by rw [hy0, hasB_k hk (by omega)]; rfl) ?_
      refine lv_if_ne (tgt := 15) hx hb dX3_meet_9 (by decide) (fun c_9 => ?_) (fun c_9 => ?_)
      · skip
        exact absurd (by decide) c_9
      · skip
        refine lv_bipush (v := (-101)) hx hb dX3_meet_12 (by decide) ?_
        exact W.iret (v := (-101)) hx hb hr (fun t9 ht9 hW9 => ⟨_, rfl, (by rw [aMeet, w2_f2 hk (by omega) hy0]), ht9⟩) (fun q h => by cases h) dX3_meet_14
    · skip
      by_cases hkt : k = t
      · skip
        refine met_of [.ref (ga G 0), .int (nI k), .int (nI t)] [(0, .ref (ga G 0)), (1, .int (nI k)), (2, .int (nI t))] (by decide) (Nat.le_of_ble_eq_true rfl) rfl ?_
        intro p e s m below meth c hx hb hr hown hml hlocks hW ls hl
        have hG : GW s := hW.2.2.2.1
        refine lv_aload_n hx hb dX3_meet_0 rfl (lv_at hl 0 rfl) ?_
        refine rd_X3_19 hx hb hown hW dX3_meet_1 ?_
        refine lv_iload_n hx hb dX3_meet_4 rfl (lv_at hl 1 rfl) ?_
        refine lv_iload_n hx hb dX3_meet_5 rfl (lv_at hl 2 rfl) ?_
        refine cr_i (q := 381) [.int (nI k), .int (nI t)] hx hb hml hown hG v_X0_hasBoth (by decide +kernel) (c_X0_hasBoth l G σ 0 (by omega) n S q V ch hg (nI k) (nI t)) (preH hW (show 0 < 2 by omega) _) rfl hl.1 (Nat.le_of_ble_eq_true rfl) dX3_meet_6 ⟨rfl, rfl, Nat.le_of_ble_eq_true rfl, Nat.le_of_ble_eq_true rfl⟩ ⟨Nat.le_of_ble_eq_true rfl, Nat.le_of_ble_eq_true rfl⟩ ?_
        refine lv_eqi (y := 0) (by subst hkt; simp [bI]) ?_
        refine lv_if_ne (tgt := 15) hx hb dX3_meet_9 (by decide) (fun c_9 => ?_) (fun c_9 => ?_)
        · skip
          exact absurd (by decide) c_9
        · skip
          refine lv_bipush (v := (-101)) hx hb dX3_meet_12 (by decide) ?_
          exact W.iret (v := (-101)) hx hb hr (fun t9 ht9 hW9 => ⟨_, rfl, (by subst hkt; rw [aMeet, w2_e hk (by omega)]), ht9⟩) (fun q h => by cases h) dX3_meet_14
      · skip
        refine met_of [.ref (ga G 0), .int (nI k), .int (nI t)] [(0, .ref (ga G 0)), (1, .int (nI k)), (2, .int (nI t))] (by decide) (Nat.le_of_ble_eq_true rfl) rfl ?_
        intro p e s m below meth c hx hb hr hown hml hlocks hW ls hl
        have hG : GW s := hW.2.2.2.1
        refine lv_aload_n hx hb dX3_meet_0 rfl (lv_at hl 0 rfl) ?_
        refine rd_X3_19 hx hb hown hW dX3_meet_1 ?_
        refine lv_iload_n hx hb dX3_meet_4 rfl (lv_at hl 1 rfl) ?_
        refine lv_iload_n hx hb dX3_meet_5 rfl (lv_at hl 2 rfl) ?_
        refine cr_i (q := 381) [.int (nI k), .int (nI t)] hx hb hml hown hG v_X0_hasBoth (by decide +kernel) (c_X0_hasBoth l G σ 0 (by omega) n S q V ch hg (nI k) (nI t)) (preH hW (show 0 < 2 by omega) _) rfl hl.1 (Nat.le_of_ble_eq_true rfl) dX3_meet_6 ⟨rfl, rfl, Nat.le_of_ble_eq_true rfl, Nat.le_of_ble_eq_true rfl⟩ ⟨Nat.le_of_ble_eq_true rfl, Nat.le_of_ble_eq_true rfl⟩ ?_
        refine lv_eqi (y := 1) (by rw [hasB_k hk (by omega), hasB_k ht (by omega), decide_eq_true (show ¬ nI k = nI t from fun z => hkt ((nI_eq (by omega) (by omega)).mp z))]; rfl) ?_
        refine lv_if_ne (tgt := 15) hx hb dX3_meet_9 (by decide) (fun c_9 => ?_) (fun c_9 => ?_)
        · skip
          refine lv_aload_n hx hb dX3_meet_15 rfl (lv_at hl 0 rfl) ?_
          refine rd_X3_19 hx hb hown hW dX3_meet_16 ?_
          refine lv_iload_n hx hb dX3_meet_19 rfl (lv_at hl 1 rfl) ?_
          refine lv_aload_n hx hb dX3_meet_20 rfl (lv_at hl 0 rfl) ?_
          refine rd_X3_19 hx hb hown hW dX3_meet_21 ?_
          refine rd_X3_83 hx hb hown hW (show 0 < 2 by omega) dX3_meet_24 ?_
          refine lv_iload_n hx hb dX3_meet_27 rfl (lv_at hl 1 rfl) ?_
          refine al_lateBy (k := k) hx hb hW (show 0 < 2 by omega) rfl (by omega) dX3_meet_28 ?_
          refine lv_eqi (y := nI (S k 2)) (hg.2.2.2.1 k (by omega)).2.2.2.1 ?_
          refine lv_iload_n hx hb dX3_meet_29 rfl (lv_at hl 2 rfl) ?_
          refine lv_aload_n hx hb dX3_meet_30 rfl (lv_at hl 0 rfl) ?_
          refine rd_X3_19 hx hb hown hW dX3_meet_31 ?_
          refine rd_X3_83 hx hb hown hW (show 0 < 2 by omega) dX3_meet_34 ?_
          refine lv_iload_n hx hb dX3_meet_37 rfl (lv_at hl 2 rfl) ?_
          refine al_lateBy (k := t) hx hb hW (show 0 < 2 by omega) rfl (by omega) dX3_meet_38 ?_
          refine lv_eqi (y := nI (S t 2)) (hg.2.2.2.1 t (by omega)).2.2.2.1 ?_
          refine cr_i (q := 386) [.int (nI k), .int (nI (S k 2)), .int (nI t), .int (nI (S t 2))] hx hb hml hown hG v_X0_hoursTogether (by decide +kernel) (c_X0_hoursTogether l G σ 0 (by omega) n S q V ch hg k (S k 2) t (S t 2) hk ht (hg.2.2.2.1 k hk).2.2.2.2 (hg.2.2.2.1 t ht).2.2.2.2) (preH hW (show 0 < 2 by omega) _) rfl hl.1 (Nat.le_of_ble_eq_true rfl) dX3_meet_39 ⟨rfl, rfl, Nat.le_of_ble_eq_true rfl, Nat.le_of_ble_eq_true rfl⟩ ⟨Nat.le_of_ble_eq_true rfl, Nat.le_of_ble_eq_true rfl⟩ ?_
          exact W.iret (v := nI (meL S (fun i => S i 2) k t)) hx hb hr (fun t9 ht9 hW9 => ⟨_, rfl, (by rw [aMeet, w2_k hk ht (by omega) hkt]), ht9⟩) (fun q h => by cases h) dX3_meet_42
        · skip
          exact absurd c_9 (by decide)
theorem lt_y {M : Nat → Nat} {h : Nat} {r : Int32} (H : ltF M (10 - h) h = r) (hh : h ≤ 9) (q : 0 < M h) : nI h = r := by
  obtain ⟨k, hk⟩ : ∃ k, 10 - h = k + 1 := ⟨9 - h, by omega⟩
  rw [hk, ltF, if_pos q] at H; exact H
theorem lt_n {M : Nat → Nat} {h : Nat} {r : Int32} (H : ltF M (10 - h) h = r) (hh : h ≤ 9) (q : M h ≤ 0) : ltF M (10 - (h + 1)) (h + 1) = r := by
  obtain ⟨k, hk⟩ : ∃ k, 10 - h = k + 1 := ⟨9 - h, by omega⟩
  rw [hk, ltF, if_neg (by omega)] at H
  rw [show 10 - (h + 1) = k by omega]; exact H
theorem meetN_le {f g : Nat → Nat} : ∀ t, meetN f g t ≤ t := by
  intro t
  induction t with
  | zero => exact Nat.le_refl _
  | succ t ih => unfold meetN; split <;> omega
set_option maxHeartbeats 4000000 in
set_option maxRecDepth 100000 in
theorem c_X3_later (l : Launch) (G : Gam) (σ : St) (n : Nat) (S : Nat → Sk) (q : Nat) (V : Nat → Nat) (ch : Int32) (hg : GH σ 0 n S q V ch) (x y : Int32) : Met l yX3_later (w1 yX3_later cX3_later 4 (some .int)) ({ frames := 2, cells := 0, slots := 0, locals := 49 }) (PcX G σ [.ref (ga G 0), .int x, .int y]) (vp_Si (fun r => r = aLater n S x y)) 0 0 (fun _ => False) := by
  have hn6 := hg.1.2
  have hq8 := hg.2.2.1.2
  rcases hasB_c x (n := n) (by omega) with hx0 | ⟨k, hk, rfl⟩
  · skip
    refine met_of [.ref (ga G 0), .int x, .int y] [(0, .ref (ga G 0)), (1, .int x), (2, .int y)] (by decide) (Nat.le_of_ble_eq_true rfl) rfl ?_
    intro p e s m below meth c hx hb hr hown hml hlocks hW ls hl
    have hG : GW s := hW.2.2.2.1
    refine lv_aload_n hx hb dX3_later_0 rfl (lv_at hl 0 rfl) ?_
    refine rd_X3_19 hx hb hown hW dX3_later_1 ?_
    refine lv_iload_n hx hb dX3_later_4 rfl (lv_at hl 1 rfl) ?_
    refine lv_iload_n hx hb dX3_later_5 rfl (lv_at hl 2 rfl) ?_
    refine cr_i (q := 381) [.int x, .int y] hx hb hml hown hG v_X0_hasBoth (by decide +kernel) (c_X0_hasBoth l G σ 0 (by omega) n S q V ch hg (x) (y)) (preH hW (show 0 < 2 by omega) _) rfl hl.1 (Nat.le_of_ble_eq_true rfl) dX3_later_6 ⟨rfl, rfl, Nat.le_of_ble_eq_true rfl, Nat.le_of_ble_eq_true rfl⟩ ⟨Nat.le_of_ble_eq_true rfl, Nat.le_of_ble_eq_true rfl⟩ ?_
    refine lv_eqi (y := 0) (by rw [hx0]; rfl) ?_
    refine lv_if_ne (tgt := 15) hx hb dX3_later_9 (by decide) (fun c_9 => ?_) (fun c_9 => ?_)
    · skip
      exact absurd (by decide) c_9
    · skip
      refine lv_bipush (v := (-101)) hx hb dX3_later_12 (by decide) ?_
      exact W.iret (v := (-101)) hx hb hr (fun t9 ht9 hW9 => ⟨_, rfl, (by rw [aLater, w2_f1 hx0]), ht9⟩) (fun q h => by cases h) dX3_later_14
  · skip
    rcases hasB_c y (n := n) (by omega) with hy0 | ⟨t, ht, rfl⟩
    · skip
      refine met_of [.ref (ga G 0), .int (nI k), .int y] [(0, .ref (ga G 0)), (1, .int (nI k)), (2, .int y)] (by decide) (Nat.le_of_ble_eq_true rfl) rfl ?_
      intro p e s m below meth c hx hb hr hown hml hlocks hW ls hl
      have hG : GW s := hW.2.2.2.1
      refine lv_aload_n hx hb dX3_later_0 rfl (lv_at hl 0 rfl) ?_
      refine rd_X3_19 hx hb hown hW dX3_later_1 ?_
      refine lv_iload_n hx hb dX3_later_4 rfl (lv_at hl 1 rfl) ?_
      refine lv_iload_n hx hb dX3_later_5 rfl (lv_at hl 2 rfl) ?_
      refine cr_i (q := 381) [.int (nI k), .int y] hx hb hml hown hG v_X0_hasBoth (by decide +kernel) (c_X0_hasBoth l G σ 0 (by omega) n S q V ch hg (nI k) (y)) (preH hW (show 0 < 2 by omega) _) rfl hl.1 (Nat.le_of_ble_eq_true rfl) dX3_later_6 ⟨rfl, rfl, Nat.le_of_ble_eq_true rfl, Nat.le_of_ble_eq_true rfl⟩ ⟨Nat.le_of_ble_eq_true rfl, Nat.le_of_ble_eq_true rfl⟩ ?_
      refine lv_eqi (y := 0) (by rw [hy0, hasB_k hk (by omega)]; rfl) ?_
      refine lv_if_ne (tgt := 15) hx hb dX3_later_9 (by decide) (fun c_9 => ?_) (fun c_9 => ?_)
      · skip
        exact absurd (by decide) c_9
      · skip
        refine lv_bipush (v := (-101)) hx hb dX3_later_12 (by decide) ?_
        exact W.iret (v := (-101)) hx hb hr (fun t9 ht9 hW9 => ⟨_, rfl, (by rw [aLater, w2_f2 hk (by omega) hy0]), ht9⟩) (fun q h => by cases h) dX3_later_14
    · skip
      by_cases hkt : k = t
      · skip
        refine met_of [.ref (ga G 0), .int (nI k), .int (nI t)] [(0, .ref (ga G 0)), (1, .int (nI k)), (2, .int (nI t))] (by decide) (Nat.le_of_ble_eq_true rfl) rfl ?_
        intro p e s m below meth c hx hb hr hown hml hlocks hW ls hl
        have hG : GW s := hW.2.2.2.1
        refine lv_aload_n hx hb dX3_later_0 rfl (lv_at hl 0 rfl) ?_
        refine rd_X3_19 hx hb hown hW dX3_later_1 ?_
        refine lv_iload_n hx hb dX3_later_4 rfl (lv_at hl 1 rfl) ?_
        refine lv_iload_n hx hb dX3_later_5 rfl (lv_at hl 2 rfl) ?_
        refine cr_i (q := 381) [.int (nI k), .int (nI t)] hx hb hml hown hG v_X0_hasBoth (by decide +kernel) (c_X0_hasBoth l G σ 0 (by omega) n S q V ch hg (nI k) (nI t)) (preH hW (show 0 < 2 by omega) _) rfl hl.1 (Nat.le_of_ble_eq_true rfl) dX3_later_6 ⟨rfl, rfl, Nat.le_of_ble_eq_true rfl, Nat.le_of_ble_eq_true rfl⟩ ⟨Nat.le_of_ble_eq_true rfl, Nat.le_of_ble_eq_true rfl⟩ ?_
        refine lv_eqi (y := 0) (by subst hkt; simp [bI]) ?_
        refine lv_if_ne (tgt := 15) hx hb dX3_later_9 (by decide) (fun c_9 => ?_) (fun c_9 => ?_)
        · skip
          exact absurd (by decide) c_9
        · skip
          refine lv_bipush (v := (-101)) hx hb dX3_later_12 (by decide) ?_
          exact W.iret (v := (-101)) hx hb hr (fun t9 ht9 hW9 => ⟨_, rfl, (by subst hkt; rw [aLater, w2_e hk (by omega)]), ht9⟩) (fun q h => by cases h) dX3_later_14
      · skip
        refine met_of [.ref (ga G 0), .int (nI k), .int (nI t)] [(0, .ref (ga G 0)), (1, .int (nI k)), (2, .int (nI t))] (by decide) (Nat.le_of_ble_eq_true rfl) rfl ?_
        intro p e s m below meth c hx hb hr hown hml hlocks hW ls hl
        have hG : GW s := hW.2.2.2.1
        refine lv_aload_n hx hb dX3_later_0 rfl (lv_at hl 0 rfl) ?_
        refine rd_X3_19 hx hb hown hW dX3_later_1 ?_
        refine lv_iload_n hx hb dX3_later_4 rfl (lv_at hl 1 rfl) ?_
        refine lv_iload_n hx hb dX3_later_5 rfl (lv_at hl 2 rfl) ?_
        refine cr_i (q := 381) [.int (nI k), .int (nI t)] hx hb hml hown hG v_X0_hasBoth (by decide +kernel) (c_X0_hasBoth l G σ 0 (by omega) n S q V ch hg (nI k) (nI t)) (preH hW (show 0 < 2 by omega) _) rfl hl.1 (Nat.le_of_ble_eq_true rfl) dX3_later_6 ⟨rfl, rfl, Nat.le_of_ble_eq_true rfl, Nat.le_of_ble_eq_true rfl⟩ ⟨Nat.le_of_ble_eq_true rfl, Nat.le_of_ble_eq_true rfl⟩ ?_
        refine lv_eqi (y := 1) (by rw [hasB_k hk (by omega), hasB_k ht (by omega), decide_eq_true (show ¬ nI k = nI t from fun z => hkt ((nI_eq (by omega) (by omega)).mp z))]; rfl) ?_
        refine lv_if_ne (tgt := 15) hx hb dX3_later_9 (by decide) (fun c_9 => ?_) (fun c_9 => ?_)
        · skip
          refine lv_iconst (v := 0) hx hb dX3_later_15 (by decide) ?_
          refine lv_istore_n (lv' := [(3, .int 0), (0, .ref (ga G 0)), (1, .int (nI k)), (2, .int (nI t))]) hx hb dX3_later_16 rfl hl (by decide) rfl (fun ls hl => ?_)
          have loop_17 : ∀ (N9 : Nat) (v : Nat) (vo : Int32), 10 - v < N9 → vo = nI v → v ≤ 10 → ltF (laM S k t) (10 - v) v = aLater n S (nI k) (nI t) → ∀ ls : Array Slot, lv_has ls 4 [(3, .int vo), (0, .ref (ga G 0)), (1, .int (nI k)), (2, .int (nI t))] → W p l e (headSpec (w1 yX3_later cX3_later 4 (some .int)) ({ frames := 2, cells := 0, slots := 0, locals := 49 })).room s m [.ref (ga G 0), .int (nI k), .int (nI t)].toArray below meth c s.heap [] 0 0 (MQ below (vp_Si (fun r => r = aLater n S (nI k) (nI t))) [.ref (ga G 0), .int (nI k), .int (nI t)].toArray s 0 0 (fun _ => False)) (F0 m 17 ls []) := by
            intro N9
            induction N9 with
            | zero => intro v vo hN; exact absurd hN (Nat.not_lt_zero _)
            | succ N9 ih =>
              intro v vo hN e_vo hi0_17 hi1_17 ls hl
              subst e_vo
              have ih_17 := ih
              have hlm9 : laM S k t v ≤ 31 := meetN_le 31
              refine lv_iload_n hx hb dX3_later_17 rfl (lv_at hl 0 rfl) ?_
              refine lv_bipush (v := 9) hx hb dX3_later_18 (by decide) ?_
              refine lv_icmp_gt (tgt := 53) hx hb dX3_later_20 (by decide) (fun c_20 => ?_) (fun c_20 => ?_)
              · skip
                have q_20 := tN_lt 9 v c_20 rfl rfl (by omega) (by omega)
                refine lv_iconst (v := (-1)) hx hb dX3_later_53 (by decide) ?_
                exact W.iret (v := (-1)) hx hb hr (fun t9 ht9 hW9 => ⟨_, rfl, (by have h9 : v = 10 := (by omega); subst h9; exact hi1_17), ht9⟩) (fun q h => by cases h) dX3_later_54
              · skip
                have q_20 := tN_nlt 9 v c_20 rfl rfl (by omega) (by omega)
                refine lv_aload_n hx hb dX3_later_23 rfl (lv_at hl 1 rfl) ?_
                refine rd_X3_19 hx hb hown hW dX3_later_24 ?_
                refine lv_iload_n hx hb dX3_later_27 rfl (lv_at hl 2 rfl) ?_
                refine lv_aload_n hx hb dX3_later_28 rfl (lv_at hl 1 rfl) ?_
                refine rd_X3_19 hx hb hown hW dX3_later_29 ?_
                refine rd_X3_83 hx hb hown hW (show 0 < 2 by omega) dX3_later_32 ?_
                refine lv_iload_n hx hb dX3_later_35 rfl (lv_at hl 2 rfl) ?_
                refine al_lateBy (k := k) hx hb hW (show 0 < 2 by omega) rfl (by omega) dX3_later_36 ?_
                refine lv_eqi (y := nI (S k 2)) (hg.2.2.2.1 k (by omega)).2.2.2.1 ?_
                refine lv_iload_n hx hb dX3_later_37 rfl (lv_at hl 3 rfl) ?_
                refine lv_iload_n hx hb dX3_later_38 rfl (lv_at hl 0 rfl) ?_
                refine cr_i (q := 386) [.int (nI k), .int (nI (S k 2)), .int (nI t), .int (nI v)] hx hb hml hown hG v_X0_hoursTogether (by decide +kernel) (c_X0_hoursTogether l G σ 0 (by omega) n S q V ch hg k (S k 2) t v hk ht (hg.2.2.2.1 k hk).2.2.2.2 (by omega)) (preH hW (show 0 < 2 by omega) _) rfl hl.1 (Nat.le_of_ble_eq_true rfl) dX3_later_39 ⟨rfl, rfl, Nat.le_of_ble_eq_true rfl, Nat.le_of_ble_eq_true rfl⟩ ⟨Nat.le_of_ble_eq_true rfl, Nat.le_of_ble_eq_true rfl⟩ ?_
                refine lv_if_le (tgt := 47) hx hb dX3_later_42 (by decide) (fun c_42 => ?_) (fun c_42 => ?_)
                · skip
                  have q_42 := tN_le (laM S k t v) 0 c_42 rfl rfl (by omega) (by omega)
                  refine lv_iinc (v := nI (v + 1)) (lv' := [(3, .int (nI (v + 1))), (0, .ref (ga G 0)), (1, .int (nI k)), (2, .int (nI t))]) hx hb dX3_later_47 hl (k := 0) rfl (inc1 v) (by decide) rfl (fun ls hl => ?_)
                  refine lv_goto (tgt := 17) hx hb dX3_later_50 (by decide) ?_
                  exact ih_17 (v + 1) _ (by omega) rfl (by omega) (lt_n hi1_17 (by omega) q_42) ls (lv_sub hl [0, 1, 2, 3] rfl)
                · skip
                  have q_42 := tN_nle (laM S k t v) 0 c_42 rfl rfl (by omega) (by omega)
                  refine lv_iload_n hx hb dX3_later_45 rfl (lv_at hl 0 rfl) ?_
                  exact W.iret (v := nI v) hx hb hr (fun t9 ht9 hW9 => ⟨_, rfl, (lt_y hi1_17 (by omega) q_42), ht9⟩) (fun q h => by cases h) dX3_later_46
          exact loop_17 _ 0 _ (Nat.lt_succ_self _) rfl (by omega) (by rw [aLater, w2_k hk ht (by omega) hkt]) ls (lv_sub hl [0, 1, 2, 3] rfl)
        · skip
          exact absurd c_9 (by decide)
set_option maxHeartbeats 4000000 in
set_option maxRecDepth 100000 in
theorem c_X3_catches (l : Launch) (G : Gam) (σ : St) (n : Nat) (S : Nat → Sk) (q : Nat) (V : Nat → Nat) (ch : Int32) (hg : GH σ 0 n S q V ch) (x y : Int32) : Met l yX3_catches (w1 yX3_catches cX3_catches 3 (some .int)) ({ frames := 3, cells := 0, slots := 0, locals := 68 }) (PcX G σ [.ref (ga G 0), .int x, .int y]) (vp_Si (fun r => r = aCatch n S x y)) 0 0 (fun _ => False) := by
  have hn6 := hg.1.2
  have hq8 := hg.2.2.1.2
  rcases hasB_c y (n := n) (by omega) with hy0 | ⟨k, hk, rfl⟩
  · skip
    refine met_of [.ref (ga G 0), .int x, .int y] [(0, .ref (ga G 0)), (1, .int x), (2, .int y)] (by decide) (Nat.le_of_ble_eq_true rfl) rfl ?_
    intro p e s m below meth c hx hb hr hown hml hlocks hW ls hl
    have hG : GW s := hW.2.2.2.1
    refine lv_aload_n hx hb dX3_catches_0 rfl (lv_at hl 0 rfl) ?_
    refine rd_X3_19 hx hb hown hW dX3_catches_1 ?_
    refine lv_iload_n hx hb dX3_catches_4 rfl (lv_at hl 2 rfl) ?_
    refine cr_i (q := 337) [.int y] hx hb hml hown hG v_X0_has (by decide +kernel) (c_X0_has l G σ 0 (by omega) n S q V ch hg (y)) (preH hW (show 0 < 2 by omega) _) rfl hl.1 (Nat.le_of_ble_eq_true rfl) dX3_catches_5 ⟨rfl, rfl, Nat.le_of_ble_eq_true rfl, Nat.le_of_ble_eq_true rfl⟩ ⟨Nat.le_of_ble_eq_true rfl, Nat.le_of_ble_eq_true rfl⟩ ?_
    refine lv_eqi (y := 0) (by rw [hy0]; rfl) ?_
    refine lv_if_ne (tgt := 14) hx hb dX3_catches_8 (by decide) (fun c_8 => ?_) (fun c_8 => ?_)
    · skip
      exact absurd (by decide) c_8
    · skip
      refine lv_bipush (v := (-101)) hx hb dX3_catches_11 (by decide) ?_
      exact W.iret (v := (-101)) hx hb hr (fun t9 ht9 hW9 => ⟨_, rfl, (wK_f hy0).symm, ht9⟩) (fun q h => by cases h) dX3_catches_13
  · skip
    rcases hasB_c x (n := 16) (by omega) with hx0 | ⟨t, ht, rfl⟩
    · skip
      refine met_of [.ref (ga G 0), .int x, .int (nI k)] [(0, .ref (ga G 0)), (1, .int x), (2, .int (nI k))] (by decide) (Nat.le_of_ble_eq_true rfl) rfl ?_
      intro p e s m below meth c hx hb hr hown hml hlocks hW ls hl
      have hG : GW s := hW.2.2.2.1
      refine lv_aload_n hx hb dX3_catches_0 rfl (lv_at hl 0 rfl) ?_
      refine rd_X3_19 hx hb hown hW dX3_catches_1 ?_
      refine lv_iload_n hx hb dX3_catches_4 rfl (lv_at hl 2 rfl) ?_
      refine cr_i (q := 337) [.int (nI k)] hx hb hml hown hG v_X0_has (by decide +kernel) (c_X0_has l G σ 0 (by omega) n S q V ch hg (nI k)) (preH hW (show 0 < 2 by omega) _) rfl hl.1 (Nat.le_of_ble_eq_true rfl) dX3_catches_5 ⟨rfl, rfl, Nat.le_of_ble_eq_true rfl, Nat.le_of_ble_eq_true rfl⟩ ⟨Nat.le_of_ble_eq_true rfl, Nat.le_of_ble_eq_true rfl⟩ ?_
      refine lv_eqi (y := 1) (by rw [hasB_k hk (by omega)]; rfl) ?_
      refine lv_if_ne (tgt := 14) hx hb dX3_catches_8 (by decide) (fun c_8 => ?_) (fun c_8 => ?_)
      · skip
        refine lv_iload_n hx hb dX3_catches_14 rfl (lv_at hl 1 rfl) ?_
        refine cs_i (q := 441) [.int x] hx hb hml hown hG v_X3_isPlace (by decide +kernel) (c_X3_isPlace l (x)) (preT _) rfl hl.1 (Nat.le_of_ble_eq_true rfl) dX3_catches_15 ⟨rfl, rfl, Nat.le_of_ble_eq_true rfl, Nat.le_of_ble_eq_true rfl⟩ ⟨Nat.le_of_ble_eq_true rfl, Nat.le_of_ble_eq_true rfl⟩ ?_
        refine lv_eqi (y := 0) (by rw [hB16, hx0]; rfl) ?_
        refine lv_if_eq (tgt := 33) hx hb dX3_catches_18 (by decide) (fun c_18 => ?_) (fun c_18 => ?_)
        · skip
          refine lv_bipush (v := (-102)) hx hb dX3_catches_33 (by decide) ?_
          exact W.iret (v := (-102)) hx hb hr (fun t9 ht9 hW9 => ⟨_, rfl, (by rw [aCatch, wK_k hk (by omega), wK_f hx0]), ht9⟩) (fun q h => by cases h) dX3_catches_35
        · skip
          exact absurd (by decide) c_18
      · skip
        exact absurd c_8 (by decide)
    · skip
      refine met_of [.ref (ga G 0), .int (nI t), .int (nI k)] [(0, .ref (ga G 0)), (1, .int (nI t)), (2, .int (nI k))] (by decide) (Nat.le_of_ble_eq_true rfl) rfl ?_
      intro p e s m below meth c hx hb hr hown hml hlocks hW ls hl
      have hG : GW s := hW.2.2.2.1
      refine lv_aload_n hx hb dX3_catches_0 rfl (lv_at hl 0 rfl) ?_
      refine rd_X3_19 hx hb hown hW dX3_catches_1 ?_
      refine lv_iload_n hx hb dX3_catches_4 rfl (lv_at hl 2 rfl) ?_
      refine cr_i (q := 337) [.int (nI k)] hx hb hml hown hG v_X0_has (by decide +kernel) (c_X0_has l G σ 0 (by omega) n S q V ch hg (nI k)) (preH hW (show 0 < 2 by omega) _) rfl hl.1 (Nat.le_of_ble_eq_true rfl) dX3_catches_5 ⟨rfl, rfl, Nat.le_of_ble_eq_true rfl, Nat.le_of_ble_eq_true rfl⟩ ⟨Nat.le_of_ble_eq_true rfl, Nat.le_of_ble_eq_true rfl⟩ ?_
      refine lv_eqi (y := 1) (by rw [hasB_k hk (by omega)]; rfl) ?_
      refine lv_if_ne (tgt := 14) hx hb dX3_catches_8 (by decide) (fun c_8 => ?_) (fun c_8 => ?_)
      · skip
        refine lv_iload_n hx hb dX3_catches_14 rfl (lv_at hl 1 rfl) ?_
        refine cs_i (q := 441) [.int (nI t)] hx hb hml hown hG v_X3_isPlace (by decide +kernel) (c_X3_isPlace l (nI t)) (preT _) rfl hl.1 (Nat.le_of_ble_eq_true rfl) dX3_catches_15 ⟨rfl, rfl, Nat.le_of_ble_eq_true rfl, Nat.le_of_ble_eq_true rfl⟩ ⟨Nat.le_of_ble_eq_true rfl, Nat.le_of_ble_eq_true rfl⟩ ?_
        refine lv_eqi (y := 1) (by rw [hB16, hasB_k ht (by omega)]; rfl) ?_
        refine lv_if_eq (tgt := 33) hx hb dX3_catches_18 (by decide) (fun c_18 => ?_) (fun c_18 => ?_)
        · skip
          exact absurd c_18 (by decide)
        · skip
          refine lv_aload_n hx hb dX3_catches_21 rfl (lv_at hl 0 rfl) ?_
          refine rd_X3_19 hx hb hown hW dX3_catches_22 ?_
          refine lv_iload_n hx hb dX3_catches_25 rfl (lv_at hl 1 rfl) ?_
          refine lv_iload_n hx hb dX3_catches_26 rfl (lv_at hl 2 rfl) ?_
          refine cr_i (q := 442) [.int (nI t), .int (nI k)] hx hb hml hown hG v_X0_firstCatch (by decide +kernel) (c_X0_firstCatch l G σ 0 (by omega) n S q V ch hg t k ht hk) (preH hW (show 0 < 2 by omega) _) rfl hl.1 (Nat.le_of_ble_eq_true rfl) dX3_catches_27 ⟨rfl, rfl, Nat.le_of_ble_eq_true rfl, Nat.le_of_ble_eq_true rfl⟩ ⟨Nat.le_of_ble_eq_true rfl, Nat.le_of_ble_eq_true rfl⟩ ?_
          refine lv_goto (tgt := 35) hx hb dX3_catches_30 (by decide) ?_
          exact W.iret (v := nI (catN (atN (S k)) t)) hx hb hr (fun t9 ht9 hW9 => ⟨_, rfl, (by rw [aCatch, wK_k hk (by omega), wK_k ht (by omega)]), ht9⟩) (fun q h => by cases h) dX3_catches_35
      · skip
        exact absurd c_8 (by decide)
