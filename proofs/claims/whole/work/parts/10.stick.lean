set_option maxHeartbeats 4000000 in
set_option maxRecDepth 100000 in
theorem c_X3_isPlace (l : Launch) (x : Int32) : Met l yX3_isPlace (w1 yX3_isPlace cX3_isPlace 1 (some .boolean)) ({ frames := 0, cells := 0, slots := 0, locals := 0 }) (PcT [.int x]) (vp_Si (fun r => r = bI (decide (¬ x < 0 ∧ ¬ 16 ≤ x)))) 0 0 (fun _ => False) := by
  refine met_of [.int x] [(0, .int x)] (by decide) (Nat.le_of_ble_eq_true rfl) rfl ?_
  intro p e s m below meth c hx hb hr hown hml hlocks hW ls hl
  refine lv_iload_n hx hb dX3_isPlace_0 rfl (lv_at hl 0 rfl) ?_
  refine lv_if_lt (tgt := 14) hx hb dX3_isPlace_1 (by decide) (fun c_1 => ?_) (fun c_1 => ?_)
  · skip
    refine lv_iconst (v := 0) hx hb dX3_isPlace_14 (by decide) ?_
    exact W.zret (v := 0) (ty := .boolean) hx hb hr rfl (fun t9 ht9 hW9 => ⟨_, rfl, by simp_all [bI], ht9⟩) (fun q h => by cases h) dX3_isPlace_15
  · skip
    refine lv_iload_n hx hb dX3_isPlace_4 rfl (lv_at hl 0 rfl) ?_
    refine lv_bipush (v := 16) hx hb dX3_isPlace_5 (by decide) ?_
    refine lv_icmp_ge (tgt := 14) hx hb dX3_isPlace_7 (by decide) (fun c_7 => ?_) (fun c_7 => ?_)
    · skip
      refine lv_iconst (v := 0) hx hb dX3_isPlace_14 (by decide) ?_
      exact W.zret (v := 0) (ty := .boolean) hx hb hr rfl (fun t9 ht9 hW9 => ⟨_, rfl, by simp_all [bI], ht9⟩) (fun q h => by cases h) dX3_isPlace_15
    · skip
      refine lv_iconst (v := 1) hx hb dX3_isPlace_10 (by decide) ?_
      refine lv_goto (tgt := 15) hx hb dX3_isPlace_11 (by decide) ?_
      exact W.zret (v := 1) (ty := .boolean) hx hb hr rfl (fun t9 ht9 hW9 => ⟨_, rfl, by simp_all [bI], ht9⟩) (fun q h => by cases h) dX3_isPlace_15
set_option maxHeartbeats 4000000 in
set_option maxRecDepth 100000 in
theorem c_X3_isHour (l : Launch) (x : Int32) : Met l yX3_isHour (w1 yX3_isHour cX3_isHour 1 (some .boolean)) ({ frames := 0, cells := 0, slots := 0, locals := 0 }) (PcT [.int x]) (vp_Si (fun r => r = bI (decide (¬ x < 0 ∧ ¬ 30 < x)))) 0 0 (fun _ => False) := by
  refine met_of [.int x] [(0, .int x)] (by decide) (Nat.le_of_ble_eq_true rfl) rfl ?_
  intro p e s m below meth c hx hb hr hown hml hlocks hW ls hl
  refine lv_iload_n hx hb dX3_isHour_0 rfl (lv_at hl 0 rfl) ?_
  refine lv_if_lt (tgt := 14) hx hb dX3_isHour_1 (by decide) (fun c_1 => ?_) (fun c_1 => ?_)
  · skip
    refine lv_iconst (v := 0) hx hb dX3_isHour_14 (by decide) ?_
    exact W.zret (v := 0) (ty := .boolean) hx hb hr rfl (fun t9 ht9 hW9 => ⟨_, rfl, by simp_all [bI], ht9⟩) (fun q h => by cases h) dX3_isHour_15
  · skip
    refine lv_iload_n hx hb dX3_isHour_4 rfl (lv_at hl 0 rfl) ?_
    refine lv_bipush (v := 30) hx hb dX3_isHour_5 (by decide) ?_
    refine lv_icmp_gt (tgt := 14) hx hb dX3_isHour_7 (by decide) (fun c_7 => ?_) (fun c_7 => ?_)
    · skip
      refine lv_iconst (v := 0) hx hb dX3_isHour_14 (by decide) ?_
      exact W.zret (v := 0) (ty := .boolean) hx hb hr rfl (fun t9 ht9 hW9 => ⟨_, rfl, by simp_all [bI], ht9⟩) (fun q h => by cases h) dX3_isHour_15
    · skip
      refine lv_iconst (v := 1) hx hb dX3_isHour_10 (by decide) ?_
      refine lv_goto (tgt := 15) hx hb dX3_isHour_11 (by decide) ?_
      exact W.zret (v := 1) (ty := .boolean) hx hb hr rfl (fun t9 ht9 hW9 => ⟨_, rfl, by simp_all [bI], ht9⟩) (fun q h => by cases h) dX3_isHour_15
set_option maxHeartbeats 4000000 in
set_option maxRecDepth 100000 in
theorem c_X3_with (l : Launch) (a b : Int64) : Met l yX3_with (w1 yX3_with cX3_with 4 (some .long)) ({ frames := 0, cells := 0, slots := 0, locals := 0 }) (PcG [.long a, .long b]) (vp_Sl (fun r => r = 31 * a + b)) 0 0 (fun _ => False) := by
  refine met_of [.long a, .long b] [(0, .long a), (2, .long b)] (by decide) (Nat.le_of_ble_eq_true rfl) rfl ?_
  intro p e s m below meth c hx hb hr hown hml hlocks hW ls hl
  have hG : GW s := hW
  refine lv_ldc2 (v := 31) hx hb hown (hG.use (i := 556) (by decide +kernel) rfl _) dX3_with_0 ?_
  refine lv_lload_n hx hb dX3_with_3 rfl (lv_at hl 0 rfl) ?_
  refine lv_lmul hx hb dX3_with_4 ?_
  refine lv_lload_n hx hb dX3_with_5 rfl (lv_at hl 1 rfl) ?_
  refine lv_ladd hx hb dX3_with_6 ?_
  exact W.lret (v := (31 * a) + b) hx hb hr (fun t9 ht9 hW9 => ⟨_, rfl, rfl, ht9⟩) (fun q h => by cases h) dX3_with_7
set_option maxHeartbeats 4000000 in
set_option maxRecDepth 100000 in
theorem c_X3_stepFrom (l : Launch) (pl d : Nat) (hp : pl < 16) (hd : d < 4) : Met l yX3_stepFrom (w1 yX3_stepFrom cX3_stepFrom 4 (some .int)) ({ frames := 0, cells := 0, slots := 0, locals := 0 }) (PcT [.int (nI pl), .int (nI d)]) (vp_Si (fun r => r = nI (stepN pl d))) 0 0 (fun _ => False) := by
  rcases sw4 hd with rfl | rfl | rfl | rfl
  · skip
    refine met_of [.int (nI pl), .int 0] [(0, .int (nI pl)), (1, .int 0)] (by decide) (Nat.le_of_ble_eq_true rfl) rfl ?_
    intro p e s m below meth c hx hb hr hown hml hlocks hW ls hl
    refine lv_iload_n hx hb dX3_stepFrom_0 rfl (lv_at hl 0 rfl) ?_
    refine lv_iconst (v := 4) hx hb dX3_stepFrom_1 (by decide) ?_
    refine ln_div pl 4 hx hb rfl rfl (by omega) (by omega) (by omega) dX3_stepFrom_2 ?_
    refine lv_istore_n (lv' := [(2, .int (nI (pl / 4))), (0, .int (nI pl)), (1, .int 0)]) hx hb dX3_stepFrom_3 rfl hl (by decide) rfl (fun ls hl => ?_)
    refine lv_iload_n hx hb dX3_stepFrom_4 rfl (lv_at hl 1 rfl) ?_
    refine lv_iconst (v := 4) hx hb dX3_stepFrom_5 (by decide) ?_
    refine ln_rem pl 4 hx hb rfl rfl (by omega) (by omega) (by omega) dX3_stepFrom_6 ?_
    refine lv_istore_n (lv' := [(3, .int (nI (pl % 4))), (2, .int (nI (pl / 4))), (0, .int (nI pl)), (1, .int 0)]) hx hb dX3_stepFrom_7 rfl hl (by decide) rfl (fun ls hl => ?_)
    refine lv_iload_n hx hb dX3_stepFrom_8 rfl (lv_at hl 3 rfl) ?_
    refine lv_tableIn (off := 31) (tgt := 40) hx hb dX3_stepFrom_9 (by decide) (by decide) rfl (by decide) ?_
    refine lv_iload_n hx hb dX3_stepFrom_40 rfl (lv_at hl 1 rfl) ?_
    refine lv_if_le (tgt := 50) hx hb dX3_stepFrom_41 (by decide) (fun c_41 => ?_) (fun c_41 => ?_)
    · skip
      have q_41 := tN_le (pl / 4) 0 c_41 rfl rfl (by omega) (by omega)
      refine lv_iload_n hx hb dX3_stepFrom_50 rfl (lv_at hl 2 rfl) ?_
      exact W.iret (v := nI pl) hx hb hr (fun t9 ht9 hW9 => ⟨_, rfl, by unfold stepN; simp only [reduceIte, Nat.reduceEqDiff]; first | rw [if_pos (by omega)] | rw [if_neg (by omega)], ht9⟩) (fun q h => by cases h) dX3_stepFrom_51
    · skip
      have q_41 := tN_nle (pl / 4) 0 c_41 rfl rfl (by omega) (by omega)
      refine lv_iload_n hx hb dX3_stepFrom_44 rfl (lv_at hl 2 rfl) ?_
      refine lv_iconst (v := 4) hx hb dX3_stepFrom_45 (by decide) ?_
      refine ln_sub pl 4 hx hb rfl rfl (by omega) dX3_stepFrom_46 ?_
      refine lv_goto (tgt := 51) hx hb dX3_stepFrom_47 (by decide) ?_
      exact W.iret (v := nI (pl - 4)) hx hb hr (fun t9 ht9 hW9 => ⟨_, rfl, by unfold stepN; simp only [reduceIte, Nat.reduceEqDiff]; first | rw [if_pos (by omega)] | rw [if_neg (by omega)], ht9⟩) (fun q h => by cases h) dX3_stepFrom_51
  · skip
    refine met_of [.int (nI pl), .int 1] [(0, .int (nI pl)), (1, .int 1)] (by decide) (Nat.le_of_ble_eq_true rfl) rfl ?_
    intro p e s m below meth c hx hb hr hown hml hlocks hW ls hl
    refine lv_iload_n hx hb dX3_stepFrom_0 rfl (lv_at hl 0 rfl) ?_
    refine lv_iconst (v := 4) hx hb dX3_stepFrom_1 (by decide) ?_
    refine ln_div pl 4 hx hb rfl rfl (by omega) (by omega) (by omega) dX3_stepFrom_2 ?_
    refine lv_istore_n (lv' := [(2, .int (nI (pl / 4))), (0, .int (nI pl)), (1, .int 1)]) hx hb dX3_stepFrom_3 rfl hl (by decide) rfl (fun ls hl => ?_)
    refine lv_iload_n hx hb dX3_stepFrom_4 rfl (lv_at hl 1 rfl) ?_
    refine lv_iconst (v := 4) hx hb dX3_stepFrom_5 (by decide) ?_
    refine ln_rem pl 4 hx hb rfl rfl (by omega) (by omega) (by omega) dX3_stepFrom_6 ?_
    refine lv_istore_n (lv' := [(3, .int (nI (pl % 4))), (2, .int (nI (pl / 4))), (0, .int (nI pl)), (1, .int 1)]) hx hb dX3_stepFrom_7 rfl hl (by decide) rfl (fun ls hl => ?_)
    refine lv_iload_n hx hb dX3_stepFrom_8 rfl (lv_at hl 3 rfl) ?_
    refine lv_tableIn (off := 43) (tgt := 52) hx hb dX3_stepFrom_9 (by decide) (by decide) rfl (by decide) ?_
    refine lv_iload_n hx hb dX3_stepFrom_52 rfl (lv_at hl 0 rfl) ?_
    refine lv_iconst (v := 3) hx hb dX3_stepFrom_53 (by decide) ?_
    refine lv_icmp_ge (tgt := 63) hx hb dX3_stepFrom_54 (by decide) (fun c_54 => ?_) (fun c_54 => ?_)
    · skip
      have q_54 := tN_le 3 (pl % 4) c_54 rfl rfl (by omega) (by omega)
      refine lv_iload_n hx hb dX3_stepFrom_63 rfl (lv_at hl 2 rfl) ?_
      exact W.iret (v := nI pl) hx hb hr (fun t9 ht9 hW9 => ⟨_, rfl, by unfold stepN; simp only [reduceIte, Nat.reduceEqDiff]; first | rw [if_pos (by omega)] | rw [if_neg (by omega)], ht9⟩) (fun q h => by cases h) dX3_stepFrom_64
    · skip
      have q_54 := tN_nle 3 (pl % 4) c_54 rfl rfl (by omega) (by omega)
      refine lv_iload_n hx hb dX3_stepFrom_57 rfl (lv_at hl 2 rfl) ?_
      refine lv_iconst (v := 1) hx hb dX3_stepFrom_58 (by decide) ?_
      refine ln_add pl 1 hx hb rfl rfl dX3_stepFrom_59 ?_
      refine lv_goto (tgt := 64) hx hb dX3_stepFrom_60 (by decide) ?_
      exact W.iret (v := nI (pl + 1)) hx hb hr (fun t9 ht9 hW9 => ⟨_, rfl, by unfold stepN; simp only [reduceIte, Nat.reduceEqDiff]; first | rw [if_pos (by omega)] | rw [if_neg (by omega)], ht9⟩) (fun q h => by cases h) dX3_stepFrom_64
  · skip
    refine met_of [.int (nI pl), .int 2] [(0, .int (nI pl)), (1, .int 2)] (by decide) (Nat.le_of_ble_eq_true rfl) rfl ?_
    intro p e s m below meth c hx hb hr hown hml hlocks hW ls hl
    refine lv_iload_n hx hb dX3_stepFrom_0 rfl (lv_at hl 0 rfl) ?_
    refine lv_iconst (v := 4) hx hb dX3_stepFrom_1 (by decide) ?_
    refine ln_div pl 4 hx hb rfl rfl (by omega) (by omega) (by omega) dX3_stepFrom_2 ?_
    refine lv_istore_n (lv' := [(2, .int (nI (pl / 4))), (0, .int (nI pl)), (1, .int 2)]) hx hb dX3_stepFrom_3 rfl hl (by decide) rfl (fun ls hl => ?_)
    refine lv_iload_n hx hb dX3_stepFrom_4 rfl (lv_at hl 1 rfl) ?_
    refine lv_iconst (v := 4) hx hb dX3_stepFrom_5 (by decide) ?_
    refine ln_rem pl 4 hx hb rfl rfl (by omega) (by omega) (by omega) dX3_stepFrom_6 ?_
    refine lv_istore_n (lv' := [(3, .int (nI (pl % 4))), (2, .int (nI (pl / 4))), (0, .int (nI pl)), (1, .int 2)]) hx hb dX3_stepFrom_7 rfl hl (by decide) rfl (fun ls hl => ?_)
    refine lv_iload_n hx hb dX3_stepFrom_8 rfl (lv_at hl 3 rfl) ?_
    refine lv_tableIn (off := 56) (tgt := 65) hx hb dX3_stepFrom_9 (by decide) (by decide) rfl (by decide) ?_
    refine lv_iload_n hx hb dX3_stepFrom_65 rfl (lv_at hl 1 rfl) ?_
    refine lv_iconst (v := 3) hx hb dX3_stepFrom_66 (by decide) ?_
    refine lv_icmp_ge (tgt := 76) hx hb dX3_stepFrom_67 (by decide) (fun c_67 => ?_) (fun c_67 => ?_)
    · skip
      have q_67 := tN_le 3 (pl / 4) c_67 rfl rfl (by omega) (by omega)
      refine lv_iload_n hx hb dX3_stepFrom_76 rfl (lv_at hl 2 rfl) ?_
      exact W.iret (v := nI pl) hx hb hr (fun t9 ht9 hW9 => ⟨_, rfl, by unfold stepN; simp only [reduceIte, Nat.reduceEqDiff]; first | rw [if_pos (by omega)] | rw [if_neg (by omega)], ht9⟩) (fun q h => by cases h) dX3_stepFrom_77
    · skip
      have q_67 := tN_nle 3 (pl / 4) c_67 rfl rfl (by omega) (by omega)
      refine lv_iload_n hx hb dX3_stepFrom_70 rfl (lv_at hl 2 rfl) ?_
      refine lv_iconst (v := 4) hx hb dX3_stepFrom_71 (by decide) ?_
      refine ln_add pl 4 hx hb rfl rfl dX3_stepFrom_72 ?_
      refine lv_goto (tgt := 77) hx hb dX3_stepFrom_73 (by decide) ?_
      exact W.iret (v := nI (pl + 4)) hx hb hr (fun t9 ht9 hW9 => ⟨_, rfl, by unfold stepN; simp only [reduceIte, Nat.reduceEqDiff]; first | rw [if_pos (by omega)] | rw [if_neg (by omega)], ht9⟩) (fun q h => by cases h) dX3_stepFrom_77
  · skip
    refine met_of [.int (nI pl), .int 3] [(0, .int (nI pl)), (1, .int 3)] (by decide) (Nat.le_of_ble_eq_true rfl) rfl ?_
    intro p e s m below meth c hx hb hr hown hml hlocks hW ls hl
    refine lv_iload_n hx hb dX3_stepFrom_0 rfl (lv_at hl 0 rfl) ?_
    refine lv_iconst (v := 4) hx hb dX3_stepFrom_1 (by decide) ?_
    refine ln_div pl 4 hx hb rfl rfl (by omega) (by omega) (by omega) dX3_stepFrom_2 ?_
    refine lv_istore_n (lv' := [(2, .int (nI (pl / 4))), (0, .int (nI pl)), (1, .int 3)]) hx hb dX3_stepFrom_3 rfl hl (by decide) rfl (fun ls hl => ?_)
    refine lv_iload_n hx hb dX3_stepFrom_4 rfl (lv_at hl 1 rfl) ?_
    refine lv_iconst (v := 4) hx hb dX3_stepFrom_5 (by decide) ?_
    refine ln_rem pl 4 hx hb rfl rfl (by omega) (by omega) (by omega) dX3_stepFrom_6 ?_
    refine lv_istore_n (lv' := [(3, .int (nI (pl % 4))), (2, .int (nI (pl / 4))), (0, .int (nI pl)), (1, .int 3)]) hx hb dX3_stepFrom_7 rfl hl (by decide) rfl (fun ls hl => ?_)
    refine lv_iload_n hx hb dX3_stepFrom_8 rfl (lv_at hl 3 rfl) ?_
    refine lv_tableIn (off := 69) (tgt := 78) hx hb dX3_stepFrom_9 (by decide) (by decide) rfl (by decide) ?_
    refine lv_iload_n hx hb dX3_stepFrom_78 rfl (lv_at hl 0 rfl) ?_
    refine lv_if_le (tgt := 88) hx hb dX3_stepFrom_79 (by decide) (fun c_79 => ?_) (fun c_79 => ?_)
    · skip
      have q_79 := tN_le (pl % 4) 0 c_79 rfl rfl (by omega) (by omega)
      refine lv_iload_n hx hb dX3_stepFrom_88 rfl (lv_at hl 2 rfl) ?_
      exact W.iret (v := nI pl) hx hb hr (fun t9 ht9 hW9 => ⟨_, rfl, by unfold stepN; simp only [reduceIte, Nat.reduceEqDiff]; first | rw [if_pos (by omega)] | rw [if_neg (by omega)], ht9⟩) (fun q h => by cases h) dX3_stepFrom_89
    · skip
      have q_79 := tN_nle (pl % 4) 0 c_79 rfl rfl (by omega) (by omega)
      refine lv_iload_n hx hb dX3_stepFrom_82 rfl (lv_at hl 2 rfl) ?_
      refine lv_iconst (v := 1) hx hb dX3_stepFrom_83 (by decide) ?_
      refine ln_sub pl 1 hx hb rfl rfl (by omega) dX3_stepFrom_84 ?_
      refine lv_goto (tgt := 89) hx hb dX3_stepFrom_85 (by decide) ?_
      exact W.iret (v := nI (pl - 1)) hx hb hr (fun t9 ht9 hW9 => ⟨_, rfl, by unfold stepN; simp only [reduceIte, Nat.reduceEqDiff]; first | rw [if_pos (by omega)] | rw [if_neg (by omega)], ht9⟩) (fun q h => by cases h) dX3_stepFrom_89
set_option maxHeartbeats 4000000 in
set_option maxRecDepth 100000 in
theorem c_X2_stepsOfWalk (l : Launch) (G : Gam) (σ : St) (j : Nat) (hj : j < 12) (S : Sk) (hv : VS S) (hg : GS σ j S) : Met l yX2_stepsOfWalk (w1 yX2_stepsOfWalk cX2_stepsOfWalk 1 (some .int)) ({ frames := 0, cells := 0, slots := 0, locals := 0 }) (PcX G σ [.ref (ga G (3 * j + 14))]) (vp_Si (fun r => r = nI (swN (S 0) (S 3)))) 0 0 (fun _ => False) := by
  obtain ⟨K, hK0⟩ : ∃ K, S 0 = K := ⟨_, rfl⟩
  have hK5 : K < 5 := hK0 ▸ hv.1
  have hK : nI (S 0) = nI K := by rw [hK0]
  rcases sw5 hK5 with rfl | rfl | rfl | rfl | rfl
  · skip
    refine met_of [.ref (ga G (3 * j + 14))] [(0, .ref (ga G (3 * j + 14)))] (by decide) (Nat.le_of_ble_eq_true rfl) rfl ?_
    intro p e s m below meth c hx hb hr hown hml hlocks hW ls hl
    have hG : GW s := hW.2.2.2.1
    have hv0 := hv.1
    have hv1 := hv.2.1
    have hv3 := hv.2.2.1
    refine lv_aload_n hx hb dX2_stepsOfWalk_0 rfl (lv_at hl 0 rfl) ?_
    refine rd_X2_9 hx hb hown hW hj dX2_stepsOfWalk_1 ?_
    refine lv_eqi (y := 0) (hg.1.trans hK) ?_
    refine lv_lookup (off := 42) (tgt := 46) hx hb dX2_stepsOfWalk_4 rfl rfl (by decide) ?_
    refine lv_aload_n hx hb dX2_stepsOfWalk_46 rfl (lv_at hl 0 rfl) ?_
    refine rd_X2_18 hx hb hown hW hj dX2_stepsOfWalk_47 ?_
    refine lv_eqi (y := nI (S 3)) hg.2.2.1 ?_
    exact W.iret (v := nI (S 3)) hx hb hr (fun t9 ht9 hW9 => ⟨_, rfl, by unfold swN; rw [hK0]; rfl, ht9⟩) (fun q h => by cases h) dX2_stepsOfWalk_50
  · skip
    refine met_of [.ref (ga G (3 * j + 14))] [(0, .ref (ga G (3 * j + 14)))] (by decide) (Nat.le_of_ble_eq_true rfl) rfl ?_
    intro p e s m below meth c hx hb hr hown hml hlocks hW ls hl
    have hG : GW s := hW.2.2.2.1
    have hv0 := hv.1
    have hv1 := hv.2.1
    have hv3 := hv.2.2.1
    refine lv_aload_n hx hb dX2_stepsOfWalk_0 rfl (lv_at hl 0 rfl) ?_
    refine rd_X2_9 hx hb hown hW hj dX2_stepsOfWalk_1 ?_
    refine lv_eqi (y := 1) (hg.1.trans hK) ?_
    refine lv_lookup (off := 28) (tgt := 32) hx hb dX2_stepsOfWalk_4 rfl rfl (by decide) ?_
    refine lv_iconst (v := 2) hx hb dX2_stepsOfWalk_32 (by decide) ?_
    refine lv_aload_n hx hb dX2_stepsOfWalk_33 rfl (lv_at hl 0 rfl) ?_
    refine rd_X2_18 hx hb hown hW hj dX2_stepsOfWalk_34 ?_
    refine lv_eqi (y := nI (S 3)) hg.2.2.1 ?_
    refine ln_mul 2 (S 3) hx hb rfl rfl dX2_stepsOfWalk_37 ?_
    exact W.iret (v := nI (2 * (S 3))) hx hb hr (fun t9 ht9 hW9 => ⟨_, rfl, by unfold swN; rw [hK0]; rfl, ht9⟩) (fun q h => by cases h) dX2_stepsOfWalk_38
  · skip
    refine met_of [.ref (ga G (3 * j + 14))] [(0, .ref (ga G (3 * j + 14)))] (by decide) (Nat.le_of_ble_eq_true rfl) rfl ?_
    intro p e s m below meth c hx hb hr hown hml hlocks hW ls hl
    have hG : GW s := hW.2.2.2.1
    have hv0 := hv.1
    have hv1 := hv.2.1
    have hv3 := hv.2.2.1
    refine lv_aload_n hx hb dX2_stepsOfWalk_0 rfl (lv_at hl 0 rfl) ?_
    refine rd_X2_9 hx hb hown hW hj dX2_stepsOfWalk_1 ?_
    refine lv_eqi (y := 2) (hg.1.trans hK) ?_
    refine lv_lookup (off := 42) (tgt := 46) hx hb dX2_stepsOfWalk_4 rfl rfl (by decide) ?_
    refine lv_aload_n hx hb dX2_stepsOfWalk_46 rfl (lv_at hl 0 rfl) ?_
    refine rd_X2_18 hx hb hown hW hj dX2_stepsOfWalk_47 ?_
    refine lv_eqi (y := nI (S 3)) hg.2.2.1 ?_
    exact W.iret (v := nI (S 3)) hx hb hr (fun t9 ht9 hW9 => ⟨_, rfl, by unfold swN; rw [hK0]; rfl, ht9⟩) (fun q h => by cases h) dX2_stepsOfWalk_50
  · skip
    refine met_of [.ref (ga G (3 * j + 14))] [(0, .ref (ga G (3 * j + 14)))] (by decide) (Nat.le_of_ble_eq_true rfl) rfl ?_
    intro p e s m below meth c hx hb hr hown hml hlocks hW ls hl
    have hG : GW s := hW.2.2.2.1
    have hv0 := hv.1
    have hv1 := hv.2.1
    have hv3 := hv.2.2.1
    refine lv_aload_n hx hb dX2_stepsOfWalk_0 rfl (lv_at hl 0 rfl) ?_
    refine rd_X2_9 hx hb hown hW hj dX2_stepsOfWalk_1 ?_
    refine lv_eqi (y := 3) (hg.1.trans hK) ?_
    refine lv_lookup (off := 42) (tgt := 46) hx hb dX2_stepsOfWalk_4 rfl rfl (by decide) ?_
    refine lv_aload_n hx hb dX2_stepsOfWalk_46 rfl (lv_at hl 0 rfl) ?_
    refine rd_X2_18 hx hb hown hW hj dX2_stepsOfWalk_47 ?_
    refine lv_eqi (y := nI (S 3)) hg.2.2.1 ?_
    exact W.iret (v := nI (S 3)) hx hb hr (fun t9 ht9 hW9 => ⟨_, rfl, by unfold swN; rw [hK0]; rfl, ht9⟩) (fun q h => by cases h) dX2_stepsOfWalk_50
  · skip
    refine met_of [.ref (ga G (3 * j + 14))] [(0, .ref (ga G (3 * j + 14)))] (by decide) (Nat.le_of_ble_eq_true rfl) rfl ?_
    intro p e s m below meth c hx hb hr hown hml hlocks hW ls hl
    have hG : GW s := hW.2.2.2.1
    have hv0 := hv.1
    have hv1 := hv.2.1
    have hv3 := hv.2.2.1
    refine lv_aload_n hx hb dX2_stepsOfWalk_0 rfl (lv_at hl 0 rfl) ?_
    refine rd_X2_9 hx hb hown hW hj dX2_stepsOfWalk_1 ?_
    refine lv_eqi (y := 4) (hg.1.trans hK) ?_
    refine lv_lookup (off := 35) (tgt := 39) hx hb dX2_stepsOfWalk_4 rfl rfl (by decide) ?_
    refine lv_iconst (v := 4) hx hb dX2_stepsOfWalk_39 (by decide) ?_
    refine lv_aload_n hx hb dX2_stepsOfWalk_40 rfl (lv_at hl 0 rfl) ?_
    refine rd_X2_18 hx hb hown hW hj dX2_stepsOfWalk_41 ?_
    refine lv_eqi (y := nI (S 3)) hg.2.2.1 ?_
    refine ln_mul 4 (S 3) hx hb rfl rfl dX2_stepsOfWalk_44 ?_
    exact W.iret (v := nI (4 * (S 3))) hx hb hr (fun t9 ht9 hW9 => ⟨_, rfl, by unfold swN; rw [hK0]; rfl, ht9⟩) (fun q h => by cases h) dX2_stepsOfWalk_45
set_option maxHeartbeats 4000000 in
set_option maxRecDepth 100000 in
theorem c_X2_hoursPerStep (l : Launch) (G : Gam) (σ : St) (j : Nat) (hj : j < 12) (S : Sk) (hv : VS S) (hg : GS σ j S) : Met l yX2_hoursPerStep (w1 yX2_hoursPerStep cX2_hoursPerStep 1 (some .int)) ({ frames := 0, cells := 0, slots := 0, locals := 0 }) (PcX G σ [.ref (ga G (3 * j + 14))]) (vp_Si (fun r => r = nI (hpN (S 0)))) 0 0 (fun _ => False) := by
  refine met_of [.ref (ga G (3 * j + 14))] [(0, .ref (ga G (3 * j + 14)))] (by decide) (Nat.le_of_ble_eq_true rfl) rfl ?_
  intro p e s m below meth c hx hb hr hown hml hlocks hW ls hl
  have hG : GW s := hW.2.2.2.1
  have hv0 := hv.1
  have hv1 := hv.2.1
  have hv3 := hv.2.2.1
  refine lv_aload_n hx hb dX2_hoursPerStep_0 rfl (lv_at hl 0 rfl) ?_
  refine rd_X2_9 hx hb hown hW hj dX2_hoursPerStep_1 ?_
  refine lv_eqi (y := nI (S 0)) hg.1 ?_
  refine lv_iconst (v := 2) hx hb dX2_hoursPerStep_4 (by decide) ?_
  refine lv_icmp_ne (tgt := 12) hx hb dX2_hoursPerStep_5 (by decide) (fun c_5 => ?_) (fun c_5 => ?_)
  · skip
    have q_5 := tN_ne (S 0) 2 c_5 rfl rfl (by omega) (by omega)
    refine lv_iconst (v := 1) hx hb dX2_hoursPerStep_12 (by decide) ?_
    exact W.iret (v := 1) hx hb hr (fun t9 ht9 hW9 => ⟨_, rfl, by unfold hpN; (first | rw [if_pos (by omega)] | rw [if_neg (by omega)]) <;> rfl, ht9⟩) (fun q h => by cases h) dX2_hoursPerStep_13
  · skip
    have q_5 := tN_eq (S 0) 2 c_5 rfl rfl (by omega) (by omega)
    refine lv_iconst (v := 2) hx hb dX2_hoursPerStep_8 (by decide) ?_
    refine lv_goto (tgt := 13) hx hb dX2_hoursPerStep_9 (by decide) ?_
    exact W.iret (v := 2) hx hb hr (fun t9 ht9 hW9 => ⟨_, rfl, by unfold hpN; (first | rw [if_pos (by omega)] | rw [if_neg (by omega)]) <;> rfl, ht9⟩) (fun q h => by cases h) dX2_hoursPerStep_13
set_option maxHeartbeats 4000000 in
set_option maxRecDepth 100000 in
theorem c_X2_hoursOfWalk (l : Launch) (G : Gam) (σ : St) (j : Nat) (hj : j < 12) (S : Sk) (hv : VS S) (hg : GS σ j S) : Met l yX2_hoursOfWalk (w1 yX2_hoursOfWalk cX2_hoursOfWalk 1 (some .int)) ({ frames := 1, cells := 0, slots := 0, locals := 20 }) (PcX G σ [.ref (ga G (3 * j + 14))]) (vp_Si (fun r => r = nI (hwN (S 0) (S 3)))) 0 0 (fun _ => False) := by
  refine met_of [.ref (ga G (3 * j + 14))] [(0, .ref (ga G (3 * j + 14)))] (by decide) (Nat.le_of_ble_eq_true rfl) rfl ?_
  intro p e s m below meth c hx hb hr hown hml hlocks hW ls hl
  have hG : GW s := hW.2.2.2.1
  have hv0 := hv.1
  have hv1 := hv.2.1
  have hv3 := hv.2.2.1
  refine lv_aload_n hx hb dX2_hoursOfWalk_0 rfl (lv_at hl 0 rfl) ?_
  refine cr_i (q := 314) [] hx hb hml hown hG v_X2_stepsOfWalk (by decide +kernel) (c_X2_stepsOfWalk l G σ j hj S hv hg) (preK hW hj _) rfl hl.1 (Nat.le_of_ble_eq_true rfl) dX2_hoursOfWalk_1 ⟨rfl, rfl, Nat.le_of_ble_eq_true rfl, Nat.le_of_ble_eq_true rfl⟩ ⟨Nat.le_of_ble_eq_true rfl, Nat.le_of_ble_eq_true rfl⟩ ?_
  refine lv_aload_n hx hb dX2_hoursOfWalk_4 rfl (lv_at hl 0 rfl) ?_
  refine cr_i (q := 318) [] hx hb hml hown hG v_X2_hoursPerStep (by decide +kernel) (c_X2_hoursPerStep l G σ j hj S hv hg) (preK hW hj _) rfl hl.1 (Nat.le_of_ble_eq_true rfl) dX2_hoursOfWalk_5 ⟨rfl, rfl, Nat.le_of_ble_eq_true rfl, Nat.le_of_ble_eq_true rfl⟩ ⟨Nat.le_of_ble_eq_true rfl, Nat.le_of_ble_eq_true rfl⟩ ?_
  refine ln_mul (swN (S 0) (S 3)) (hpN (S 0)) hx hb rfl rfl dX2_hoursOfWalk_8 ?_
  exact W.iret (v := nI ((swN (S 0) (S 3)) * (hpN (S 0)))) hx hb hr (fun t9 ht9 hW9 => ⟨_, rfl, rfl, ht9⟩) (fun q h => by cases h) dX2_hoursOfWalk_9
set_option maxHeartbeats 4000000 in
set_option maxRecDepth 100000 in
theorem c_X2_directionOf (l : Launch) (G : Gam) (σ : St) (j : Nat) (hj : j < 12) (S : Sk) (hv : VS S) (hg : GS σ j S) (n : Nat) (h0 : 0 < S 3) (hn : n ≤ 100) : Met l yX2_directionOf (w1 yX2_directionOf cX2_directionOf 5 (some .int)) ({ frames := 0, cells := 0, slots := 0, locals := 0 }) (PcX G σ [.ref (ga G (3 * j + 14)), .int (nI n)]) (vp_Si (fun r => r = nI (dirN S n))) 0 0 (fun _ => False) := by
  refine met_of [.ref (ga G (3 * j + 14)), .int (nI n)] [(0, .ref (ga G (3 * j + 14))), (1, .int (nI n))] (by decide) (Nat.le_of_ble_eq_true rfl) rfl ?_
  intro p e s m below meth c hx hb hr hown hml hlocks hW ls hl
  have hG : GW s := hW.2.2.2.1
  have hv0 := hv.1
  have hv1 := hv.2.1
  have hv3 := hv.2.2.1
  have hm : n % S 3 < S 3 := Nat.mod_lt _ h0
  have hdv : n / S 3 ≤ n := Nat.div_le_self _ _
  refine lv_aload_n hx hb dX2_directionOf_0 rfl (lv_at hl 0 rfl) ?_
  refine rd_X2_18 hx hb hown hW hj dX2_directionOf_1 ?_
  refine lv_eqi (y := nI (S 3)) hg.2.2.1 ?_
  refine lv_if_ne (tgt := 9) hx hb dX2_directionOf_4 (by decide) (fun c_4 => ?_) (fun c_4 => ?_)
  · skip
    have q_4 := tN_ne (S 3) 0 c_4 rfl rfl (by omega) (by omega)
    refine lv_iload_n hx hb dX2_directionOf_9 rfl (lv_at hl 1 rfl) ?_
    refine lv_aload_n hx hb dX2_directionOf_10 rfl (lv_at hl 0 rfl) ?_
    refine rd_X2_18 hx hb hown hW hj dX2_directionOf_11 ?_
    refine lv_eqi (y := nI (S 3)) hg.2.2.1 ?_
    refine ln_rem n (S 3) hx hb rfl rfl (by omega) (by omega) (by omega) dX2_directionOf_14 ?_
    refine lv_istore_n (lv' := [(2, .int (nI (n % (S 3)))), (0, .ref (ga G (3 * j + 14))), (1, .int (nI n))]) hx hb dX2_directionOf_15 rfl hl (by decide) rfl (fun ls hl => ?_)
    refine lv_iload_n hx hb dX2_directionOf_16 rfl (lv_at hl 2 rfl) ?_
    refine lv_aload_n hx hb dX2_directionOf_17 rfl (lv_at hl 1 rfl) ?_
    refine rd_X2_18 hx hb hown hW hj dX2_directionOf_18 ?_
    refine lv_eqi (y := nI (S 3)) hg.2.2.1 ?_
    refine ln_div n (S 3) hx hb rfl rfl (by omega) (by omega) (by omega) dX2_directionOf_21 ?_
    refine lv_iconst (v := 2) hx hb dX2_directionOf_22 (by decide) ?_
    refine ln_rem (n / (S 3)) 2 hx hb rfl rfl (by omega) (by omega) (by omega) dX2_directionOf_23 ?_
    refine lv_iconst (v := 1) hx hb dX2_directionOf_24 (by decide) ?_
    refine lv_icmp_ne (tgt := 32) hx hb dX2_directionOf_25 (by decide) (fun c_25 => ?_) (fun c_25 => ?_)
    · skip
      have q_25 := tN_ne ((n / (S 3)) % 2) 1 c_25 rfl rfl (by omega) (by omega)
      refine lv_iconst (v := 0) hx hb dX2_directionOf_32 (by decide) ?_
      refine lv_istore_n (lv' := [(3, .int 0), (2, .int (nI (n % (S 3)))), (0, .ref (ga G (3 * j + 14))), (1, .int (nI n))]) hx hb dX2_directionOf_33 rfl hl (by decide) rfl (fun ls hl => ?_)
      refine lv_iload_n hx hb dX2_directionOf_34 rfl (lv_at hl 0 rfl) ?_
      refine lv_if_eq (tgt := 54) hx hb dX2_directionOf_35 (by decide) (fun c_35 => ?_) (fun c_35 => ?_)
      · skip
        refine lv_aload_n hx hb dX2_directionOf_54 rfl (lv_at hl 2 rfl) ?_
        refine rd_X2_21 hx hb hown hW hj dX2_directionOf_55 ?_
        refine lv_iload_n hx hb dX2_directionOf_58 rfl (lv_at hl 1 rfl) ?_
        refine al_way (k := n % (S 3)) hx hb hW hj rfl (by omega) dX2_directionOf_59 ?_
        refine lv_eqi (y := nI (S (4 + (n % (S 3))))) (hg.2.2.2 (n % (S 3)) (by omega)) ?_
        refine lv_istore (lv' := [(4, .int (nI (S (4 + (n % (S 3)))))), (3, .int 0), (2, .int (nI (n % (S 3)))), (0, .ref (ga G (3 * j + 14))), (1, .int (nI n))]) hx hb dX2_directionOf_60 hl (by decide) rfl (fun ls hl => ?_)
        refine lv_iload_n hx hb dX2_directionOf_62 rfl (lv_at hl 1 rfl) ?_
        refine lv_if_ne (tgt := 74) hx hb dX2_directionOf_63 (by decide) (fun c_63 => ?_) (fun c_63 => ?_)
        · skip
          exact absurd (by decide) c_63
        · skip
          refine lv_aload_n hx hb dX2_directionOf_66 rfl (lv_at hl 3 rfl) ?_
          refine rd_X2_9 hx hb hown hW hj dX2_directionOf_67 ?_
          refine lv_eqi (y := nI (S 0)) hg.1 ?_
          refine lv_iconst (v := 3) hx hb dX2_directionOf_70 (by decide) ?_
          refine lv_icmp_ne (tgt := 83) hx hb dX2_directionOf_71 (by decide) (fun c_71 => ?_) (fun c_71 => ?_)
          · skip
            have q_71 := tN_ne (S 0) 3 c_71 rfl rfl (by omega) (by omega)
            refine lv_iload hx hb dX2_directionOf_83 (lv_at hl 0 rfl) ?_
            exact W.iret (v := nI (S (4 + (n % (S 3))))) hx hb hr (fun t9 ht9 hW9 => ⟨_, rfl, by unfold dirN; first | rw [if_pos q_25] | rw [if_neg q_25, if_pos q_71] | rw [if_neg q_25, if_neg q_71], ht9⟩) (fun q h => by cases h) dX2_directionOf_85
          · skip
            have q_71 := tN_eq (S 0) 3 c_71 rfl rfl (by omega) (by omega)
            refine lv_iload hx hb dX2_directionOf_74 (lv_at hl 0 rfl) ?_
            refine lv_iconst (v := 2) hx hb dX2_directionOf_76 (by decide) ?_
            refine ln_add (S (4 + (n % (S 3)))) 2 hx hb rfl rfl dX2_directionOf_77 ?_
            refine lv_iconst (v := 4) hx hb dX2_directionOf_78 (by decide) ?_
            refine ln_rem ((S (4 + (n % (S 3)))) + 2) 4 hx hb rfl rfl (by have h1 := hv.2.2.2 (n % S 3) hm; have h2 := hv.2.2.2 (S 3 - 1 - n % S 3) (by omega); omega) (by omega) (by omega) dX2_directionOf_79 ?_
            refine lv_goto (tgt := 85) hx hb dX2_directionOf_80 (by decide) ?_
            exact W.iret (v := nI (((S (4 + (n % (S 3)))) + 2) % 4)) hx hb hr (fun t9 ht9 hW9 => ⟨_, rfl, by unfold dirN; first | rw [if_pos q_25] | rw [if_neg q_25, if_pos q_71] | rw [if_neg q_25, if_neg q_71], ht9⟩) (fun q h => by cases h) dX2_directionOf_85
      · skip
        exact absurd (by decide) c_35
    · skip
      have q_25 := tN_eq ((n / (S 3)) % 2) 1 c_25 rfl rfl (by omega) (by omega)
      refine lv_iconst (v := 1) hx hb dX2_directionOf_28 (by decide) ?_
      refine lv_goto (tgt := 33) hx hb dX2_directionOf_29 (by decide) ?_
      refine lv_istore_n (lv' := [(3, .int 1), (2, .int (nI (n % (S 3)))), (0, .ref (ga G (3 * j + 14))), (1, .int (nI n))]) hx hb dX2_directionOf_33 rfl hl (by decide) rfl (fun ls hl => ?_)
      refine lv_iload_n hx hb dX2_directionOf_34 rfl (lv_at hl 0 rfl) ?_
      refine lv_if_eq (tgt := 54) hx hb dX2_directionOf_35 (by decide) (fun c_35 => ?_) (fun c_35 => ?_)
      · skip
        exact absurd c_35 (by decide)
      · skip
        refine lv_aload_n hx hb dX2_directionOf_38 rfl (lv_at hl 2 rfl) ?_
        refine rd_X2_21 hx hb hown hW hj dX2_directionOf_39 ?_
        refine lv_aload_n hx hb dX2_directionOf_42 rfl (lv_at hl 2 rfl) ?_
        refine rd_X2_18 hx hb hown hW hj dX2_directionOf_43 ?_
        refine lv_eqi (y := nI (S 3)) hg.2.2.1 ?_
        refine lv_iconst (v := 1) hx hb dX2_directionOf_46 (by decide) ?_
        refine ln_sub (S 3) 1 hx hb rfl rfl (by omega) dX2_directionOf_47 ?_
        refine lv_iload_n hx hb dX2_directionOf_48 rfl (lv_at hl 1 rfl) ?_
        refine ln_sub ((S 3) - 1) (n % (S 3)) hx hb rfl rfl (by omega) dX2_directionOf_49 ?_
        refine al_way (k := ((S 3) - 1) - (n % (S 3))) hx hb hW hj rfl (by omega) dX2_directionOf_50 ?_
        refine lv_eqi (y := nI (S (4 + (((S 3) - 1) - (n % (S 3)))))) (hg.2.2.2 (((S 3) - 1) - (n % (S 3))) (by omega)) ?_
        refine lv_goto (tgt := 60) hx hb dX2_directionOf_51 (by decide) ?_
        refine lv_istore (lv' := [(4, .int (nI (S (4 + (((S 3) - 1) - (n % (S 3))))))), (3, .int 1), (2, .int (nI (n % (S 3)))), (0, .ref (ga G (3 * j + 14))), (1, .int (nI n))]) hx hb dX2_directionOf_60 hl (by decide) rfl (fun ls hl => ?_)
        refine lv_iload_n hx hb dX2_directionOf_62 rfl (lv_at hl 1 rfl) ?_
        refine lv_if_ne (tgt := 74) hx hb dX2_directionOf_63 (by decide) (fun c_63 => ?_) (fun c_63 => ?_)
        · skip
          refine lv_iload hx hb dX2_directionOf_74 (lv_at hl 0 rfl) ?_
          refine lv_iconst (v := 2) hx hb dX2_directionOf_76 (by decide) ?_
          refine ln_add (S (4 + (((S 3) - 1) - (n % (S 3))))) 2 hx hb rfl rfl dX2_directionOf_77 ?_
          refine lv_iconst (v := 4) hx hb dX2_directionOf_78 (by decide) ?_
          refine ln_rem ((S (4 + (((S 3) - 1) - (n % (S 3))))) + 2) 4 hx hb rfl rfl (by have h1 := hv.2.2.2 (n % S 3) hm; have h2 := hv.2.2.2 (S 3 - 1 - n % S 3) (by omega); omega) (by omega) (by omega) dX2_directionOf_79 ?_
          refine lv_goto (tgt := 85) hx hb dX2_directionOf_80 (by decide) ?_
          exact W.iret (v := nI (((S (4 + (((S 3) - 1) - (n % (S 3))))) + 2) % 4)) hx hb hr (fun t9 ht9 hW9 => ⟨_, rfl, by unfold dirN; first | rw [if_pos q_25] | rw [if_neg q_25, if_pos q_71] | rw [if_neg q_25, if_neg q_71], ht9⟩) (fun q h => by cases h) dX2_directionOf_85
        · skip
          exact absurd c_63 (by decide)
  · skip
    exact absurd c_4 (nI_ne0 h0 (by omega))
set_option maxHeartbeats 4000000 in
set_option maxRecDepth 100000 in
theorem c_X2_retrace (l : Launch) (G : Gam) (σ : St) (j : Nat) (hj : j < 12) (S : Sk) (hv : VS S) (hg : GS σ j S) : Met l yX2_retrace (w1 yX2_retrace cX2_retrace 4 none) ({ frames := 2, cells := 0, slots := 0, locals := 40 }) (PcX G σ [.ref (ga G (3 * j + 14))]) (QvX G (fun σ9 => RT σ j S σ9)) 0 0 (aX G) := by
  refine met_of [.ref (ga G (3 * j + 14))] [(0, .ref (ga G (3 * j + 14)))] (by decide) (Nat.le_of_ble_eq_true rfl) rfl ?_
  intro p e s m below meth c hx hb hr hown hml hlocks hW ls hl
  have hG : GW s := hW.2.2.2.1
  have hS : va_S (aX G) s.heap s.heap [] := va_S.rf
  have hv0 := hv.1
  have hv1 := hv.2.1
  have hv3 := hv.2.2.1
  refine lv_aload_n hx hb dX2_retrace_0 rfl (lv_at hl 0 rfl) ?_
  refine rd_X2_15 hx hb hown hW hj dX2_retrace_1 ?_
  refine lv_eqi (y := nI (S 1)) hg.2.1 ?_
  refine lv_istore_n (lv' := [(1, .int (nI (S 1))), (0, .ref (ga G (3 * j + 14)))]) hx hb dX2_retrace_4 rfl hl (by decide) rfl (fun ls hl => ?_)
  refine lv_iconst (v := 0) hx hb dX2_retrace_5 (by decide) ?_
  refine lv_istore_n (lv' := [(2, .int 0), (1, .int (nI (S 1))), (0, .ref (ga G (3 * j + 14)))]) hx hb dX2_retrace_6 rfl hl (by decide) rfl (fun ls hl => ?_)
  refine lv_aload_n hx hb dX2_retrace_7 rfl (lv_at hl 2 rfl) ?_
  refine rd_X2_25 hx hb hown hW hj dX2_retrace_8 ?_
  refine lv_iconst (v := 0) hx hb dX2_retrace_11 (by decide) ?_
  refine lv_iload_n hx hb dX2_retrace_12 rfl (lv_at hl 1 rfl) ?_
  refine as_trail (k := 0) hx hb hW hS hj rfl (by omega) dX2_retrace_13 (fun H locs hW hS => ?_)
  obtain ⟨σ1, hσ1⟩ : ∃ z, z = up2 σ (3 * j + 16) 0 (nI (S 1)) := ⟨_, rfl⟩
  rw [← hσ1] at hW
  refine lv_aload_n hx hb dX2_retrace_14 rfl (lv_at hl 2 rfl) ?_
  refine lv_iconst (v := 1) hx hb dX2_retrace_15 (by decide) ?_
  refine lv_iload_n hx hb dX2_retrace_16 rfl (lv_at hl 1 rfl) ?_
  refine lv_ishl hx hb dX2_retrace_17 ?_
  refine wr_X2_28 hx hb hown hW hS hj dX2_retrace_18 (fun H locs hW hS => ?_)
  obtain ⟨σ2, hσ2⟩ : ∃ z, z = up2 σ1 (3 * j + 14) 5 (1 <<< ((nI (S 1)) &&& 31)) := ⟨_, rfl⟩
  rw [← hσ2] at hW
  refine lv_iconst (v := 1) hx hb dX2_retrace_21 (by decide) ?_
  refine lv_istore_n (lv' := [(3, .int 1), (2, .int 0), (1, .int (nI (S 1))), (0, .ref (ga G (3 * j + 14)))]) hx hb dX2_retrace_22 rfl hl (by decide) rfl (fun ls hl => ?_)
  have loop_23 : ∀ (N9 : Nat) (h : Nat) (pl : Int32) (sm : Int32) (ho : Int32) (σw : St) (H : Heap) (locs : List Loc), 30 - h < N9 → pl = nI (posN S h) → sm = nI (min h (hwN (S 0) (S 3)) / hpN (S 0)) → ho = nI (h + 1) → h ≤ 30 → WX G σw s H → va_S (aX G) s.heap H locs → RTP σ j S σw h → ∀ ls : Array Slot, lv_has ls 4 [(1, .int pl), (2, .int sm), (3, .int ho), (0, .ref (ga G (3 * j + 14)))] → W p l e (headSpec (w1 yX2_retrace cX2_retrace 4 none) ({ frames := 2, cells := 0, slots := 0, locals := 40 })).room s m [.ref (ga G (3 * j + 14))].toArray below meth c H locs 0 0 (MQ below (QvX G (fun σ9 => RT σ j S σ9)) [.ref (ga G (3 * j + 14))].toArray s 0 0 (aX G)) (F0 m 23 ls []) := by
    intro N9
    induction N9 with
    | zero => intro h pl sm ho σw H locs hN; exact absurd hN (Nat.not_lt_zero _)
    | succ N9 ih =>
      intro h pl sm ho σw H locs hN e_pl e_sm e_ho hi0_23 hW hS hw0_23 ls hl
      subst e_pl
      subst e_sm
      subst e_ho
      have ih_23 := ih
      have hw2 := hw_20 (K := S 0) hv.2.2.1
      have hp1 := hp_12 (S 0)
      have hpl := posN_lt hv h
      have hmd := Nat.mod_le (h + 1) (hpN (S 0))
      have hst := Nat.div_le_self (min h (hwN (S 0) (S 3))) (hpN (S 0))
      refine lv_iload_n hx hb dX2_retrace_23 rfl (lv_at hl 2 rfl) ?_
      refine lv_bipush (v := 30) hx hb dX2_retrace_24 (by decide) ?_
      refine lv_icmp_gt (tgt := 84) hx hb dX2_retrace_26 (by decide) (fun c_26 => ?_) (fun c_26 => ?_)
      · skip
        have q_26 := tN_lt 30 (h + 1) c_26 rfl rfl (by omega) (by omega)
        exact W.vret hx hb hr (fun t9 ht9 hW9 => ⟨⟨σw, rfl, (by have h9 : h = 30 := (by omega); subst h9; exact hw0_23.fin), (by have h8 := hW.1; rw [← ht9] at h8; exact h8)⟩, hS.F ht9⟩) hS.2.2 dX2_retrace_84
      · skip
        have q_26 := tN_nlt 30 (h + 1) c_26 rfl rfl (by omega) (by omega)
        refine lv_iload_n hx hb dX2_retrace_29 rfl (lv_at hl 2 rfl) ?_
        refine lv_aload_n hx hb dX2_retrace_30 rfl (lv_at hl 3 rfl) ?_
        refine cr_i (q := 310) [] hx hb hml hown hG v_X2_hoursOfWalk (by decide +kernel) (c_X2_hoursOfWalk l G σw j hj S hv (hw0_23.gs hg)) (preK hW hj _) rfl hl.1 (Nat.le_of_ble_eq_true rfl) dX2_retrace_31 ⟨rfl, rfl, Nat.le_of_ble_eq_true rfl, Nat.le_of_ble_eq_true rfl⟩ ⟨Nat.le_of_ble_eq_true rfl, Nat.le_of_ble_eq_true rfl⟩ ?_
        refine lv_icmp_gt (tgt := 59) hx hb dX2_retrace_34 (by decide) (fun c_34 => ?_) (fun c_34 => ?_)
        · skip
          have q_34 := tN_lt (hwN (S 0) (S 3)) (h + 1) c_34 rfl rfl (by omega) (by omega)
          refine lv_aload_n hx hb dX2_retrace_59 rfl (lv_at hl 3 rfl) ?_
          refine rd_X2_25 hx hb hown hW hj dX2_retrace_60 ?_
          refine lv_iload_n hx hb dX2_retrace_63 rfl (lv_at hl 2 rfl) ?_
          refine lv_iload_n hx hb dX2_retrace_64 rfl (lv_at hl 0 rfl) ?_
          refine lv_eqi (y := nI (posN S (h + 1))) (by first | exact posN_take q_34 q_43 | exact posN_far q_34 | exact posN_off q_43) ?_
          refine as_trail (k := h + 1) hx hb hW hS hj rfl (by omega) dX2_retrace_65 (fun H locs hW hS => ?_)
          obtain ⟨σ3, hσ3⟩ : ∃ z, z = up2 σw (3 * j + 16) (h + 1) (nI (posN S (h + 1))) := ⟨_, rfl⟩
          rw [← hσ3] at hW
          refine lv_aload_n hx hb dX2_retrace_66 rfl (lv_at hl 3 rfl) ?_
          refine lv_dup hx hb dX2_retrace_67 rfl ?_
          refine rd_X2_28 hx hb hown hW hj dX2_retrace_68 ?_
          refine lv_iconst (v := 1) hx hb dX2_retrace_71 (by decide) ?_
          refine lv_iload_n hx hb dX2_retrace_72 rfl (lv_at hl 0 rfl) ?_
          refine lv_eqi (y := nI (posN S (h + 1))) (by first | exact posN_take q_34 q_43 | exact posN_far q_34 | exact posN_off q_43) ?_
          refine lv_ishl hx hb dX2_retrace_73 ?_
          refine lv_ior hx hb dX2_retrace_74 ?_
          refine wr_X2_28 hx hb hown hW hS hj dX2_retrace_75 (fun H locs hW hS => ?_)
          obtain ⟨σ4, hσ4⟩ : ∃ z, z = up2 σ3 (3 * j + 14) 5 ((σ3 (3 * j + 14) 5) ||| (1 <<< ((nI (posN S (h + 1))) &&& 31))) := ⟨_, rfl⟩
          rw [← hσ4] at hW
          refine lv_iinc (v := nI (h + 1 + 1)) (lv' := [(3, .int (nI (h + 1 + 1))), (1, .int (nI (posN S h))), (2, .int (nI (min h (hwN (S 0) (S 3)) / hpN (S 0)))), (0, .ref (ga G (3 * j + 14)))]) hx hb dX2_retrace_78 hl (k := 2) rfl (inc1 (h + 1)) (by decide) rfl (fun ls hl => ?_)
          refine lv_goto (tgt := 23) hx hb dX2_retrace_81 (by decide) ?_
          exact ih_23 (h + 1) _ _ _ _ _ _ (by omega) (by first | exact posN_take q_34 q_43 | exact posN_far q_34 | exact posN_off q_43) (by first | exact stN_take q_34 q_43 | exact stN_far q_34 | exact stN_off q_43) rfl (by omega) hW hS (by subst hσ4; subst hσ3; exact RTP_s hv hw0_23) ls (lv_sub hl [1, 2, 0, 3] rfl)
        · skip
          have q_34 := tN_nlt (hwN (S 0) (S 3)) (h + 1) c_34 rfl rfl (by omega) (by omega)
          refine lv_iload_n hx hb dX2_retrace_37 rfl (lv_at hl 2 rfl) ?_
          refine lv_aload_n hx hb dX2_retrace_38 rfl (lv_at hl 3 rfl) ?_
          refine cr_i (q := 318) [] hx hb hml hown hG v_X2_hoursPerStep (by decide +kernel) (c_X2_hoursPerStep l G σw j hj S hv (hw0_23.gs hg)) (preK hW hj _) rfl hl.1 (Nat.le_of_ble_eq_true rfl) dX2_retrace_39 ⟨rfl, rfl, Nat.le_of_ble_eq_true rfl, Nat.le_of_ble_eq_true rfl⟩ ⟨Nat.le_of_ble_eq_true rfl, Nat.le_of_ble_eq_true rfl⟩ ?_
          refine ln_rem (h + 1) (hpN (S 0)) hx hb rfl rfl (by omega) (by omega) (by omega) dX2_retrace_42 ?_
          refine lv_if_ne (tgt := 59) hx hb dX2_retrace_43 (by decide) (fun c_43 => ?_) (fun c_43 => ?_)
          · skip
            have q_43 := tN_ne ((h + 1) % (hpN (S 0))) 0 c_43 rfl rfl (by omega) (by omega)
            refine lv_aload_n hx hb dX2_retrace_59 rfl (lv_at hl 3 rfl) ?_
            refine rd_X2_25 hx hb hown hW hj dX2_retrace_60 ?_
            refine lv_iload_n hx hb dX2_retrace_63 rfl (lv_at hl 2 rfl) ?_
            refine lv_iload_n hx hb dX2_retrace_64 rfl (lv_at hl 0 rfl) ?_
            refine lv_eqi (y := nI (posN S (h + 1))) (by first | exact posN_take q_34 q_43 | exact posN_far q_34 | exact posN_off q_43) ?_
            refine as_trail (k := h + 1) hx hb hW hS hj rfl (by omega) dX2_retrace_65 (fun H locs hW hS => ?_)
            obtain ⟨σ5, hσ5⟩ : ∃ z, z = up2 σw (3 * j + 16) (h + 1) (nI (posN S (h + 1))) := ⟨_, rfl⟩
            rw [← hσ5] at hW
            refine lv_aload_n hx hb dX2_retrace_66 rfl (lv_at hl 3 rfl) ?_
            refine lv_dup hx hb dX2_retrace_67 rfl ?_
            refine rd_X2_28 hx hb hown hW hj dX2_retrace_68 ?_
            refine lv_iconst (v := 1) hx hb dX2_retrace_71 (by decide) ?_
            refine lv_iload_n hx hb dX2_retrace_72 rfl (lv_at hl 0 rfl) ?_
            refine lv_eqi (y := nI (posN S (h + 1))) (by first | exact posN_take q_34 q_43 | exact posN_far q_34 | exact posN_off q_43) ?_
            refine lv_ishl hx hb dX2_retrace_73 ?_
            refine lv_ior hx hb dX2_retrace_74 ?_
            refine wr_X2_28 hx hb hown hW hS hj dX2_retrace_75 (fun H locs hW hS => ?_)
            obtain ⟨σ6, hσ6⟩ : ∃ z, z = up2 σ5 (3 * j + 14) 5 ((σ5 (3 * j + 14) 5) ||| (1 <<< ((nI (posN S (h + 1))) &&& 31))) := ⟨_, rfl⟩
            rw [← hσ6] at hW
            refine lv_iinc (v := nI (h + 1 + 1)) (lv' := [(3, .int (nI (h + 1 + 1))), (1, .int (nI (posN S h))), (2, .int (nI (min h (hwN (S 0) (S 3)) / hpN (S 0)))), (0, .ref (ga G (3 * j + 14)))]) hx hb dX2_retrace_78 hl (k := 2) rfl (inc1 (h + 1)) (by decide) rfl (fun ls hl => ?_)
            refine lv_goto (tgt := 23) hx hb dX2_retrace_81 (by decide) ?_
            exact ih_23 (h + 1) _ _ _ _ _ _ (by omega) (by first | exact posN_take q_34 q_43 | exact posN_far q_34 | exact posN_off q_43) (by first | exact stN_take q_34 q_43 | exact stN_far q_34 | exact stN_off q_43) rfl (by omega) hW hS (by subst hσ6; subst hσ5; exact RTP_s hv hw0_23) ls (lv_sub hl [1, 2, 0, 3] rfl)
          · skip
            have q_43 := tN_eq ((h + 1) % (hpN (S 0))) 0 c_43 rfl rfl (by omega) (by omega)
            have h0 : 0 < S 3 := (Nat.eq_zero_or_pos (S 3)).elim (fun z => absurd q_34 (by rw [z, hwN_0]; omega)) id
            refine lv_iload_n hx hb dX2_retrace_46 rfl (lv_at hl 0 rfl) ?_
            refine lv_aload_n hx hb dX2_retrace_47 rfl (lv_at hl 3 rfl) ?_
            refine lv_iload_n hx hb dX2_retrace_48 rfl (lv_at hl 1 rfl) ?_
            refine cr_i (q := 322) [.int (nI (min h (hwN (S 0) (S 3)) / hpN (S 0)))] hx hb hml hown hG v_X2_directionOf (by decide +kernel) (c_X2_directionOf l G σw j hj S hv (hw0_23.gs hg) (min h (hwN (S 0) (S 3)) / hpN (S 0)) h0 (by omega)) (preK hW hj _) rfl hl.1 (Nat.le_of_ble_eq_true rfl) dX2_retrace_49 ⟨rfl, rfl, Nat.le_of_ble_eq_true rfl, Nat.le_of_ble_eq_true rfl⟩ ⟨Nat.le_of_ble_eq_true rfl, Nat.le_of_ble_eq_true rfl⟩ ?_
            refine cn_i [.int (nI (posN S h)), .int (nI (dirN S (min h (hwN (S 0) (S 3)) / hpN (S 0))))] hx hb hml hown hG v_X3_stepFrom (hW.2.2.2.2.use 17 rfl) (c_X3_stepFrom l (posN S h) (dirN S (min h (hwN (S 0) (S 3)) / hpN (S 0))) hpl (dirN_lt hv h0 _)) (preT _) rfl hl.1 (Nat.le_of_ble_eq_true rfl) dX2_retrace_52 ⟨rfl, rfl, Nat.le_of_ble_eq_true rfl, Nat.le_of_ble_eq_true rfl⟩ ⟨Nat.le_of_ble_eq_true rfl, Nat.le_of_ble_eq_true rfl⟩ ?_
            refine lv_istore_n (lv' := [(1, .int (nI (stepN (posN S h) (dirN S (min h (hwN (S 0) (S 3)) / hpN (S 0)))))), (2, .int (nI (min h (hwN (S 0) (S 3)) / hpN (S 0)))), (3, .int (nI (h + 1))), (0, .ref (ga G (3 * j + 14)))]) hx hb dX2_retrace_55 rfl hl (by decide) rfl (fun ls hl => ?_)
            refine lv_iinc (v := nI (min h (hwN (S 0) (S 3)) / hpN (S 0) + 1)) (lv' := [(2, .int (nI (min h (hwN (S 0) (S 3)) / hpN (S 0) + 1))), (1, .int (nI (stepN (posN S h) (dirN S (min h (hwN (S 0) (S 3)) / hpN (S 0)))))), (3, .int (nI (h + 1))), (0, .ref (ga G (3 * j + 14)))]) hx hb dX2_retrace_56 hl (k := 1) rfl (inc1 (min h (hwN (S 0) (S 3)) / hpN (S 0))) (by decide) rfl (fun ls hl => ?_)
            refine lv_aload_n hx hb dX2_retrace_59 rfl (lv_at hl 3 rfl) ?_
            refine rd_X2_25 hx hb hown hW hj dX2_retrace_60 ?_
            refine lv_iload_n hx hb dX2_retrace_63 rfl (lv_at hl 2 rfl) ?_
            refine lv_iload_n hx hb dX2_retrace_64 rfl (lv_at hl 1 rfl) ?_
            refine lv_eqi (y := nI (posN S (h + 1))) (by first | exact posN_take q_34 q_43 | exact posN_far q_34 | exact posN_off q_43) ?_
            refine as_trail (k := h + 1) hx hb hW hS hj rfl (by omega) dX2_retrace_65 (fun H locs hW hS => ?_)
            obtain ⟨σ7, hσ7⟩ : ∃ z, z = up2 σw (3 * j + 16) (h + 1) (nI (posN S (h + 1))) := ⟨_, rfl⟩
            rw [← hσ7] at hW
            refine lv_aload_n hx hb dX2_retrace_66 rfl (lv_at hl 3 rfl) ?_
            refine lv_dup hx hb dX2_retrace_67 rfl ?_
            refine rd_X2_28 hx hb hown hW hj dX2_retrace_68 ?_
            refine lv_iconst (v := 1) hx hb dX2_retrace_71 (by decide) ?_
            refine lv_iload_n hx hb dX2_retrace_72 rfl (lv_at hl 1 rfl) ?_
            refine lv_eqi (y := nI (posN S (h + 1))) (by first | exact posN_take q_34 q_43 | exact posN_far q_34 | exact posN_off q_43) ?_
            refine lv_ishl hx hb dX2_retrace_73 ?_
            refine lv_ior hx hb dX2_retrace_74 ?_
            refine wr_X2_28 hx hb hown hW hS hj dX2_retrace_75 (fun H locs hW hS => ?_)
            obtain ⟨σ8, hσ8⟩ : ∃ z, z = up2 σ7 (3 * j + 14) 5 ((σ7 (3 * j + 14) 5) ||| (1 <<< ((nI (posN S (h + 1))) &&& 31))) := ⟨_, rfl⟩
            rw [← hσ8] at hW
            refine lv_iinc (v := nI (h + 1 + 1)) (lv' := [(3, .int (nI (h + 1 + 1))), (2, .int (nI (min h (hwN (S 0) (S 3)) / hpN (S 0) + 1))), (1, .int (nI (stepN (posN S h) (dirN S (min h (hwN (S 0) (S 3)) / hpN (S 0)))))), (0, .ref (ga G (3 * j + 14)))]) hx hb dX2_retrace_78 hl (k := 2) rfl (inc1 (h + 1)) (by decide) rfl (fun ls hl => ?_)
            refine lv_goto (tgt := 23) hx hb dX2_retrace_81 (by decide) ?_
            exact ih_23 (h + 1) _ _ _ _ _ _ (by omega) (by first | exact posN_take q_34 q_43 | exact posN_far q_34 | exact posN_off q_43) (by first | exact stN_take q_34 q_43 | exact stN_far q_34 | exact stN_off q_43) rfl (by omega) hW hS (by subst hσ8; subst hσ7; exact RTP_s hv hw0_23) ls (lv_sub hl [2, 1, 0, 3] rfl)
  exact loop_23 _ 0 _ _ _ _ _ _ (Nat.lt_succ_self _) rfl (by simp; rfl) rfl (by omega) hW hS (by subst hσ2; subst hσ1; exact RTP_0 hv.2.1) ls (lv_sub hl [2, 1, 0, 3] rfl)
set_option maxHeartbeats 4000000 in
set_option maxRecDepth 100000 in
theorem c_X2_stepOrNone (l : Launch) (G : Gam) (σ : St) (j : Nat) (hj : j < 12) (S : Sk) (hv : VS S) (hg : GS σ j S) (n : Nat) (hn : n < 100) : Met l yX2_stepOrNone (w1 yX2_stepOrNone cX2_stepOrNone 2 (some .int)) ({ frames := 0, cells := 0, slots := 0, locals := 0 }) (PcX G σ [.ref (ga G (3 * j + 14)), .int (nI n)]) (vp_Si (fun r => r = (if n < S 3 then nI (S (4 + n)) else -1))) 0 0 (fun _ => False) := by
  refine met_of [.ref (ga G (3 * j + 14)), .int (nI n)] [(0, .ref (ga G (3 * j + 14))), (1, .int (nI n))] (by decide) (Nat.le_of_ble_eq_true rfl) rfl ?_
  intro p e s m below meth c hx hb hr hown hml hlocks hW ls hl
  have hG : GW s := hW.2.2.2.1
  have hv0 := hv.1
  have hv1 := hv.2.1
  have hv3 := hv.2.2.1
  refine lv_iload_n hx hb dX2_stepOrNone_0 rfl (lv_at hl 1 rfl) ?_
  refine lv_if_lt (tgt := 21) hx hb dX2_stepOrNone_1 (by decide) (fun c_1 => ?_) (fun c_1 => ?_)
  · skip
    exact absurd c_1 (nI_pos (by omega))
  · skip
    have q_1 := tN_nlt n 0 c_1 rfl rfl (by omega) (by omega)
    refine lv_iload_n hx hb dX2_stepOrNone_4 rfl (lv_at hl 1 rfl) ?_
    refine lv_aload_n hx hb dX2_stepOrNone_5 rfl (lv_at hl 0 rfl) ?_
    refine rd_X2_18 hx hb hown hW hj dX2_stepOrNone_6 ?_
    refine lv_eqi (y := nI (S 3)) hg.2.2.1 ?_
    refine lv_icmp_ge (tgt := 21) hx hb dX2_stepOrNone_9 (by decide) (fun c_9 => ?_) (fun c_9 => ?_)
    · skip
      have q_9 := tN_le (S 3) n c_9 rfl rfl (by omega) (by omega)
      refine lv_iconst (v := (-1)) hx hb dX2_stepOrNone_21 (by decide) ?_
      exact W.iret (v := (-1)) hx hb hr (fun t9 ht9 hW9 => ⟨_, rfl, by first | exact (if_pos (by omega)).symm | exact (if_neg (by omega)).symm, ht9⟩) (fun q h => by cases h) dX2_stepOrNone_22
    · skip
      have q_9 := tN_nle (S 3) n c_9 rfl rfl (by omega) (by omega)
      refine lv_aload_n hx hb dX2_stepOrNone_12 rfl (lv_at hl 0 rfl) ?_
      refine rd_X2_21 hx hb hown hW hj dX2_stepOrNone_13 ?_
      refine lv_iload_n hx hb dX2_stepOrNone_16 rfl (lv_at hl 1 rfl) ?_
      refine al_way (k := n) hx hb hW hj rfl (by omega) dX2_stepOrNone_17 ?_
      refine lv_eqi (y := nI (S (4 + n))) (hg.2.2.2 n (by omega)) ?_
      refine lv_goto (tgt := 22) hx hb dX2_stepOrNone_18 (by decide) ?_
      exact W.iret (v := nI (S (4 + n))) hx hb hr (fun t9 ht9 hW9 => ⟨_, rfl, by first | exact (if_pos (by omega)).symm | exact (if_neg (by omega)).symm, ht9⟩) (fun q h => by cases h) dX2_stepOrNone_22
set_option maxHeartbeats 4000000 in
set_option maxRecDepth 100000 in
theorem c_X2_isOfKind (l : Launch) (G : Gam) (σ : St) (j : Nat) (hj : j < 12) (S : Sk) (hv : VS S) (hg : GS σ j S) (k : Nat) (hk : k < 5) : Met l yX2_isOfKind (w1 yX2_isOfKind cX2_isOfKind 2 (some .boolean)) ({ frames := 0, cells := 0, slots := 0, locals := 0 }) (PcX G σ [.ref (ga G (3 * j + 14)), .int (nI k)]) (vp_Si (fun r => r = bI (isK (S 0) k))) 0 0 (fun _ => False) := by
  refine met_of [.ref (ga G (3 * j + 14)), .int (nI k)] [(0, .ref (ga G (3 * j + 14))), (1, .int (nI k))] (by decide) (Nat.le_of_ble_eq_true rfl) rfl ?_
  intro p e s m below meth c hx hb hr hown hml hlocks hW ls hl
  have hG : GW s := hW.2.2.2.1
  have hv0 := hv.1
  have hv1 := hv.2.1
  have hv3 := hv.2.2.1
  refine lv_iload_n hx hb dX2_isOfKind_0 rfl (lv_at hl 1 rfl) ?_
  refine lv_if_eq (tgt := 25) hx hb dX2_isOfKind_1 (by decide) (fun c_1 => ?_) (fun c_1 => ?_)
  · skip
    have q_1 := tN_eq k 0 c_1 rfl rfl (by omega) (by omega)
    refine lv_iconst (v := 1) hx hb dX2_isOfKind_25 (by decide) ?_
    refine lv_goto (tgt := 30) hx hb dX2_isOfKind_26 (by decide) ?_
    exact W.zret (v := 1) (ty := .boolean) hx hb hr rfl (fun t9 ht9 hW9 => ⟨_, rfl, by simp_all [isK, bI], ht9⟩) (fun q h => by cases h) dX2_isOfKind_30
  · skip
    have q_1 := tN_ne k 0 c_1 rfl rfl (by omega) (by omega)
    refine lv_iload_n hx hb dX2_isOfKind_4 rfl (lv_at hl 1 rfl) ?_
    refine lv_aload_n hx hb dX2_isOfKind_5 rfl (lv_at hl 0 rfl) ?_
    refine rd_X2_9 hx hb hown hW hj dX2_isOfKind_6 ?_
    refine lv_eqi (y := nI (S 0)) hg.1 ?_
    refine lv_icmp_eq (tgt := 25) hx hb dX2_isOfKind_9 (by decide) (fun c_9 => ?_) (fun c_9 => ?_)
    · skip
      have q_9 := tN_eq k (S 0) c_9 rfl rfl (by omega) (by omega)
      refine lv_iconst (v := 1) hx hb dX2_isOfKind_25 (by decide) ?_
      refine lv_goto (tgt := 30) hx hb dX2_isOfKind_26 (by decide) ?_
      exact W.zret (v := 1) (ty := .boolean) hx hb hr rfl (fun t9 ht9 hW9 => ⟨_, rfl, by simp_all [isK, bI], ht9⟩) (fun q h => by cases h) dX2_isOfKind_30
    · skip
      have q_9 := tN_ne k (S 0) c_9 rfl rfl (by omega) (by omega)
      refine lv_iload_n hx hb dX2_isOfKind_12 rfl (lv_at hl 1 rfl) ?_
      refine lv_iconst (v := 1) hx hb dX2_isOfKind_13 (by decide) ?_
      refine lv_icmp_ne (tgt := 29) hx hb dX2_isOfKind_14 (by decide) (fun c_14 => ?_) (fun c_14 => ?_)
      · skip
        have q_14 := tN_ne k 1 c_14 rfl rfl (by omega) (by omega)
        refine lv_iconst (v := 0) hx hb dX2_isOfKind_29 (by decide) ?_
        exact W.zret (v := 0) (ty := .boolean) hx hb hr rfl (fun t9 ht9 hW9 => ⟨_, rfl, by simp_all [isK, bI], ht9⟩) (fun q h => by cases h) dX2_isOfKind_30
      · skip
        have q_14 := tN_eq k 1 c_14 rfl rfl (by omega) (by omega)
        refine lv_aload_n hx hb dX2_isOfKind_17 rfl (lv_at hl 0 rfl) ?_
        refine rd_X2_9 hx hb hown hW hj dX2_isOfKind_18 ?_
        refine lv_eqi (y := nI (S 0)) hg.1 ?_
        refine lv_iconst (v := 4) hx hb dX2_isOfKind_21 (by decide) ?_
        refine lv_icmp_ne (tgt := 29) hx hb dX2_isOfKind_22 (by decide) (fun c_22 => ?_) (fun c_22 => ?_)
        · skip
          have q_22 := tN_ne (S 0) 4 c_22 rfl rfl (by omega) (by omega)
          refine lv_iconst (v := 0) hx hb dX2_isOfKind_29 (by decide) ?_
          exact W.zret (v := 0) (ty := .boolean) hx hb hr rfl (fun t9 ht9 hW9 => ⟨_, rfl, by simp_all [isK, bI], ht9⟩) (fun q h => by cases h) dX2_isOfKind_30
        · skip
          have q_22 := tN_eq (S 0) 4 c_22 rfl rfl (by omega) (by omega)
          refine lv_iconst (v := 1) hx hb dX2_isOfKind_25 (by decide) ?_
          refine lv_goto (tgt := 30) hx hb dX2_isOfKind_26 (by decide) ?_
          exact W.zret (v := 1) (ty := .boolean) hx hb hr rfl (fun t9 ht9 hW9 => ⟨_, rfl, by simp_all [isK, bI], ht9⟩) (fun q h => by cases h) dX2_isOfKind_30
