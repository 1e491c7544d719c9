theorem stI_far {S : Sk} {h : Nat} (q : hwN (S 0) (S 3) < h) : stI S h = -1 := if_neg (fun z => by omega)
theorem stI_l1 {S : Sk} {h : Nat} (hK : S 0 = 2) (q : h % 2 = 1) : stI S h = -1 := if_neg (fun z => by
  have h2 := z.2
  rw [hK, show hpN 2 = 2 from rfl] at h2; omega)
theorem stI_l2 {S : Sk} {h : Nat} (hK : S 0 = 2) (q1 : h ≤ hwN (S 0) (S 3)) (q : h % 2 ≠ 1) (h0 : h / 2 - 1 < S 3) : nI (S (4 + (h / 2 - 1))) = stI S h := by
  have e : hpN (S 0) = 2 := by rw [hK]; rfl
  unfold stI
  rw [if_pos ⟨q1, by rw [e]; omega⟩, e, dir_lame hK h0]
theorem hp_1 {K : Nat} (h : K ≠ 2) : hpN K = 1 := if_neg h
theorem stI_b {S : Sk} {h : Nat} (hK : S 0 ≠ 2) (q1 : h ≤ hwN (S 0) (S 3)) (h0 : 0 < S 3) (hb : S 3 ≤ (h - 1) % (2 * S 3)) : nI ((S (4 + (2 * S 3 - 1 - (h - 1) % (2 * S 3))) + 2) % 4) = stI S h := by
  unfold stI
  rw [if_pos ⟨q1, by rw [hp_1 hK]; exact Nat.mod_one h⟩, hp_1 hK, Nat.div_one, dir_back h0 hb]
theorem stI_f3 {S : Sk} {h : Nat} (hK : S 0 = 3) (q1 : h ≤ hwN (S 0) (S 3)) (h0 : 0 < S 3) (hb : (h - 1) % (2 * S 3) < S 3) : nI ((S (4 + (h - 1) % (2 * S 3)) + 2) % 4) = stI S h := by
  have hK2 : S 0 ≠ 2 := by omega
  unfold stI
  rw [if_pos ⟨q1, by rw [hp_1 hK2]; exact Nat.mod_one h⟩, hp_1 hK2, Nat.div_one, dir_forth h0 hb, if_pos hK]
theorem stI_f {S : Sk} {h : Nat} (hK2 : S 0 ≠ 2) (hK : S 0 ≠ 3) (q1 : h ≤ hwN (S 0) (S 3)) (h0 : 0 < S 3) (hb : (h - 1) % (2 * S 3) < S 3) : nI (S (4 + (h - 1) % (2 * S 3))) = stI S h := by
  unfold stI
  rw [if_pos ⟨q1, by rw [hp_1 hK2]; exact Nat.mod_one h⟩, hp_1 hK2, Nat.div_one, dir_forth h0 hb, if_neg hK]
/-- the reference holds n sticks S, q sights V, ch changes -/
def RM (μ : St) (n : Nat) (S : Nat → Sk) (q : Nat) (V : Nat → Nat) (ch : Int32) : Prop :=
  (μ 0 5 = nI n ∧ n ≤ 6) ∧ μ 0 6 = ch ∧ (μ 0 10 = nI q ∧ q ≤ 8) ∧ (∀ k, k < n → VS (S k) ∧ 1 ≤ S k 3 ∧ S k 2 ≤ 9 ∧ RR μ k (S k)) ∧
  ∀ i, i < q → μ 5 (2 * i) = nI (V (2 * i)) ∧ μ 5 (2 * i + 1) = nI (V (2 * i + 1)) ∧ V (2 * i) < 16 ∧ V (2 * i + 1) ≤ 30
theorem hw_4 {K C : Nat} (h : K = 4) : hwN K C = 4 * C := by subst h; unfold hwN swN hpN; simp
theorem hw_1 {K C : Nat} (h : K = 1) : hwN K C = 2 * C := by subst h; unfold hwN swN hpN; simp
theorem hw_2 {K C : Nat} (h : K = 2) : hwN K C = 2 * C := by subst h; unfold hwN swN hpN; simp; omega
theorem hw_o {K C : Nat} (h4 : K ≠ 4) (h1 : K ≠ 1) (h2 : K ≠ 2) : hwN K C = C := by unfold hwN swN hpN; simp [h4, h1, h2]
set_option maxHeartbeats 4000000 in
set_option maxRecDepth 100000 in
theorem c_X4_lacks (l : Launch) (G : Gam) (μ : St) (hs : Int64) (n : Nat) (S : Nat → Sk) (q : Nat) (V : Nat → Nat) (ch : Int32) (hg : RM μ n S q V ch) : Met l yX4_lacks (w1 yX4_lacks cX4_lacks 1 (some .boolean)) ({ frames := 0, cells := 0, slots := 0, locals := 0 }) (PcM G μ hs [.ref (gm G 0)]) (vp_Si (fun r => r = bI (decide (n = 0)))) 0 0 (fun _ => False) := by
  refine met_of [.ref (gm G 0)] [(0, .ref (gm G 0))] (by decide) (Nat.le_of_ble_eq_true rfl) rfl ?_
  intro p e s m below meth c hx hb hr hown hml hlocks hW ls hl
  have hG : GW s := hW.2.2.2
  have hn6 := hg.1.2
  have hq8 := hg.2.2.1.2
  refine lv_aload_n hx hb dX4_lacks_0 rfl (lv_at hl 0 rfl) ?_
  refine rd_X4_75 hx hb hown hW dX4_lacks_1 ?_
  refine lv_eqi (y := nI n) hg.1.1 ?_
  refine lv_if_ne (tgt := 11) hx hb dX4_lacks_4 (by decide) (fun c_4 => ?_) (fun c_4 => ?_)
  · skip
    have q_4 := tN_ne n 0 c_4 rfl rfl (by omega) (by omega)
    refine lv_iconst (v := 0) hx hb dX4_lacks_11 (by decide) ?_
    exact W.zret (v := 0) (ty := .boolean) hx hb hr rfl (fun t9 ht9 hW9 => ⟨_, rfl, (by rw [decide_eq_false q_4]; rfl), ht9⟩) (fun q h => by cases h) dX4_lacks_12
  · skip
    have q_4 := tN_eq n 0 c_4 rfl rfl (by omega) (by omega)
    refine lv_iconst (v := 1) hx hb dX4_lacks_7 (by decide) ?_
    refine lv_goto (tgt := 12) hx hb dX4_lacks_8 (by decide) ?_
    exact W.zret (v := 1) (ty := .boolean) hx hb hr rfl (fun t9 ht9 hW9 => ⟨_, rfl, (by rw [decide_eq_true q_4]; rfl), ht9⟩) (fun q h => by cases h) dX4_lacks_12
set_option maxHeartbeats 4000000 in
set_option maxRecDepth 100000 in
theorem c_X4_isStick (l : Launch) (G : Gam) (μ : St) (hs : Int64) (n : Nat) (S : Nat → Sk) (q : Nat) (V : Nat → Nat) (ch : Int32) (hg : RM μ n S q V ch) (x : Int32) : Met l yX4_isStick (w1 yX4_isStick cX4_isStick 2 (some .boolean)) ({ frames := 1, cells := 0, slots := 0, locals := 25 }) (PcM G μ hs [.ref (gm G 0), .int x]) (vp_Si (fun r => r = bI (hasB x n))) 0 0 (fun _ => False) := by
  refine met_of [.ref (gm G 0), .int x] [(0, .ref (gm G 0)), (1, .int x)] (by decide) (Nat.le_of_ble_eq_true rfl) rfl ?_
  intro p e s m below meth c hx hb hr hown hml hlocks hW ls hl
  have hG : GW s := hW.2.2.2
  have hn6 := hg.1.2
  have hq8 := hg.2.2.1.2
  refine lv_iload_n hx hb dX4_isStick_0 rfl (lv_at hl 1 rfl) ?_
  refine lv_i2l hx hb dX4_isStick_1 rfl ?_
  refine lv_lconst (v := 0) hx hb dX4_isStick_2 rfl ?_
  refine lv_aload_n hx hb dX4_isStick_3 rfl (lv_at hl 0 rfl) ?_
  refine rd_X4_75 hx hb hown hW dX4_isStick_4 ?_
  refine lv_eqi (y := nI n) hg.1.1 ?_
  refine lv_iconst (v := 1) hx hb dX4_isStick_7 (by decide) ?_
  refine lv_isub hx hb dX4_isStick_8 ?_
  refine lv_i2l hx hb dX4_isStick_9 rfl ?_
  refine cs_i (q := 641) [.long ((x : Int32).toInt64), .long 0, .long (((nI n) - 1 : Int32).toInt64)] hx hb hml hown hG v_X4_in (by decide +kernel) (c_X4_in l ((x : Int32).toInt64) (0) (((nI n) - 1 : Int32).toInt64)) (preT _) rfl hl.1 (Nat.le_of_ble_eq_true rfl) dX4_isStick_10 ⟨rfl, rfl, Nat.le_of_ble_eq_true rfl, Nat.le_of_ble_eq_true rfl⟩ ⟨Nat.le_of_ble_eq_true rfl, Nat.le_of_ble_eq_true rfl⟩ ?_
  refine lv_eqi (y := bI (hasB x n)) (by rw [inL_s x n (by omega)]) ?_
  exact W.zret (v := bI (hasB x n)) (ty := .boolean) hx hb hr (bI_n _) (fun t9 ht9 hW9 => ⟨_, rfl, rfl, ht9⟩) (fun q h => by cases h) dX4_isStick_13
set_option maxHeartbeats 4000000 in
set_option maxRecDepth 100000 in
theorem c_X4_areTwo (l : Launch) (G : Gam) (μ : St) (hs : Int64) (n : Nat) (S : Nat → Sk) (q : Nat) (V : Nat → Nat) (ch : Int32) (hg : RM μ n S q V ch) (x y : Int32) : Met l yX4_areTwo (w1 yX4_areTwo cX4_areTwo 3 (some .boolean)) ({ frames := 2, cells := 0, slots := 0, locals := 46 }) (PcM G μ hs [.ref (gm G 0), .int x, .int y]) (vp_Si (fun r => r = bI (hasB x n && (hasB y n && decide (¬ x = y))))) 0 0 (fun _ => False) := by
  refine met_of [.ref (gm G 0), .int x, .int y] [(0, .ref (gm G 0)), (1, .int x), (2, .int y)] (by decide) (Nat.le_of_ble_eq_true rfl) rfl ?_
  intro p e s m below meth c hx hb hr hown hml hlocks hW ls hl
  have hG : GW s := hW.2.2.2
  have hn6 := hg.1.2
  have hq8 := hg.2.2.1.2
  refine lv_aload_n hx hb dX4_areTwo_0 rfl (lv_at hl 0 rfl) ?_
  refine lv_iload_n hx hb dX4_areTwo_1 rfl (lv_at hl 1 rfl) ?_
  refine cr_i (q := 676) [.int x] hx hb hml hown hG v_X4_isStick (by decide +kernel) (c_X4_isStick l G μ hs n S q V ch hg x) (preM hW _) rfl hl.1 (Nat.le_of_ble_eq_true rfl) dX4_areTwo_2 ⟨rfl, rfl, Nat.le_of_ble_eq_true rfl, Nat.le_of_ble_eq_true rfl⟩ ⟨Nat.le_of_ble_eq_true rfl, Nat.le_of_ble_eq_true rfl⟩ ?_
  refine lv_if_eq (tgt := 25) hx hb dX4_areTwo_5 (by decide) (fun c_5 => ?_) (fun c_5 => ?_)
  · skip
    have b_5 := bI_0 c_5
    refine lv_iconst (v := 0) hx hb dX4_areTwo_25 (by decide) ?_
    exact W.zret (v := 0) (ty := .boolean) hx hb hr rfl (fun t9 ht9 hW9 => ⟨_, rfl, by simp_all [bI], ht9⟩) (fun q h => by cases h) dX4_areTwo_26
  · skip
    have b_5 := bI_1 c_5
    refine lv_aload_n hx hb dX4_areTwo_8 rfl (lv_at hl 0 rfl) ?_
    refine lv_iload_n hx hb dX4_areTwo_9 rfl (lv_at hl 2 rfl) ?_
    refine cr_i (q := 676) [.int y] hx hb hml hown hG v_X4_isStick (by decide +kernel) (c_X4_isStick l G μ hs n S q V ch hg y) (preM hW _) rfl hl.1 (Nat.le_of_ble_eq_true rfl) dX4_areTwo_10 ⟨rfl, rfl, Nat.le_of_ble_eq_true rfl, Nat.le_of_ble_eq_true rfl⟩ ⟨Nat.le_of_ble_eq_true rfl, Nat.le_of_ble_eq_true rfl⟩ ?_
    refine lv_if_eq (tgt := 25) hx hb dX4_areTwo_13 (by decide) (fun c_13 => ?_) (fun c_13 => ?_)
    · skip
      have b_13 := bI_0 c_13
      refine lv_iconst (v := 0) hx hb dX4_areTwo_25 (by decide) ?_
      exact W.zret (v := 0) (ty := .boolean) hx hb hr rfl (fun t9 ht9 hW9 => ⟨_, rfl, by simp_all [bI], ht9⟩) (fun q h => by cases h) dX4_areTwo_26
    · skip
      have b_13 := bI_1 c_13
      refine lv_iload_n hx hb dX4_areTwo_16 rfl (lv_at hl 1 rfl) ?_
      refine lv_iload_n hx hb dX4_areTwo_17 rfl (lv_at hl 2 rfl) ?_
      refine lv_icmp_eq (tgt := 25) hx hb dX4_areTwo_18 (by decide) (fun c_18 => ?_) (fun c_18 => ?_)
      · skip
        refine lv_iconst (v := 0) hx hb dX4_areTwo_25 (by decide) ?_
        exact W.zret (v := 0) (ty := .boolean) hx hb hr rfl (fun t9 ht9 hW9 => ⟨_, rfl, by simp_all [bI], ht9⟩) (fun q h => by cases h) dX4_areTwo_26
      · skip
        refine lv_iconst (v := 1) hx hb dX4_areTwo_21 (by decide) ?_
        refine lv_goto (tgt := 26) hx hb dX4_areTwo_22 (by decide) ?_
        exact W.zret (v := 1) (ty := .boolean) hx hb hr rfl (fun t9 ht9 hW9 => ⟨_, rfl, by simp_all [bI], ht9⟩) (fun q h => by cases h) dX4_areTwo_26
set_option maxHeartbeats 4000000 in
set_option maxRecDepth 100000 in
theorem c_X4_hoursOf (l : Launch) (G : Gam) (μ : St) (hs : Int64) (n : Nat) (S : Nat → Sk) (q : Nat) (V : Nat → Nat) (ch : Int32) (hg : RM μ n S q V ch) (k : Nat) (hk : k < n) : Met l yX4_hoursOf (w1 yX4_hoursOf cX4_hoursOf 4 (some .int)) ({ frames := 0, cells := 0, slots := 0, locals := 0 }) (PcM G μ hs [.ref (gm G 0), .int (nI k)]) (vp_Si (fun r => r = nI (hwN (S k 0) (S k 3)))) 0 0 (fun _ => False) := by
  refine met_of [.ref (gm G 0), .int (nI k)] [(0, .ref (gm G 0)), (1, .int (nI k))] (by decide) (Nat.le_of_ble_eq_true rfl) rfl ?_
  intro p e s m below meth c hx hb hr hown hml hlocks hW ls hl
  have hG : GW s := hW.2.2.2
  have hn6 := hg.1.2
  have hq8 := hg.2.2.1.2
  have hv9 := (hg.2.2.2.1 k hk).1
  have hv0 := hv9.1
  have hv1 := hv9.2.1
  have hv3 := hv9.2.2.1
  have hc1 := (hg.2.2.2.1 k hk).2.1
  have hl9 := (hg.2.2.2.1 k hk).2.2.1
  refine lv_aload_n hx hb dX4_hoursOf_0 rfl (lv_at hl 0 rfl) ?_
  refine rd_X4_16 hx hb hown hW dX4_hoursOf_1 ?_
  refine lv_bipush (v := 9) hx hb dX4_hoursOf_4 (by decide) ?_
  refine lv_iload_n hx hb dX4_hoursOf_6 rfl (lv_at hl 1 rfl) ?_
  refine ln_mul 9 k hx hb rfl rfl dX4_hoursOf_7 ?_
  refine al_M (k := 9 * k) 3 hx hb hW rfl (show _ < 54 by omega) dX4_hoursOf_8 ?_
  refine lv_eqi (y := nI (S k 0)) (hg.2.2.2.1 k (by omega)).2.2.2.1 ?_
  refine lv_istore_n (lv' := [(2, .int (nI (S k 0))), (0, .ref (gm G 0)), (1, .int (nI k))]) hx hb dX4_hoursOf_9 rfl hl (by decide) rfl (fun ls hl => ?_)
  refine lv_aload_n hx hb dX4_hoursOf_10 rfl (lv_at hl 1 rfl) ?_
  refine rd_X4_16 hx hb hown hW dX4_hoursOf_11 ?_
  refine lv_bipush (v := 9) hx hb dX4_hoursOf_14 (by decide) ?_
  refine lv_iload_n hx hb dX4_hoursOf_16 rfl (lv_at hl 2 rfl) ?_
  refine ln_mul 9 k hx hb rfl rfl dX4_hoursOf_17 ?_
  refine lv_iconst (v := 3) hx hb dX4_hoursOf_18 (by decide) ?_
  refine ln_add (9 * k) 3 hx hb rfl rfl dX4_hoursOf_19 ?_
  refine al_M (k := (9 * k) + 3) 3 hx hb hW rfl (show _ < 54 by omega) dX4_hoursOf_20 ?_
  refine lv_eqi (y := nI (S k 3)) (hg.2.2.2.1 k (by omega)).2.2.2.2.2.2.1 ?_
  refine lv_istore_n (lv' := [(3, .int (nI (S k 3))), (2, .int (nI (S k 0))), (0, .ref (gm G 0)), (1, .int (nI k))]) hx hb dX4_hoursOf_21 rfl hl (by decide) rfl (fun ls hl => ?_)
  refine lv_iload_n hx hb dX4_hoursOf_22 rfl (lv_at hl 1 rfl) ?_
  refine lv_iconst (v := 4) hx hb dX4_hoursOf_23 (by decide) ?_
  refine lv_icmp_ne (tgt := 33) hx hb dX4_hoursOf_24 (by decide) (fun c_24 => ?_) (fun c_24 => ?_)
  · skip
    have q_24 := tN_ne (S k 0) 4 c_24 rfl rfl (by omega) (by omega)
    refine lv_iload_n hx hb dX4_hoursOf_33 rfl (lv_at hl 1 rfl) ?_
    refine lv_iconst (v := 1) hx hb dX4_hoursOf_34 (by decide) ?_
    refine lv_icmp_eq (tgt := 43) hx hb dX4_hoursOf_35 (by decide) (fun c_35 => ?_) (fun c_35 => ?_)
    · skip
      have q_35 := tN_eq (S k 0) 1 c_35 rfl rfl (by omega) (by omega)
      refine lv_iconst (v := 2) hx hb dX4_hoursOf_43 (by decide) ?_
      refine lv_iload_n hx hb dX4_hoursOf_44 rfl (lv_at hl 0 rfl) ?_
      refine ln_mul 2 (S k 3) hx hb rfl rfl dX4_hoursOf_45 ?_
      refine lv_goto (tgt := 50) hx hb dX4_hoursOf_46 (by decide) ?_
      exact W.iret (v := nI (2 * (S k 3))) hx hb hr (fun t9 ht9 hW9 => ⟨_, rfl, (congrArg nI (hw_1 q_35).symm), ht9⟩) (fun q h => by cases h) dX4_hoursOf_50
    · skip
      have q_35 := tN_ne (S k 0) 1 c_35 rfl rfl (by omega) (by omega)
      refine lv_iload_n hx hb dX4_hoursOf_38 rfl (lv_at hl 1 rfl) ?_
      refine lv_iconst (v := 2) hx hb dX4_hoursOf_39 (by decide) ?_
      refine lv_icmp_ne (tgt := 49) hx hb dX4_hoursOf_40 (by decide) (fun c_40 => ?_) (fun c_40 => ?_)
      · skip
        have q_40 := tN_ne (S k 0) 2 c_40 rfl rfl (by omega) (by omega)
        refine lv_iload_n hx hb dX4_hoursOf_49 rfl (lv_at hl 0 rfl) ?_
        exact W.iret (v := nI (S k 3)) hx hb hr (fun t9 ht9 hW9 => ⟨_, rfl, (congrArg nI (hw_o q_24 q_35 q_40).symm), ht9⟩) (fun q h => by cases h) dX4_hoursOf_50
      · skip
        have q_40 := tN_eq (S k 0) 2 c_40 rfl rfl (by omega) (by omega)
        refine lv_iconst (v := 2) hx hb dX4_hoursOf_43 (by decide) ?_
        refine lv_iload_n hx hb dX4_hoursOf_44 rfl (lv_at hl 0 rfl) ?_
        refine ln_mul 2 (S k 3) hx hb rfl rfl dX4_hoursOf_45 ?_
        refine lv_goto (tgt := 50) hx hb dX4_hoursOf_46 (by decide) ?_
        exact W.iret (v := nI (2 * (S k 3))) hx hb hr (fun t9 ht9 hW9 => ⟨_, rfl, (congrArg nI (hw_2 q_40).symm), ht9⟩) (fun q h => by cases h) dX4_hoursOf_50
  · skip
    have q_24 := tN_eq (S k 0) 4 c_24 rfl rfl (by omega) (by omega)
    refine lv_iconst (v := 4) hx hb dX4_hoursOf_27 (by decide) ?_
    refine lv_iload_n hx hb dX4_hoursOf_28 rfl (lv_at hl 0 rfl) ?_
    refine ln_mul 4 (S k 3) hx hb rfl rfl dX4_hoursOf_29 ?_
    refine lv_goto (tgt := 50) hx hb dX4_hoursOf_30 (by decide) ?_
    exact W.iret (v := nI (4 * (S k 3))) hx hb hr (fun t9 ht9 hW9 => ⟨_, rfl, (congrArg nI (hw_4 q_24).symm), ht9⟩) (fun q h => by cases h) dX4_hoursOf_50
set_option maxHeartbeats 4000000 in
set_option maxRecDepth 100000 in
theorem c_X4_stepIn (l : Launch) (G : Gam) (μ : St) (hs : Int64) (n : Nat) (S : Nat → Sk) (q : Nat) (V : Nat → Nat) (ch : Int32) (hg : RM μ n S q V ch) (k : Nat) (hk : k < n) (h : Nat) (h1 : 1 ≤ h) (h40 : h ≤ 40) : Met l yX4_stepIn (w1 yX4_stepIn cX4_stepIn 8 (some .int)) ({ frames := 1, cells := 0, slots := 0, locals := 23 }) (PcM G μ hs [.ref (gm G 0), .int (nI k), .int (nI h)]) (vp_Si (fun r => r = stI (S k) h)) 0 0 (fun _ => False) := by
  refine met_of [.ref (gm G 0), .int (nI k), .int (nI h)] [(0, .ref (gm G 0)), (1, .int (nI k)), (2, .int (nI h))] (by decide) (Nat.le_of_ble_eq_true rfl) rfl ?_
  intro p e s m below meth c hx hb hr hown hml hlocks hW ls hl
  have hG : GW s := hW.2.2.2
  have hn6 := hg.1.2
  have hq8 := hg.2.2.1.2
  have hv9 := (hg.2.2.2.1 k hk).1
  have hv0 := hv9.1
  have hv1 := hv9.2.1
  have hv3 := hv9.2.2.1
  have hc1 := (hg.2.2.2.1 k hk).2.1
  have hl9 := (hg.2.2.2.1 k hk).2.2.1
  refine lv_aload_n hx hb dX4_stepIn_0 rfl (lv_at hl 0 rfl) ?_
  refine rd_X4_16 hx hb hown hW dX4_stepIn_1 ?_
  refine lv_bipush (v := 9) hx hb dX4_stepIn_4 (by decide) ?_
  refine lv_iload_n hx hb dX4_stepIn_6 rfl (lv_at hl 1 rfl) ?_
  refine ln_mul 9 k hx hb rfl rfl dX4_stepIn_7 ?_
  refine al_M (k := 9 * k) 3 hx hb hW rfl (show _ < 54 by omega) dX4_stepIn_8 ?_
  refine lv_eqi (y := nI (S k 0)) (hg.2.2.2.1 k (by omega)).2.2.2.1 ?_
  refine lv_istore_n (lv' := [(3, .int (nI (S k 0))), (0, .ref (gm G 0)), (1, .int (nI k)), (2, .int (nI h))]) hx hb dX4_stepIn_9 rfl hl (by decide) rfl (fun ls hl => ?_)
  refine lv_aload_n hx hb dX4_stepIn_10 rfl (lv_at hl 1 rfl) ?_
  refine rd_X4_16 hx hb hown hW dX4_stepIn_11 ?_
  refine lv_bipush (v := 9) hx hb dX4_stepIn_14 (by decide) ?_
  refine lv_iload_n hx hb dX4_stepIn_16 rfl (lv_at hl 2 rfl) ?_
  refine ln_mul 9 k hx hb rfl rfl dX4_stepIn_17 ?_
  refine lv_iconst (v := 3) hx hb dX4_stepIn_18 (by decide) ?_
  refine ln_add (9 * k) 3 hx hb rfl rfl dX4_stepIn_19 ?_
  refine al_M (k := (9 * k) + 3) 3 hx hb hW rfl (show _ < 54 by omega) dX4_stepIn_20 ?_
  refine lv_eqi (y := nI (S k 3)) (hg.2.2.2.1 k (by omega)).2.2.2.2.2.2.1 ?_
  refine lv_istore (lv' := [(4, .int (nI (S k 3))), (3, .int (nI (S k 0))), (0, .ref (gm G 0)), (1, .int (nI k)), (2, .int (nI h))]) hx hb dX4_stepIn_21 hl (by decide) rfl (fun ls hl => ?_)
  refine lv_iload_n hx hb dX4_stepIn_23 rfl (lv_at hl 4 rfl) ?_
  refine lv_aload_n hx hb dX4_stepIn_24 rfl (lv_at hl 2 rfl) ?_
  refine lv_iload_n hx hb dX4_stepIn_25 rfl (lv_at hl 3 rfl) ?_
  refine cr_i (q := 690) [.int (nI k)] hx hb hml hown hG v_X4_hoursOf (by decide +kernel) (c_X4_hoursOf l G μ hs n S q V ch hg k hk) (preM hW _) rfl hl.1 (Nat.le_of_ble_eq_true rfl) dX4_stepIn_26 ⟨rfl, rfl, Nat.le_of_ble_eq_true rfl, Nat.le_of_ble_eq_true rfl⟩ ⟨Nat.le_of_ble_eq_true rfl, Nat.le_of_ble_eq_true rfl⟩ ?_
  refine lv_icmp_le (tgt := 34) hx hb dX4_stepIn_29 (by decide) (fun c_29 => ?_) (fun c_29 => ?_)
  · skip
    have q_29 := tN_le h (hwN (S k 0) (S k 3)) c_29 rfl rfl (by omega) (by have := hw_20 (K := S k 0) hv3; omega)
    have hw20 := hw_20 (K := S k 0) hv3
    refine lv_iload_n hx hb dX4_stepIn_34 rfl (lv_at hl 1 rfl) ?_
    refine lv_iconst (v := 2) hx hb dX4_stepIn_35 (by decide) ?_
    refine lv_icmp_ne (tgt := 66) hx hb dX4_stepIn_36 (by decide) (fun c_36 => ?_) (fun c_36 => ?_)
    · skip
      have q_36 := tN_ne (S k 0) 2 c_36 rfl rfl (by omega) (by omega)
      refine lv_iload_n hx hb dX4_stepIn_66 rfl (lv_at hl 4 rfl) ?_
      refine lv_iconst (v := 1) hx hb dX4_stepIn_67 (by decide) ?_
      refine ln_sub h 1 hx hb rfl rfl (by omega) dX4_stepIn_68 ?_
      refine lv_iconst (v := 2) hx hb dX4_stepIn_69 (by decide) ?_
      refine lv_iload hx hb dX4_stepIn_70 (lv_at hl 0 rfl) ?_
      refine ln_mul 2 (S k 3) hx hb rfl rfl dX4_stepIn_72 ?_
      refine ln_rem (h - 1) (2 * (S k 3)) hx hb rfl rfl (by omega) (by omega) (by omega) dX4_stepIn_73 ?_
      refine lv_istore (lv' := [(5, .int (nI ((h - 1) % (2 * (S k 3))))), (4, .int (nI (S k 3))), (3, .int (nI (S k 0))), (0, .ref (gm G 0)), (1, .int (nI k)), (2, .int (nI h))]) hx hb dX4_stepIn_74 hl (by decide) rfl (fun ls hl => ?_)
      have hmd := Nat.mod_lt (h - 1) (show 0 < 2 * S k 3 by omega)
      refine lv_iload hx hb dX4_stepIn_76 (lv_at hl 0 rfl) ?_
      refine lv_iload hx hb dX4_stepIn_78 (lv_at hl 1 rfl) ?_
      refine lv_icmp_lt (tgt := 87) hx hb dX4_stepIn_80 (by decide) (fun c_80 => ?_) (fun c_80 => ?_)
      · skip
        have q_80 := tN_lt ((h - 1) % (2 * (S k 3))) (S k 3) c_80 rfl rfl (by omega) (by omega)
        refine lv_iconst (v := 0) hx hb dX4_stepIn_87 (by decide) ?_
        refine lv_istore (lv' := [(6, .int 0), (5, .int (nI ((h - 1) % (2 * (S k 3))))), (4, .int (nI (S k 3))), (3, .int (nI (S k 0))), (0, .ref (gm G 0)), (1, .int (nI k)), (2, .int (nI h))]) hx hb dX4_stepIn_88 hl (by decide) rfl (fun ls hl => ?_)
        refine lv_aload_n hx hb dX4_stepIn_90 rfl (lv_at hl 4 rfl) ?_
        refine rd_X4_16 hx hb hown hW dX4_stepIn_91 ?_
        refine lv_bipush (v := 9) hx hb dX4_stepIn_94 (by decide) ?_
        refine lv_iload_n hx hb dX4_stepIn_96 rfl (lv_at hl 5 rfl) ?_
        refine ln_mul 9 k hx hb rfl rfl dX4_stepIn_97 ?_
        refine lv_iconst (v := 4) hx hb dX4_stepIn_98 (by decide) ?_
        refine ln_add (9 * k) 4 hx hb rfl rfl dX4_stepIn_99 ?_
        refine lv_iload hx hb dX4_stepIn_100 (lv_at hl 0 rfl) ?_
        refine lv_if_eq (tgt := 117) hx hb dX4_stepIn_102 (by decide) (fun c_102 => ?_) (fun c_102 => ?_)
        · skip
          refine lv_iload hx hb dX4_stepIn_117 (lv_at hl 1 rfl) ?_
          refine ln_add ((9 * k) + 4) ((h - 1) % (2 * (S k 3))) hx hb rfl rfl dX4_stepIn_119 ?_
          refine al_M (k := ((9 * k) + 4) + ((h - 1) % (2 * (S k 3)))) 3 hx hb hW rfl (show _ < 54 by omega) dX4_stepIn_120 ?_
          refine lv_eqi (y := nI (S k (4 + ((h - 1) % (2 * (S k 3)))))) ((hg.2.2.2.1 k (by omega)).2.2.2.2.2.2.2 (((h - 1) % (2 * (S k 3)))) (by omega)) ?_
          have hva : S k (4 + ((h - 1) % (2 * (S k 3)))) < 4 := hv9.2.2.2 _ (by omega)
          refine lv_istore (lv' := [(7, .int (nI (S k (4 + ((h - 1) % (2 * (S k 3))))))), (6, .int 0), (5, .int (nI ((h - 1) % (2 * (S k 3))))), (4, .int (nI (S k 3))), (3, .int (nI (S k 0))), (0, .ref (gm G 0)), (1, .int (nI k)), (2, .int (nI h))]) hx hb dX4_stepIn_121 hl (by decide) rfl (fun ls hl => ?_)
          refine lv_iload hx hb dX4_stepIn_123 (lv_at hl 1 rfl) ?_
          refine lv_if_ne (tgt := 133) hx hb dX4_stepIn_125 (by decide) (fun c_125 => ?_) (fun c_125 => ?_)
          · skip
            exact absurd (by decide) c_125
          · skip
            refine lv_iload_n hx hb dX4_stepIn_128 rfl (lv_at hl 4 rfl) ?_
            refine lv_iconst (v := 3) hx hb dX4_stepIn_129 (by decide) ?_
            refine lv_icmp_ne (tgt := 142) hx hb dX4_stepIn_130 (by decide) (fun c_130 => ?_) (fun c_130 => ?_)
            · skip
              have q_130 := tN_ne (S k 0) 3 c_130 rfl rfl (by omega) (by omega)
              refine lv_iload hx hb dX4_stepIn_142 (lv_at hl 0 rfl) ?_
              exact W.iret (v := nI (S k (4 + ((h - 1) % (2 * (S k 3)))))) hx hb hr (fun t9 ht9 hW9 => ⟨_, rfl, (stI_f q_36 q_130 q_29 (by omega) q_80), ht9⟩) (fun q h => by cases h) dX4_stepIn_144
            · skip
              have q_130 := tN_eq (S k 0) 3 c_130 rfl rfl (by omega) (by omega)
              refine lv_iload hx hb dX4_stepIn_133 (lv_at hl 0 rfl) ?_
              refine lv_iconst (v := 2) hx hb dX4_stepIn_135 (by decide) ?_
              refine ln_add (S k (4 + ((h - 1) % (2 * (S k 3))))) 2 hx hb rfl rfl dX4_stepIn_136 ?_
              refine lv_iconst (v := 4) hx hb dX4_stepIn_137 (by decide) ?_
              refine ln_rem ((S k (4 + ((h - 1) % (2 * (S k 3))))) + 2) 4 hx hb rfl rfl (by omega) (by omega) (by omega) dX4_stepIn_138 ?_
              refine lv_goto (tgt := 144) hx hb dX4_stepIn_139 (by decide) ?_
              exact W.iret (v := nI (((S k (4 + ((h - 1) % (2 * (S k 3))))) + 2) % 4)) hx hb hr (fun t9 ht9 hW9 => ⟨_, rfl, (stI_f3 q_130 q_29 (by omega) q_80), ht9⟩) (fun q h => by cases h) dX4_stepIn_144
        · skip
          exact absurd (by decide) c_102
      · skip
        have q_80 := tN_nlt ((h - 1) % (2 * (S k 3))) (S k 3) c_80 rfl rfl (by omega) (by omega)
        refine lv_iconst (v := 1) hx hb dX4_stepIn_83 (by decide) ?_
        refine lv_goto (tgt := 88) hx hb dX4_stepIn_84 (by decide) ?_
        refine lv_istore (lv' := [(6, .int 1), (5, .int (nI ((h - 1) % (2 * (S k 3))))), (4, .int (nI (S k 3))), (3, .int (nI (S k 0))), (0, .ref (gm G 0)), (1, .int (nI k)), (2, .int (nI h))]) hx hb dX4_stepIn_88 hl (by decide) rfl (fun ls hl => ?_)
        refine lv_aload_n hx hb dX4_stepIn_90 rfl (lv_at hl 4 rfl) ?_
        refine rd_X4_16 hx hb hown hW dX4_stepIn_91 ?_
        refine lv_bipush (v := 9) hx hb dX4_stepIn_94 (by decide) ?_
        refine lv_iload_n hx hb dX4_stepIn_96 rfl (lv_at hl 5 rfl) ?_
        refine ln_mul 9 k hx hb rfl rfl dX4_stepIn_97 ?_
        refine lv_iconst (v := 4) hx hb dX4_stepIn_98 (by decide) ?_
        refine ln_add (9 * k) 4 hx hb rfl rfl dX4_stepIn_99 ?_
        refine lv_iload hx hb dX4_stepIn_100 (lv_at hl 0 rfl) ?_
        refine lv_if_eq (tgt := 117) hx hb dX4_stepIn_102 (by decide) (fun c_102 => ?_) (fun c_102 => ?_)
        · skip
          exact absurd c_102 (by decide)
        · skip
          refine lv_iconst (v := 2) hx hb dX4_stepIn_105 (by decide) ?_
          refine lv_iload hx hb dX4_stepIn_106 (lv_at hl 2 rfl) ?_
          refine ln_mul 2 (S k 3) hx hb rfl rfl dX4_stepIn_108 ?_
          refine lv_iconst (v := 1) hx hb dX4_stepIn_109 (by decide) ?_
          refine ln_sub (2 * (S k 3)) 1 hx hb rfl rfl (by omega) dX4_stepIn_110 ?_
          refine lv_iload hx hb dX4_stepIn_111 (lv_at hl 1 rfl) ?_
          refine ln_sub ((2 * (S k 3)) - 1) ((h - 1) % (2 * (S k 3))) hx hb rfl rfl (by omega) dX4_stepIn_113 ?_
          refine lv_goto (tgt := 119) hx hb dX4_stepIn_114 (by decide) ?_
          refine ln_add ((9 * k) + 4) (((2 * (S k 3)) - 1) - ((h - 1) % (2 * (S k 3)))) hx hb rfl rfl dX4_stepIn_119 ?_
          refine al_M (k := ((9 * k) + 4) + (((2 * (S k 3)) - 1) - ((h - 1) % (2 * (S k 3))))) 3 hx hb hW rfl (show _ < 54 by omega) dX4_stepIn_120 ?_
          refine lv_eqi (y := nI (S k (4 + (((2 * (S k 3)) - 1) - ((h - 1) % (2 * (S k 3))))))) ((hg.2.2.2.1 k (by omega)).2.2.2.2.2.2.2 ((((2 * (S k 3)) - 1) - ((h - 1) % (2 * (S k 3))))) (by omega)) ?_
          have hva : S k (4 + (((2 * (S k 3)) - 1) - ((h - 1) % (2 * (S k 3))))) < 4 := hv9.2.2.2 _ (by omega)
          refine lv_istore (lv' := [(7, .int (nI (S k (4 + (((2 * (S k 3)) - 1) - ((h - 1) % (2 * (S k 3)))))))), (6, .int 1), (5, .int (nI ((h - 1) % (2 * (S k 3))))), (4, .int (nI (S k 3))), (3, .int (nI (S k 0))), (0, .ref (gm G 0)), (1, .int (nI k)), (2, .int (nI h))]) hx hb dX4_stepIn_121 hl (by decide) rfl (fun ls hl => ?_)
          refine lv_iload hx hb dX4_stepIn_123 (lv_at hl 1 rfl) ?_
          refine lv_if_ne (tgt := 133) hx hb dX4_stepIn_125 (by decide) (fun c_125 => ?_) (fun c_125 => ?_)
          · skip
            refine lv_iload hx hb dX4_stepIn_133 (lv_at hl 0 rfl) ?_
            refine lv_iconst (v := 2) hx hb dX4_stepIn_135 (by decide) ?_
            refine ln_add (S k (4 + (((2 * (S k 3)) - 1) - ((h - 1) % (2 * (S k 3)))))) 2 hx hb rfl rfl dX4_stepIn_136 ?_
            refine lv_iconst (v := 4) hx hb dX4_stepIn_137 (by decide) ?_
            refine ln_rem ((S k (4 + (((2 * (S k 3)) - 1) - ((h - 1) % (2 * (S k 3)))))) + 2) 4 hx hb rfl rfl (by omega) (by omega) (by omega) dX4_stepIn_138 ?_
            refine lv_goto (tgt := 144) hx hb dX4_stepIn_139 (by decide) ?_
            exact W.iret (v := nI (((S k (4 + (((2 * (S k 3)) - 1) - ((h - 1) % (2 * (S k 3)))))) + 2) % 4)) hx hb hr (fun t9 ht9 hW9 => ⟨_, rfl, (stI_b q_36 q_29 (by omega) q_80), ht9⟩) (fun q h => by cases h) dX4_stepIn_144
          · skip
            exact absurd c_125 (by decide)
    · skip
      have q_36 := tN_eq (S k 0) 2 c_36 rfl rfl (by omega) (by omega)
      have hw9 := hw_2 (C := S k 3) q_36
      refine lv_iload_n hx hb dX4_stepIn_39 rfl (lv_at hl 4 rfl) ?_
      refine lv_iconst (v := 2) hx hb dX4_stepIn_40 (by decide) ?_
      refine ln_rem h 2 hx hb rfl rfl (by omega) (by omega) (by omega) dX4_stepIn_41 ?_
      refine lv_iconst (v := 1) hx hb dX4_stepIn_42 (by decide) ?_
      refine lv_icmp_ne (tgt := 50) hx hb dX4_stepIn_43 (by decide) (fun c_43 => ?_) (fun c_43 => ?_)
      · skip
        have q_43 := tN_ne (h % 2) 1 c_43 rfl rfl (by omega) (by omega)
        refine lv_aload_n hx hb dX4_stepIn_50 rfl (lv_at hl 2 rfl) ?_
        refine rd_X4_16 hx hb hown hW dX4_stepIn_51 ?_
        refine lv_bipush (v := 9) hx hb dX4_stepIn_54 (by decide) ?_
        refine lv_iload_n hx hb dX4_stepIn_56 rfl (lv_at hl 3 rfl) ?_
        refine ln_mul 9 k hx hb rfl rfl dX4_stepIn_57 ?_
        refine lv_iconst (v := 3) hx hb dX4_stepIn_58 (by decide) ?_
        refine ln_add (9 * k) 3 hx hb rfl rfl dX4_stepIn_59 ?_
        refine lv_iload_n hx hb dX4_stepIn_60 rfl (lv_at hl 4 rfl) ?_
        refine lv_iconst (v := 2) hx hb dX4_stepIn_61 (by decide) ?_
        refine ln_div h 2 hx hb rfl rfl (by omega) (by omega) (by omega) dX4_stepIn_62 ?_
        refine ln_add ((9 * k) + 3) (h / 2) hx hb rfl rfl dX4_stepIn_63 ?_
        refine al_M (k := 9 * k + 4 + (h / 2 - 1)) 3 hx hb hW (congrArg nI (by omega)) (show _ < 54 by omega) dX4_stepIn_64 ?_
        refine lv_eqi (y := nI (S k (4 + (h / 2 - 1)))) ((hg.2.2.2.1 k hk).2.2.2.2.2.2.2 (h / 2 - 1) (by omega)) ?_
        exact W.iret (v := nI (S k (4 + (h / 2 - 1)))) hx hb hr (fun t9 ht9 hW9 => ⟨_, rfl, (stI_l2 q_36 q_29 q_43 (by omega)), ht9⟩) (fun q h => by cases h) dX4_stepIn_65
      · skip
        have q_43 := tN_eq (h % 2) 1 c_43 rfl rfl (by omega) (by omega)
        refine lv_iconst (v := (-1)) hx hb dX4_stepIn_46 (by decide) ?_
        refine lv_goto (tgt := 65) hx hb dX4_stepIn_47 (by decide) ?_
        exact W.iret (v := (-1)) hx hb hr (fun t9 ht9 hW9 => ⟨_, rfl, (stI_l1 q_36 q_43).symm, ht9⟩) (fun q h => by cases h) dX4_stepIn_65
  · skip
    have q_29 := tN_nle h (hwN (S k 0) (S k 3)) c_29 rfl rfl (by omega) (by have := hw_20 (K := S k 0) hv3; omega)
    refine lv_iconst (v := (-1)) hx hb dX4_stepIn_32 (by decide) ?_
    exact W.iret (v := (-1)) hx hb hr (fun t9 ht9 hW9 => ⟨_, rfl, (stI_far q_29).symm, ht9⟩) (fun q h => by cases h) dX4_stepIn_33
