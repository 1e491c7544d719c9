theorem al_any {p : Program} {l : Launch} {e : Env} {R : Room} {s : State} {m : MethodId} {args : Array Value} {below : List Frame} {meth : Method} {c : Code} {H : Heap} {locs : List Loc} {cells slots : Nat} {Q : State → Prop} {cc : ByteArray} {pc : Nat} {ls : Array Slot} {rest : List Value} {G : Gam} {σ : St} {x : Int32} {k i : Nat} (hx : p.tables.exec = Jvm.exec) (hb : c.code = cc) (hW : WX G σ s H) (ha : i < 50 ∧ ∀ r, cX G r i = .inl (gI G, 6, .inl r)) (hxk : x = nI k) (hk : k < 6) (hdg : decode cc pc = .ok (.iaload, 1)) (kk : W p l e R s m args below meth c H locs cells slots Q (F0 m (pc + 1) ls (.int (σ (i) k) :: rest))) : W p l e R s m args below meth c H locs cells slots Q (F0 m pc ls (.int x :: .ref (ga G (i)) :: rest)) :=
  wd_ald (f := fun i => cX G (σ i) i) hx hb hW.2.1 hW.1 0 (i := i) ha.1 (ha.2 _) rfl hxk hk (by omega) hdg kk
theorem abs_far : ∀ a, a < 16 → ∀ b, b < 16 → (if 0 ≤ nI (a / 4) - nI (b / 4) then nI (a / 4) - nI (b / 4) else 0 - (nI (a / 4) - nI (b / 4))) + (if 0 ≤ nI (a % 4) - nI (b % 4) then nI (a % 4) - nI (b % 4) else 0 - (nI (a % 4) - nI (b % 4))) = nI (farN a b) := by decide +kernel
theorem atN_lt {S : Sk} (h : VS S) (t : Nat) : atN S t < 16 := posN_lt h _
set_option maxHeartbeats 4000000 in
set_option maxRecDepth 100000 in
theorem c_J6_bitCount (l : Launch) (x : Nat) (h6 : x < 65536) : Met l yJ6_bitCount_0f7a4 (w1 yJ6_bitCount_0f7a4 cJ6_bitCount_0f7a4 1 (some .int)) ({ frames := 0, cells := 0, slots := 0, locals := 0 }) (PcG [.int (nI x)]) (vp_Si (fun r => r = nI (popN x))) 0 0 (fun _ => False) := by
  refine met_of [.int (nI x)] [(0, .int (nI x))] (by decide) (Nat.le_of_ble_eq_true rfl) rfl ?_
  intro p e s m below meth c hx hb hr hown hml hlocks hW ls hl
  have hG : GW s := hW
  have hA : bcA x ≤ x := Nat.sub_le _ _
  have hB : bcB (bcA x) ≤ 1717986918 := Nat.add_le_add Nat.and_le_right Nat.and_le_right
  have hC : bcC (bcB (bcA x)) ≤ 252645135 := Nat.and_le_right
  refine lv_iload_n hx hb dJ6_bitCount_0f7a4_0 rfl (lv_at hl 0 rfl) ?_
  refine lv_iload_n hx hb dJ6_bitCount_0f7a4_1 rfl (lv_at hl 0 rfl) ?_
  refine lv_iconst (v := 1) hx hb dJ6_bitCount_0f7a4_2 (by decide) ?_
  refine lv_iushr (v := nI (x / 2)) hx hb dJ6_bitCount_0f7a4_3 (pk_ushrN (by omega) 1 1 (by decide)) ?_
  refine lv_ldcw (v := 1431655765) hx hb hown (hG.use (i := 349) (by decide +kernel) rfl _) dJ6_bitCount_0f7a4_4 ?_
  refine lv_iand hx hb dJ6_bitCount_0f7a4_7 ?_
  refine lv_eqi (y := nI ((x / 2) &&& 1431655765)) (nI_and (x / 2) 1431655765) ?_
  refine ln_sub x ((x / 2) &&& 1431655765) hx hb rfl rfl (Nat.le_trans Nat.and_le_left (Nat.div_le_self _ _)) dJ6_bitCount_0f7a4_8 ?_
  refine lv_eqi (y := nI (bcA x)) rfl ?_
  refine lv_istore_n (lv' := [(0, .int (nI (bcA x)))]) hx hb dJ6_bitCount_0f7a4_9 rfl hl (by decide) rfl (fun ls hl => ?_)
  refine lv_iload_n hx hb dJ6_bitCount_0f7a4_10 rfl (lv_at hl 0 rfl) ?_
  refine lv_ldcw (v := 858993459) hx hb hown (hG.use (i := 350) (by decide +kernel) rfl _) dJ6_bitCount_0f7a4_11 ?_
  refine lv_iand hx hb dJ6_bitCount_0f7a4_14 ?_
  refine lv_eqi (y := nI ((bcA x) &&& 858993459)) (nI_and (bcA x) 858993459) ?_
  refine lv_iload_n hx hb dJ6_bitCount_0f7a4_15 rfl (lv_at hl 0 rfl) ?_
  refine lv_iconst (v := 2) hx hb dJ6_bitCount_0f7a4_16 (by decide) ?_
  refine lv_iushr (v := nI ((bcA x) / 4)) hx hb dJ6_bitCount_0f7a4_17 (pk_ushrN (by omega) 2 2 (by decide)) ?_
  refine lv_ldcw (v := 858993459) hx hb hown (hG.use (i := 350) (by decide +kernel) rfl _) dJ6_bitCount_0f7a4_18 ?_
  refine lv_iand hx hb dJ6_bitCount_0f7a4_21 ?_
  refine lv_eqi (y := nI (((bcA x) / 4) &&& 858993459)) (nI_and ((bcA x) / 4) 858993459) ?_
  refine ln_add ((bcA x) &&& 858993459) (((bcA x) / 4) &&& 858993459) hx hb rfl rfl dJ6_bitCount_0f7a4_22 ?_
  refine lv_eqi (y := nI (bcB (bcA x))) rfl ?_
  refine lv_istore_n (lv' := [(0, .int (nI (bcB (bcA x))))]) hx hb dJ6_bitCount_0f7a4_23 rfl hl (by decide) rfl (fun ls hl => ?_)
  refine lv_iload_n hx hb dJ6_bitCount_0f7a4_24 rfl (lv_at hl 0 rfl) ?_
  refine lv_iload_n hx hb dJ6_bitCount_0f7a4_25 rfl (lv_at hl 0 rfl) ?_
  refine lv_iconst (v := 4) hx hb dJ6_bitCount_0f7a4_26 (by decide) ?_
  refine lv_iushr (v := nI ((bcB (bcA x)) / 16)) hx hb dJ6_bitCount_0f7a4_27 (pk_ushrN (by omega) 4 4 (by decide)) ?_
  refine ln_add (bcB (bcA x)) ((bcB (bcA x)) / 16) hx hb rfl rfl dJ6_bitCount_0f7a4_28 ?_
  refine lv_ldcw (v := 252645135) hx hb hown (hG.use (i := 351) (by decide +kernel) rfl _) dJ6_bitCount_0f7a4_29 ?_
  refine lv_iand hx hb dJ6_bitCount_0f7a4_32 ?_
  refine lv_eqi (y := nI (((bcB (bcA x)) + ((bcB (bcA x)) / 16)) &&& 252645135)) (nI_and ((bcB (bcA x)) + ((bcB (bcA x)) / 16)) 252645135) ?_
  refine lv_eqi (y := nI (bcC (bcB (bcA x)))) rfl ?_
  refine lv_istore_n (lv' := [(0, .int (nI (bcC (bcB (bcA x)))))]) hx hb dJ6_bitCount_0f7a4_33 rfl hl (by decide) rfl (fun ls hl => ?_)
  refine lv_iload_n hx hb dJ6_bitCount_0f7a4_34 rfl (lv_at hl 0 rfl) ?_
  refine lv_iload_n hx hb dJ6_bitCount_0f7a4_35 rfl (lv_at hl 0 rfl) ?_
  refine lv_bipush (v := 8) hx hb dJ6_bitCount_0f7a4_36 (by decide) ?_
  refine lv_iushr (v := nI ((bcC (bcB (bcA x))) / 256)) hx hb dJ6_bitCount_0f7a4_38 (pk_ushrN (by omega) 8 8 (by decide)) ?_
  refine ln_add (bcC (bcB (bcA x))) ((bcC (bcB (bcA x))) / 256) hx hb rfl rfl dJ6_bitCount_0f7a4_39 ?_
  refine lv_istore_n (lv' := [(0, .int (nI ((bcC (bcB (bcA x))) + ((bcC (bcB (bcA x))) / 256))))]) hx hb dJ6_bitCount_0f7a4_40 rfl hl (by decide) rfl (fun ls hl => ?_)
  refine lv_iload_n hx hb dJ6_bitCount_0f7a4_41 rfl (lv_at hl 0 rfl) ?_
  refine lv_iload_n hx hb dJ6_bitCount_0f7a4_42 rfl (lv_at hl 0 rfl) ?_
  refine lv_bipush (v := 16) hx hb dJ6_bitCount_0f7a4_43 (by decide) ?_
  refine lv_iushr (v := nI (((bcC (bcB (bcA x))) + ((bcC (bcB (bcA x))) / 256)) / 65536)) hx hb dJ6_bitCount_0f7a4_45 (pk_ushrN (by omega) 16 16 (by decide)) ?_
  refine ln_add ((bcC (bcB (bcA x))) + ((bcC (bcB (bcA x))) / 256)) (((bcC (bcB (bcA x))) + ((bcC (bcB (bcA x))) / 256)) / 65536) hx hb rfl rfl dJ6_bitCount_0f7a4_46 ?_
  refine lv_istore_n (lv' := [(0, .int (nI (((bcC (bcB (bcA x))) + ((bcC (bcB (bcA x))) / 256)) + (((bcC (bcB (bcA x))) + ((bcC (bcB (bcA x))) / 256)) / 65536))))]) hx hb dJ6_bitCount_0f7a4_47 rfl hl (by decide) rfl (fun ls hl => ?_)
  refine lv_iload_n hx hb dJ6_bitCount_0f7a4_48 rfl (lv_at hl 0 rfl) ?_
  refine lv_bipush (v := 63) hx hb dJ6_bitCount_0f7a4_49 (by decide) ?_
  refine lv_iand hx hb dJ6_bitCount_0f7a4_51 ?_
  refine lv_eqi (y := nI ((((bcC (bcB (bcA x))) + ((bcC (bcB (bcA x))) / 256)) + (((bcC (bcB (bcA x))) + ((bcC (bcB (bcA x))) / 256)) / 65536)) &&& 63)) (nI_and (((bcC (bcB (bcA x))) + ((bcC (bcB (bcA x))) / 256)) + (((bcC (bcB (bcA x))) + ((bcC (bcB (bcA x))) / 256)) / 65536)) 63) ?_
  exact W.iret (v := nI ((((bcC (bcB (bcA x))) + ((bcC (bcB (bcA x))) / 256)) + (((bcC (bcB (bcA x))) + ((bcC (bcB (bcA x))) / 256)) / 65536)) &&& 63)) hx hb hr (fun t9 ht9 hW9 => ⟨_, rfl, (show nI (bcN x) = nI (popN x) from congrArg nI (bc_pop h6)), ht9⟩) (fun q h => by cases h) dJ6_bitCount_0f7a4_52
set_option maxHeartbeats 4000000 in
set_option maxRecDepth 100000 in
theorem c_X3_stepsBetween (l : Launch) (a b : Nat) (ha : a < 16) (h2 : b < 16) : Met l yX3_stepsBetween (w1 yX3_stepsBetween cX3_stepsBetween 2 (some .int)) ({ frames := 1, cells := 0, slots := 0, locals := 17 }) (PcG [.int (nI a), .int (nI b)]) (vp_Si (fun r => r = nI (farN a b))) 0 0 (fun _ => False) := by
  refine met_of [.int (nI a), .int (nI b)] [(0, .int (nI a)), (1, .int (nI b))] (by decide) (Nat.le_of_ble_eq_true rfl) rfl ?_
  intro p e s m below meth c hx hb hr hown hml hlocks hW ls hl
  have hG : GW s := hW
  refine lv_iload_n hx hb dX3_stepsBetween_0 rfl (lv_at hl 0 rfl) ?_
  refine lv_iconst (v := 4) hx hb dX3_stepsBetween_1 (by decide) ?_
  refine ln_div a 4 hx hb rfl rfl (by omega) (by omega) (by omega) dX3_stepsBetween_2 ?_
  refine lv_iload_n hx hb dX3_stepsBetween_3 rfl (lv_at hl 1 rfl) ?_
  refine lv_iconst (v := 4) hx hb dX3_stepsBetween_4 (by decide) ?_
  refine ln_div b 4 hx hb rfl rfl (by omega) (by omega) (by omega) dX3_stepsBetween_5 ?_
  refine lv_isub hx hb dX3_stepsBetween_6 ?_
  refine va_mabs (own := RX3) hx hb (hml.trans hl.1.symm) hown (hG.use (i := 450) (by decide +kernel) rfl _) (hG _ mt_abs.1 rfl _) (hG _ mt_abs.2.1 rfl _) (hG _ mt_abs.2.2 rfl _) (Nat.le_of_ble_eq_true rfl) (Nat.le_of_ble_eq_true rfl) (Nat.le_of_ble_eq_true rfl) (Nat.le_of_ble_eq_true rfl) dX3_stepsBetween_7 ?_
  refine lv_iload_n hx hb dX3_stepsBetween_10 rfl (lv_at hl 0 rfl) ?_
  refine lv_iconst (v := 4) hx hb dX3_stepsBetween_11 (by decide) ?_
  refine ln_rem a 4 hx hb rfl rfl (by omega) (by omega) (by omega) dX3_stepsBetween_12 ?_
  refine lv_iload_n hx hb dX3_stepsBetween_13 rfl (lv_at hl 1 rfl) ?_
  refine lv_iconst (v := 4) hx hb dX3_stepsBetween_14 (by decide) ?_
  refine ln_rem b 4 hx hb rfl rfl (by omega) (by omega) (by omega) dX3_stepsBetween_15 ?_
  refine lv_isub hx hb dX3_stepsBetween_16 ?_
  refine va_mabs (own := RX3) hx hb (hml.trans hl.1.symm) hown (hG.use (i := 450) (by decide +kernel) rfl _) (hG _ mt_abs.1 rfl _) (hG _ mt_abs.2.1 rfl _) (hG _ mt_abs.2.2 rfl _) (Nat.le_of_ble_eq_true rfl) (Nat.le_of_ble_eq_true rfl) (Nat.le_of_ble_eq_true rfl) (Nat.le_of_ble_eq_true rfl) dX3_stepsBetween_17 ?_
  refine lv_iadd hx hb dX3_stepsBetween_20 ?_
  exact W.iret (v := (if 0 ≤ ((nI (a / 4)) - (nI (b / 4))) then ((nI (a / 4)) - (nI (b / 4))) else 0 - ((nI (a / 4)) - (nI (b / 4)))) + (if 0 ≤ ((nI (a % 4)) - (nI (b % 4))) then ((nI (a % 4)) - (nI (b % 4))) else 0 - ((nI (a % 4)) - (nI (b % 4))))) hx hb hr (fun t9 ht9 hW9 => ⟨_, rfl, (abs_far a ha b h2), ht9⟩) (fun q h => by cases h) dX3_stepsBetween_21
set_option maxHeartbeats 4000000 in
set_option maxRecDepth 100000 in
theorem c_X0_has (l : Launch) (G : Gam) (σ : St) (h : Nat) (hh : h < 2) (n : Nat) (S : Nat → Sk) (q : Nat) (V : Nat → Nat) (ch : Int32) (hg : GH σ h n S q V ch) (x : Int32) : Met l yX0_has (w1 yX0_has cX0_has 2 (some .boolean)) ({ frames := 0, cells := 0, slots := 0, locals := 0 }) (PcX G σ [.ref (ga G (5 * h + 4)), .int x]) (vp_Si (fun r => r = bI (hasB x n))) 0 0 (fun _ => False) := by
  refine met_of [.ref (ga G (5 * h + 4)), .int x] [(0, .ref (ga G (5 * h + 4))), (1, .int x)] (by decide) (Nat.le_of_ble_eq_true rfl) rfl ?_
  intro p e s m below meth c hx hb hr hown hml hlocks hW ls hl
  have hG : GW s := hW.2.2.2.1
  have hn6 := hg.1.2
  have hq8 := hg.2.2.1.2
  refine lv_iload_n hx hb dX0_has_0 rfl (lv_at hl 1 rfl) ?_
  refine lv_if_lt (tgt := 16) hx hb dX0_has_1 (by decide) (fun c_1 => ?_) (fun c_1 => ?_)
  · skip
    refine lv_iconst (v := 0) hx hb dX0_has_16 (by decide) ?_
    exact W.zret (v := 0) (ty := .boolean) hx hb hr rfl (fun t9 ht9 hW9 => ⟨_, rfl, by simp_all [hasB, bI], ht9⟩) (fun q h => by cases h) dX0_has_17
  · skip
    refine lv_iload_n hx hb dX0_has_4 rfl (lv_at hl 1 rfl) ?_
    refine lv_aload_n hx hb dX0_has_5 rfl (lv_at hl 0 rfl) ?_
    refine rd_X0_31 hx hb hown hW hh dX0_has_6 ?_
    refine lv_eqi (y := nI n) hg.1.1 ?_
    refine lv_icmp_ge (tgt := 16) hx hb dX0_has_9 (by decide) (fun c_9 => ?_) (fun c_9 => ?_)
    · skip
      refine lv_iconst (v := 0) hx hb dX0_has_16 (by decide) ?_
      exact W.zret (v := 0) (ty := .boolean) hx hb hr rfl (fun t9 ht9 hW9 => ⟨_, rfl, by simp_all [hasB, bI], ht9⟩) (fun q h => by cases h) dX0_has_17
    · skip
      refine lv_iconst (v := 1) hx hb dX0_has_12 (by decide) ?_
      refine lv_goto (tgt := 17) hx hb dX0_has_13 (by decide) ?_
      exact W.zret (v := 1) (ty := .boolean) hx hb hr rfl (fun t9 ht9 hW9 => ⟨_, rfl, by simp_all [hasB, bI], ht9⟩) (fun q h => by cases h) dX0_has_17
set_option maxHeartbeats 4000000 in
set_option maxRecDepth 100000 in
theorem c_X0_hasBoth (l : Launch) (G : Gam) (σ : St) (h : Nat) (hh : h < 2) (n : Nat) (S : Nat → Sk) (q : Nat) (V : Nat → Nat) (ch : Int32) (hg : GH σ h n S q V ch) (x y : Int32) : Met l yX0_hasBoth (w1 yX0_hasBoth cX0_hasBoth 3 (some .boolean)) ({ frames := 1, cells := 0, slots := 0, locals := 21 }) (PcX G σ [.ref (ga G (5 * h + 4)), .int x, .int y]) (vp_Si (fun r => r = bI (hasB x n && (hasB y n && decide (¬ x = y))))) 0 0 (fun _ => False) := by
  refine met_of [.ref (ga G (5 * h + 4)), .int x, .int y] [(0, .ref (ga G (5 * h + 4))), (1, .int x), (2, .int y)] (by decide) (Nat.le_of_ble_eq_true rfl) rfl ?_
  intro p e s m below meth c hx hb hr hown hml hlocks hW ls hl
  have hG : GW s := hW.2.2.2.1
  have hn6 := hg.1.2
  have hq8 := hg.2.2.1.2
  refine lv_aload_n hx hb dX0_hasBoth_0 rfl (lv_at hl 0 rfl) ?_
  refine lv_iload_n hx hb dX0_hasBoth_1 rfl (lv_at hl 1 rfl) ?_
  refine cr_i (q := 385) [.int x] hx hb hml hown hG v_X0_has (by decide +kernel) (c_X0_has l G σ h hh n S q V ch hg x) (preH hW hh _) rfl hl.1 (Nat.le_of_ble_eq_true rfl) dX0_hasBoth_2 ⟨rfl, rfl, Nat.le_of_ble_eq_true rfl, Nat.le_of_ble_eq_true rfl⟩ ⟨Nat.le_of_ble_eq_true rfl, Nat.le_of_ble_eq_true rfl⟩ ?_
  refine lv_if_eq (tgt := 25) hx hb dX0_hasBoth_5 (by decide) (fun c_5 => ?_) (fun c_5 => ?_)
  · skip
    have b_5 := bI_0 c_5
    refine lv_iconst (v := 0) hx hb dX0_hasBoth_25 (by decide) ?_
    exact W.zret (v := 0) (ty := .boolean) hx hb hr rfl (fun t9 ht9 hW9 => ⟨_, rfl, by simp_all [bI], ht9⟩) (fun q h => by cases h) dX0_hasBoth_26
  · skip
    have b_5 := bI_1 c_5
    refine lv_aload_n hx hb dX0_hasBoth_8 rfl (lv_at hl 0 rfl) ?_
    refine lv_iload_n hx hb dX0_hasBoth_9 rfl (lv_at hl 2 rfl) ?_
    refine cr_i (q := 385) [.int y] hx hb hml hown hG v_X0_has (by decide +kernel) (c_X0_has l G σ h hh n S q V ch hg y) (preH hW hh _) rfl hl.1 (Nat.le_of_ble_eq_true rfl) dX0_hasBoth_10 ⟨rfl, rfl, Nat.le_of_ble_eq_true rfl, Nat.le_of_ble_eq_true rfl⟩ ⟨Nat.le_of_ble_eq_true rfl, Nat.le_of_ble_eq_true rfl⟩ ?_
    refine lv_if_eq (tgt := 25) hx hb dX0_hasBoth_13 (by decide) (fun c_13 => ?_) (fun c_13 => ?_)
    · skip
      have b_13 := bI_0 c_13
      refine lv_iconst (v := 0) hx hb dX0_hasBoth_25 (by decide) ?_
      exact W.zret (v := 0) (ty := .boolean) hx hb hr rfl (fun t9 ht9 hW9 => ⟨_, rfl, by simp_all [bI], ht9⟩) (fun q h => by cases h) dX0_hasBoth_26
    · skip
      have b_13 := bI_1 c_13
      refine lv_iload_n hx hb dX0_hasBoth_16 rfl (lv_at hl 1 rfl) ?_
      refine lv_iload_n hx hb dX0_hasBoth_17 rfl (lv_at hl 2 rfl) ?_
      refine lv_icmp_eq (tgt := 25) hx hb dX0_hasBoth_18 (by decide) (fun c_18 => ?_) (fun c_18 => ?_)
      · skip
        refine lv_iconst (v := 0) hx hb dX0_hasBoth_25 (by decide) ?_
        exact W.zret (v := 0) (ty := .boolean) hx hb hr rfl (fun t9 ht9 hW9 => ⟨_, rfl, by simp_all [bI], ht9⟩) (fun q h => by cases h) dX0_hasBoth_26
      · skip
        refine lv_iconst (v := 1) hx hb dX0_hasBoth_21 (by decide) ?_
        refine lv_goto (tgt := 26) hx hb dX0_hasBoth_22 (by decide) ?_
        exact W.zret (v := 1) (ty := .boolean) hx hb hr rfl (fun t9 ht9 hW9 => ⟨_, rfl, by simp_all [bI], ht9⟩) (fun q h => by cases h) dX0_hasBoth_26
set_option maxHeartbeats 4000000 in
set_option maxRecDepth 100000 in
theorem c_X0_placeAt (l : Launch) (G : Gam) (σ : St) (h : Nat) (hh : h < 2) (n : Nat) (S : Nat → Sk) (q : Nat) (V : Nat → Nat) (ch : Int32) (hg : GH σ h n S q V ch) (k t : Nat) (hk : k < n) (ht : t ≤ 30) : Met l yX0_placeAt (w1 yX0_placeAt cX0_placeAt 3 (some .int)) ({ frames := 1, cells := 0, slots := 0, locals := 23 }) (PcX G σ [.ref (ga G (5 * h + 4)), .int (nI k), .int (nI t)]) (vp_Si (fun r => r = nI (atN (S k) t))) 0 0 (fun _ => False) := by
  refine met_of [.ref (ga G (5 * h + 4)), .int (nI k), .int (nI t)] [(0, .ref (ga G (5 * h + 4))), (1, .int (nI k)), (2, .int (nI t))] (by decide) (Nat.le_of_ble_eq_true rfl) rfl ?_
  intro p e s m below meth c hx hb hr hown hml hlocks hW ls hl
  have hG : GW s := hW.2.2.2.1
  have hn6 := hg.1.2
  have hq8 := hg.2.2.1.2
  refine lv_aload_n hx hb dX0_placeAt_0 rfl (lv_at hl 0 rfl) ?_
  refine rd_X0_11 hx hb hown hW hh dX0_placeAt_1 ?_
  refine lv_iload_n hx hb dX0_placeAt_4 rfl (lv_at hl 1 rfl) ?_
  refine al_sticks (k := k) hx hb hW hh rfl (by omega) dX0_placeAt_5 ?_
  refine lv_iload_n hx hb dX0_placeAt_6 rfl (lv_at hl 2 rfl) ?_
  refine lv_aload_n hx hb dX0_placeAt_7 rfl (lv_at hl 0 rfl) ?_
  refine rd_X0_18 hx hb hown hW hh dX0_placeAt_8 ?_
  refine lv_iload_n hx hb dX0_placeAt_11 rfl (lv_at hl 1 rfl) ?_
  refine al_lateBy (k := k) hx hb hW hh rfl (by omega) dX0_placeAt_12 ?_
  refine lv_eqi (y := nI (S k 2)) (hg.2.2.2.1 k (by omega)).2.2.2.1 ?_
  refine cr_i (q := 373) [.int (nI t), .int (nI (S k 2))] hx hb hml hown hG v_X2_placeAt (by decide +kernel) (c_X2_placeAt l G σ (6 * h + k) (by omega) (S k) (hg.2.2.2.1 k (by omega)).1 (hg.2.2.2.1 k (by omega)).2.1 (hg.2.2.2.1 k hk).2.2.1 t (S k 2) ht (hg.2.2.2.1 k hk).2.2.2.2) (preK hW (by omega) _) rfl hl.1 (Nat.le_of_ble_eq_true rfl) dX0_placeAt_13 ⟨rfl, rfl, Nat.le_of_ble_eq_true rfl, Nat.le_of_ble_eq_true rfl⟩ ⟨Nat.le_of_ble_eq_true rfl, Nat.le_of_ble_eq_true rfl⟩ ?_
  exact W.iret (v := nI (posN (S k) (t - S k 2))) hx hb hr (fun t9 ht9 hW9 => ⟨_, rfl, rfl, ht9⟩) (fun q h => by cases h) dX0_placeAt_16
set_option maxHeartbeats 4000000 in
set_option maxRecDepth 100000 in
theorem c_X0_hoursTogether (l : Launch) (G : Gam) (σ : St) (h : Nat) (hh : h < 2) (n : Nat) (S : Nat → Sk) (q : Nat) (V : Nat → Nat) (ch : Int32) (hg : GH σ h n S q V ch) (a La b Lb : Nat) (ha : a < n) (h2 : b < n) (hLa : La ≤ 9) (hLb : Lb ≤ 9) : Met l yX0_hoursTogether (w1 yX0_hoursTogether cX0_hoursTogether 7 (some .int)) ({ frames := 1, cells := 0, slots := 0, locals := 23 }) (PcX G σ [.ref (ga G (5 * h + 4)), .int (nI a), .int (nI La), .int (nI b), .int (nI Lb)]) (vp_Si (fun r => r = nI (meetN (fun t => posN (S a) (t - La)) (fun t => posN (S b) (t - Lb)) 31))) 0 0 (fun _ => False) := by
  refine met_of [.ref (ga G (5 * h + 4)), .int (nI a), .int (nI La), .int (nI b), .int (nI Lb)] [(0, .ref (ga G (5 * h + 4))), (1, .int (nI a)), (2, .int (nI La)), (3, .int (nI b)), (4, .int (nI Lb))] (by decide) (Nat.le_of_ble_eq_true rfl) rfl ?_
  intro p e s m below meth c hx hb hr hown hml hlocks hW ls hl
  have hG : GW s := hW.2.2.2.1
  have hn6 := hg.1.2
  have hq8 := hg.2.2.1.2
  refine lv_iconst (v := 0) hx hb dX0_hoursTogether_0 (by decide) ?_
  refine lv_istore (lv' := [(5, .int 0), (0, .ref (ga G (5 * h + 4))), (1, .int (nI a)), (2, .int (nI La)), (3, .int (nI b)), (4, .int (nI Lb))]) hx hb dX0_hoursTogether_1 hl (by decide) rfl (fun ls hl => ?_)
  refine lv_iconst (v := 0) hx hb dX0_hoursTogether_3 (by decide) ?_
  refine lv_istore (lv' := [(6, .int 0), (5, .int 0), (0, .ref (ga G (5 * h + 4))), (1, .int (nI a)), (2, .int (nI La)), (3, .int (nI b)), (4, .int (nI Lb))]) hx hb dX0_hoursTogether_4 hl (by decide) rfl (fun ls hl => ?_)
  have loop_6 : ∀ (N9 : Nat) (t : Nat) (hs9 : Int32) (ho : Int32), 31 - t < N9 → hs9 = nI (meetN (fun t => posN (S a) (t - La)) (fun t => posN (S b) (t - Lb)) t) → ho = nI t → t ≤ 31 → ∀ ls : Array Slot, lv_has ls 7 [(5, .int hs9), (6, .int ho), (0, .ref (ga G (5 * h + 4))), (1, .int (nI a)), (2, .int (nI La)), (3, .int (nI b)), (4, .int (nI Lb))] → W p l e (headSpec (w1 yX0_hoursTogether cX0_hoursTogether 7 (some .int)) ({ frames := 1, cells := 0, slots := 0, locals := 23 })).room s m [.ref (ga G (5 * h + 4)), .int (nI a), .int (nI La), .int (nI b), .int (nI Lb)].toArray below meth c s.heap [] 0 0 (MQ below (vp_Si (fun r => r = nI (meetN (fun t => posN (S a) (t - La)) (fun t => posN (S b) (t - Lb)) 31))) [.ref (ga G (5 * h + 4)), .int (nI a), .int (nI La), .int (nI b), .int (nI Lb)].toArray s 0 0 (fun _ => False)) (F0 m 6 ls []) := by
    intro N9
    induction N9 with
    | zero => intro t hs9 ho hN; exact absurd hN (Nat.not_lt_zero _)
    | succ N9 ih =>
      intro t hs9 ho hN e_hs9 e_ho hi0_6 ls hl
      subst e_hs9
      subst e_ho
      have ih_6 := ih
      have hpa := posN_lt (hg.2.2.2.1 a ha).1 (t - La)
      have hpb := posN_lt (hg.2.2.2.1 b h2).1 (t - Lb)
      refine lv_iload hx hb dX0_hoursTogether_6 (lv_at hl 1 rfl) ?_
      refine lv_bipush (v := 30) hx hb dX0_hoursTogether_8 (by decide) ?_
      refine lv_icmp_gt (tgt := 50) hx hb dX0_hoursTogether_10 (by decide) (fun c_10 => ?_) (fun c_10 => ?_)
      · skip
        have q_10 := tN_lt 30 t c_10 rfl rfl (by omega) (by omega)
        refine lv_iload hx hb dX0_hoursTogether_50 (lv_at hl 0 rfl) ?_
        exact W.iret (v := nI (meetN (fun t => posN (S a) (t - La)) (fun t => posN (S b) (t - Lb)) t)) hx hb hr (fun t9 ht9 hW9 => ⟨_, rfl, (by have h9 : t = 31 := (by omega); subst h9; rfl), ht9⟩) (fun q h => by cases h) dX0_hoursTogether_52
      · skip
        have q_10 := tN_nlt 30 t c_10 rfl rfl (by omega) (by omega)
        refine lv_aload_n hx hb dX0_hoursTogether_13 rfl (lv_at hl 2 rfl) ?_
        refine rd_X0_11 hx hb hown hW hh dX0_hoursTogether_14 ?_
        refine lv_iload_n hx hb dX0_hoursTogether_17 rfl (lv_at hl 3 rfl) ?_
        refine al_sticks (k := a) hx hb hW hh rfl (by omega) dX0_hoursTogether_18 ?_
        refine lv_iload hx hb dX0_hoursTogether_19 (lv_at hl 1 rfl) ?_
        refine lv_iload_n hx hb dX0_hoursTogether_21 rfl (lv_at hl 4 rfl) ?_
        refine cr_i (q := 373) [.int (nI t), .int (nI La)] hx hb hml hown hG v_X2_placeAt (by decide +kernel) (c_X2_placeAt l G σ (6 * h + a) (by omega) (S a) (hg.2.2.2.1 a (by omega)).1 (hg.2.2.2.1 a (by omega)).2.1 (hg.2.2.2.1 a ha).2.2.1 t La (by omega) hLa) (preK hW (by omega) _) rfl hl.1 (Nat.le_of_ble_eq_true rfl) dX0_hoursTogether_22 ⟨rfl, rfl, Nat.le_of_ble_eq_true rfl, Nat.le_of_ble_eq_true rfl⟩ ⟨Nat.le_of_ble_eq_true rfl, Nat.le_of_ble_eq_true rfl⟩ ?_
        refine lv_aload_n hx hb dX0_hoursTogether_25 rfl (lv_at hl 2 rfl) ?_
        refine rd_X0_11 hx hb hown hW hh dX0_hoursTogether_26 ?_
        refine lv_iload_n hx hb dX0_hoursTogether_29 rfl (lv_at hl 5 rfl) ?_
        refine al_sticks (k := b) hx hb hW hh rfl (by omega) dX0_hoursTogether_30 ?_
        refine lv_iload hx hb dX0_hoursTogether_31 (lv_at hl 1 rfl) ?_
        refine lv_iload hx hb dX0_hoursTogether_33 (lv_at hl 6 rfl) ?_
        refine cr_i (q := 373) [.int (nI t), .int (nI Lb)] hx hb hml hown hG v_X2_placeAt (by decide +kernel) (c_X2_placeAt l G σ (6 * h + b) (by omega) (S b) (hg.2.2.2.1 b (by omega)).1 (hg.2.2.2.1 b (by omega)).2.1 (hg.2.2.2.1 b h2).2.2.1 t Lb (by omega) hLb) (preK hW (by omega) _) rfl hl.1 (Nat.le_of_ble_eq_true rfl) dX0_hoursTogether_35 ⟨rfl, rfl, Nat.le_of_ble_eq_true rfl, Nat.le_of_ble_eq_true rfl⟩ ⟨Nat.le_of_ble_eq_true rfl, Nat.le_of_ble_eq_true rfl⟩ ?_
        refine lv_icmp_ne (tgt := 44) hx hb dX0_hoursTogether_38 (by decide) (fun c_38 => ?_) (fun c_38 => ?_)
        · skip
          have q_38 := tN_ne (posN (S a) (t - La)) (posN (S b) (t - Lb)) c_38 rfl rfl (by omega) (by omega)
          refine lv_iinc (v := nI (t + 1)) (lv' := [(6, .int (nI (t + 1))), (5, .int (nI (meetN (fun t => posN (S a) (t - La)) (fun t => posN (S b) (t - Lb)) t))), (0, .ref (ga G (5 * h + 4))), (1, .int (nI a)), (2, .int (nI La)), (3, .int (nI b)), (4, .int (nI Lb))]) hx hb dX0_hoursTogether_44 hl (k := 1) rfl (inc1 t) (by decide) rfl (fun ls hl => ?_)
          refine lv_goto (tgt := 6) hx hb dX0_hoursTogether_47 (by decide) ?_
          exact ih_6 (t + 1) _ _ (by omega) (by first | exact congrArg nI (meetN_y q_38) | exact congrArg nI (meetN_n q_38)) rfl (by omega) ls (lv_sub hl [1, 0, 2, 3, 4, 5, 6] rfl)
        · skip
          have q_38 := tN_eq (posN (S a) (t - La)) (posN (S b) (t - Lb)) c_38 rfl rfl (by omega) (by omega)
          refine lv_iinc (v := nI (meetN (fun t => posN (S a) (t - La)) (fun t => posN (S b) (t - Lb)) t + 1)) (lv' := [(5, .int (nI (meetN (fun t => posN (S a) (t - La)) (fun t => posN (S b) (t - Lb)) t + 1))), (6, .int (nI t)), (0, .ref (ga G (5 * h + 4))), (1, .int (nI a)), (2, .int (nI La)), (3, .int (nI b)), (4, .int (nI Lb))]) hx hb dX0_hoursTogether_41 hl (k := 0) rfl (inc1 (meetN (fun t => posN (S a) (t - La)) (fun t => posN (S b) (t - Lb)) t)) (by decide) rfl (fun ls hl => ?_)
          refine lv_iinc (v := nI (t + 1)) (lv' := [(6, .int (nI (t + 1))), (5, .int (nI (meetN (fun t => posN (S a) (t - La)) (fun t => posN (S b) (t - Lb)) t + 1))), (0, .ref (ga G (5 * h + 4))), (1, .int (nI a)), (2, .int (nI La)), (3, .int (nI b)), (4, .int (nI Lb))]) hx hb dX0_hoursTogether_44 hl (k := 1) rfl (inc1 t) (by decide) rfl (fun ls hl => ?_)
          refine lv_goto (tgt := 6) hx hb dX0_hoursTogether_47 (by decide) ?_
          exact ih_6 (t + 1) _ _ (by omega) (by first | exact congrArg nI (meetN_y q_38) | exact congrArg nI (meetN_n q_38)) rfl (by omega) ls (lv_sub hl [1, 0, 2, 3, 4, 5, 6] rfl)
  exact loop_6 _ 0 _ _ (Nat.lt_succ_self _) rfl rfl (by omega) ls (lv_sub hl [1, 0, 2, 3, 4, 5, 6] rfl)
set_option maxHeartbeats 4000000 in
set_option maxRecDepth 100000 in
theorem c_X0_meetings (l : Launch) (G : Gam) (σ : St) (h : Nat) (hh : h < 2) (n : Nat) (S : Nat → Sk) (q : Nat) (V : Nat → Nat) (ch : Int32) (hg : GH σ h n S q V ch) (i : Nat) (ha : i < 50 ∧ ∀ r, cX G r i = .inl (gI G, 6, .inl r)) (L : Nat → Nat) (hL : ∀ k, k < n → σ (i) k = nI (L k) ∧ L k ≤ 9) : Met l yX0_meetings (w1 yX0_meetings cX0_meetings 5 (some .int)) ({ frames := 2, cells := 0, slots := 0, locals := 49 }) (PcX G σ [.ref (ga G (5 * h + 4)), .ref (ga G i)]) (vp_Si (fun r => r = nI (ouN (meL S L) n n))) 0 0 (fun _ => False) := by
  refine met_of [.ref (ga G (5 * h + 4)), .ref (ga G i)] [(0, .ref (ga G (5 * h + 4))), (1, .ref (ga G i))] (by decide) (Nat.le_of_ble_eq_true rfl) rfl ?_
  intro p e s m below meth c hx hb hr hown hml hlocks hW ls hl
  have hG : GW s := hW.2.2.2.1
  have hn6 := hg.1.2
  have hq8 := hg.2.2.1.2
  refine lv_iconst (v := 0) hx hb dX0_meetings_0 (by decide) ?_
  refine lv_istore_n (lv' := [(2, .int 0), (0, .ref (ga G (5 * h + 4))), (1, .ref (ga G i))]) hx hb dX0_meetings_1 rfl hl (by decide) rfl (fun ls hl => ?_)
  refine lv_iconst (v := 0) hx hb dX0_meetings_2 (by decide) ?_
  refine lv_istore_n (lv' := [(3, .int 0), (2, .int 0), (0, .ref (ga G (5 * h + 4))), (1, .ref (ga G i))]) hx hb dX0_meetings_3 rfl hl (by decide) rfl (fun ls hl => ?_)
  have loop_4 : ∀ (N9 : Nat) (a : Nat) (tt : Int32) (ao : Int32), n - a < N9 → tt = nI (ouN (meL S L) n a) → ao = nI a → a ≤ n → ∀ ls : Array Slot, lv_has ls 5 [(2, .int tt), (3, .int ao), (0, .ref (ga G (5 * h + 4))), (1, .ref (ga G i))] → W p l e (headSpec (w1 yX0_meetings cX0_meetings 5 (some .int)) ({ frames := 2, cells := 0, slots := 0, locals := 49 })).room s m [.ref (ga G (5 * h + 4)), .ref (ga G i)].toArray below meth c s.heap [] 0 0 (MQ below (vp_Si (fun r => r = nI (ouN (meL S L) n n))) [.ref (ga G (5 * h + 4)), .ref (ga G i)].toArray s 0 0 (fun _ => False)) (F0 m 4 ls []) := by
    intro N9
    induction N9 with
    | zero => intro a tt ao hN; exact absurd hN (Nat.not_lt_zero _)
    | succ N9 ih =>
      intro a tt ao hN e_tt e_ao hi0_4 ls hl
      subst e_tt
      subst e_ao
      have ih_4 := ih
      refine lv_iload_n hx hb dX0_meetings_4 rfl (lv_at hl 1 rfl) ?_
      refine lv_aload_n hx hb dX0_meetings_5 rfl (lv_at hl 2 rfl) ?_
      refine rd_X0_31 hx hb hown hW hh dX0_meetings_6 ?_
      refine lv_eqi (y := nI n) hg.1.1 ?_
      refine lv_icmp_ge (tgt := 55) hx hb dX0_meetings_9 (by decide) (fun c_9 => ?_) (fun c_9 => ?_)
      · skip
        have q_9 := tN_le n a c_9 rfl rfl (by omega) (by omega)
        refine lv_iload_n hx hb dX0_meetings_55 rfl (lv_at hl 0 rfl) ?_
        exact W.iret (v := nI (ouN (meL S L) n a)) hx hb hr (fun t9 ht9 hW9 => ⟨_, rfl, (by have h9 : a = n := (by omega); subst h9; rfl), ht9⟩) (fun q h => by cases h) dX0_meetings_56
      · skip
        have q_9 := tN_nle n a c_9 rfl rfl (by omega) (by omega)
        refine lv_iload_n hx hb dX0_meetings_12 rfl (lv_at hl 1 rfl) ?_
        refine lv_iconst (v := 1) hx hb dX0_meetings_13 (by decide) ?_
        refine ln_add a 1 hx hb rfl rfl dX0_meetings_14 ?_
        refine lv_istore (lv' := [(4, .int (nI (a + 1))), (2, .int (nI (ouN (meL S L) n a))), (3, .int (nI a)), (0, .ref (ga G (5 * h + 4))), (1, .ref (ga G i))]) hx hb dX0_meetings_15 hl (by decide) rfl (fun ls hl => ?_)
        have loop_17 : ∀ (N9 : Nat) (j : Nat) (tt : Int32) (bo : Int32), n - j < N9 → tt = nI (ouN (meL S L) n a + inN (meL S L) a j) → bo = nI (a + 1 + j) → a + 1 + j ≤ n → ∀ ls : Array Slot, lv_has ls 5 [(2, .int tt), (4, .int bo), (3, .int (nI a)), (0, .ref (ga G (5 * h + 4))), (1, .ref (ga G i))] → W p l e (headSpec (w1 yX0_meetings cX0_meetings 5 (some .int)) ({ frames := 2, cells := 0, slots := 0, locals := 49 })).room s m [.ref (ga G (5 * h + 4)), .ref (ga G i)].toArray below meth c s.heap [] 0 0 (MQ below (vp_Si (fun r => r = nI (ouN (meL S L) n n))) [.ref (ga G (5 * h + 4)), .ref (ga G i)].toArray s 0 0 (fun _ => False)) (F0 m 17 ls []) := by
          intro N9
          induction N9 with
          | zero => intro j tt bo hN; exact absurd hN (Nat.not_lt_zero _)
          | succ N9 ih =>
            intro j tt bo hN e_tt e_bo hi0_17 ls hl
            subst e_tt
            subst e_bo
            have ih_17 := ih
            refine lv_iload hx hb dX0_meetings_17 (lv_at hl 1 rfl) ?_
            refine lv_aload_n hx hb dX0_meetings_19 rfl (lv_at hl 3 rfl) ?_
            refine rd_X0_31 hx hb hown hW hh dX0_meetings_20 ?_
            refine lv_eqi (y := nI n) hg.1.1 ?_
            refine lv_icmp_ge (tgt := 49) hx hb dX0_meetings_23 (by decide) (fun c_23 => ?_) (fun c_23 => ?_)
            · skip
              have q_23 := tN_le n (a + 1 + j) c_23 rfl rfl (by omega) (by omega)
              refine lv_iinc (v := nI (a + 1)) (lv' := [(3, .int (nI (a + 1))), (2, .int (nI (ouN (meL S L) n a + inN (meL S L) a j))), (4, .int (nI (a + 1 + j))), (0, .ref (ga G (5 * h + 4))), (1, .ref (ga G i))]) hx hb dX0_meetings_49 hl (k := 2) rfl (inc1 a) (by decide) rfl (fun ls hl => ?_)
              refine lv_goto (tgt := 4) hx hb dX0_meetings_52 (by decide) ?_
              exact ih_4 (a + 1) _ _ (by omega) (by have h9 : j = n - 1 - a := (by omega); subst h9; rfl) rfl (by omega) ls (lv_sub hl [1, 0, 3, 4] rfl)
            · skip
              have q_23 := tN_nle n (a + 1 + j) c_23 rfl rfl (by omega) (by omega)
              refine lv_iload_n hx hb dX0_meetings_26 rfl (lv_at hl 0 rfl) ?_
              refine lv_aload_n hx hb dX0_meetings_27 rfl (lv_at hl 3 rfl) ?_
              refine lv_iload_n hx hb dX0_meetings_28 rfl (lv_at hl 2 rfl) ?_
              refine lv_aload_n hx hb dX0_meetings_29 rfl (lv_at hl 4 rfl) ?_
              refine lv_iload_n hx hb dX0_meetings_30 rfl (lv_at hl 2 rfl) ?_
              refine al_any (k := a) hx hb hW ha rfl (by omega) dX0_meetings_31 ?_
              refine lv_eqi (y := nI (L a)) (hL a (by omega)).1 ?_
              refine lv_iload hx hb dX0_meetings_32 (lv_at hl 1 rfl) ?_
              refine lv_aload_n hx hb dX0_meetings_34 rfl (lv_at hl 4 rfl) ?_
              refine lv_iload hx hb dX0_meetings_35 (lv_at hl 1 rfl) ?_
              refine al_any (k := a + 1 + j) hx hb hW ha rfl (by omega) dX0_meetings_37 ?_
              refine lv_eqi (y := nI (L (a + 1 + j))) (hL (a + 1 + j) (by omega)).1 ?_
              refine cr_i (q := 510) [.int (nI a), .int (nI (L a)), .int (nI (a + 1 + j)), .int (nI (L (a + 1 + j)))] hx hb hml hown hG v_X0_hoursTogether (by decide +kernel) (c_X0_hoursTogether l G σ h hh n S q V ch hg a (L a) (a + 1 + j) (L (a + 1 + j)) (by omega) (by omega) (hL a (by omega)).2 (hL (a + 1 + j) (by omega)).2) (preH hW hh _) rfl hl.1 (Nat.le_of_ble_eq_true rfl) dX0_meetings_38 ⟨rfl, rfl, Nat.le_of_ble_eq_true rfl, Nat.le_of_ble_eq_true rfl⟩ ⟨Nat.le_of_ble_eq_true rfl, Nat.le_of_ble_eq_true rfl⟩ ?_
              refine ln_add (ouN (meL S L) n a + inN (meL S L) a j) (meL S L a (a + 1 + j)) hx hb rfl rfl dX0_meetings_41 ?_
              refine lv_istore_n (lv' := [(2, .int (nI ((ouN (meL S L) n a + inN (meL S L) a j) + (meL S L a (a + 1 + j))))), (4, .int (nI (a + 1 + j))), (3, .int (nI a)), (0, .ref (ga G (5 * h + 4))), (1, .ref (ga G i))]) hx hb dX0_meetings_42 rfl hl (by decide) rfl (fun ls hl => ?_)
              refine lv_iinc (v := nI (a + 1 + j + 1)) (lv' := [(4, .int (nI (a + 1 + j + 1))), (2, .int (nI ((ouN (meL S L) n a + inN (meL S L) a j) + (meL S L a (a + 1 + j))))), (3, .int (nI a)), (0, .ref (ga G (5 * h + 4))), (1, .ref (ga G i))]) hx hb dX0_meetings_43 hl (k := 1) rfl (inc1 (a + 1 + j)) (by decide) rfl (fun ls hl => ?_)
              refine lv_goto (tgt := 17) hx hb dX0_meetings_46 (by decide) ?_
              exact ih_17 (j + 1) _ _ (by omega) (by rw [Nat.add_assoc]; rfl) rfl (by omega) ls (lv_sub hl [1, 0, 2, 3, 4] rfl)
        exact loop_17 _ 0 _ _ (Nat.lt_succ_self _) rfl rfl (by omega) ls (lv_sub hl [1, 0, 2, 3, 4] rfl)
  exact loop_4 _ 0 _ _ (Nat.lt_succ_self _) rfl rfl (by omega) ls (lv_sub hl [1, 0, 2, 3] rfl)
set_option maxHeartbeats 4000000 in
set_option maxRecDepth 100000 in
theorem c_X0_stepsOfAll (l : Launch) (G : Gam) (σ : St) (h : Nat) (hh : h < 2) (n : Nat) (S : Nat → Sk) (q : Nat) (V : Nat → Nat) (ch : Int32) (hg : GH σ h n S q V ch) : Met l yX0_stepsOfAll (w1 yX0_stepsOfAll cX0_stepsOfAll 3 (some .int)) ({ frames := 0, cells := 0, slots := 0, locals := 0 }) (PcX G σ [.ref (ga G (5 * h + 4))]) (vp_Si (fun r => r = nI (sumN (fun k => S k 3) n))) 0 0 (fun _ => False) := by
  refine met_of [.ref (ga G (5 * h + 4))] [(0, .ref (ga G (5 * h + 4)))] (by decide) (Nat.le_of_ble_eq_true rfl) rfl ?_
  intro p e s m below meth c hx hb hr hown hml hlocks hW ls hl
  have hG : GW s := hW.2.2.2.1
  have hn6 := hg.1.2
  have hq8 := hg.2.2.1.2
  refine lv_iconst (v := 0) hx hb dX0_stepsOfAll_0 (by decide) ?_
  refine lv_istore_n (lv' := [(1, .int 0), (0, .ref (ga G (5 * h + 4)))]) hx hb dX0_stepsOfAll_1 rfl hl (by decide) rfl (fun ls hl => ?_)
  refine lv_iconst (v := 0) hx hb dX0_stepsOfAll_2 (by decide) ?_
  refine lv_istore_n (lv' := [(2, .int 0), (1, .int 0), (0, .ref (ga G (5 * h + 4)))]) hx hb dX0_stepsOfAll_3 rfl hl (by decide) rfl (fun ls hl => ?_)
  have loop_4 : ∀ (N9 : Nat) (i : Nat) (tt : Int32) (io : Int32), n - i < N9 → tt = nI (sumN (fun k => S k 3) i) → io = nI i → i ≤ n → ∀ ls : Array Slot, lv_has ls 3 [(1, .int tt), (2, .int io), (0, .ref (ga G (5 * h + 4)))] → W p l e (headSpec (w1 yX0_stepsOfAll cX0_stepsOfAll 3 (some .int)) ({ frames := 0, cells := 0, slots := 0, locals := 0 })).room s m [.ref (ga G (5 * h + 4))].toArray below meth c s.heap [] 0 0 (MQ below (vp_Si (fun r => r = nI (sumN (fun k => S k 3) n))) [.ref (ga G (5 * h + 4))].toArray s 0 0 (fun _ => False)) (F0 m 4 ls []) := by
    intro N9
    induction N9 with
    | zero => intro i tt io hN; exact absurd hN (Nat.not_lt_zero _)
    | succ N9 ih =>
      intro i tt io hN e_tt e_io hi0_4 ls hl
      subst e_tt
      subst e_io
      have ih_4 := ih
      refine lv_iload_n hx hb dX0_stepsOfAll_4 rfl (lv_at hl 1 rfl) ?_
      refine lv_aload_n hx hb dX0_stepsOfAll_5 rfl (lv_at hl 2 rfl) ?_
      refine rd_X0_31 hx hb hown hW hh dX0_stepsOfAll_6 ?_
      refine lv_eqi (y := nI n) hg.1.1 ?_
      refine lv_icmp_ge (tgt := 30) hx hb dX0_stepsOfAll_9 (by decide) (fun c_9 => ?_) (fun c_9 => ?_)
      · skip
        have q_9 := tN_le n i c_9 rfl rfl (by omega) (by omega)
        refine lv_iload_n hx hb dX0_stepsOfAll_30 rfl (lv_at hl 0 rfl) ?_
        exact W.iret (v := nI (sumN (fun k => S k 3) i)) hx hb hr (fun t9 ht9 hW9 => ⟨_, rfl, (by have h9 : i = n := (by omega); subst h9; rfl), ht9⟩) (fun q h => by cases h) dX0_stepsOfAll_31
      · skip
        have q_9 := tN_nle n i c_9 rfl rfl (by omega) (by omega)
        refine lv_iload_n hx hb dX0_stepsOfAll_12 rfl (lv_at hl 0 rfl) ?_
        refine lv_aload_n hx hb dX0_stepsOfAll_13 rfl (lv_at hl 2 rfl) ?_
        refine rd_X0_11 hx hb hown hW hh dX0_stepsOfAll_14 ?_
        refine lv_iload_n hx hb dX0_stepsOfAll_17 rfl (lv_at hl 1 rfl) ?_
        refine al_sticks (k := i) hx hb hW hh rfl (by omega) dX0_stepsOfAll_18 ?_
        refine rd_X0_70 hx hb hown hW (by omega) dX0_stepsOfAll_19 ?_
        refine lv_eqi (y := nI (S i 3)) (hg.2.2.2.1 i (by omega)).2.1.2.2.1 ?_
        refine ln_add (sumN (fun k => S k 3) i) (S i 3) hx hb rfl rfl dX0_stepsOfAll_22 ?_
        refine lv_istore_n (lv' := [(1, .int (nI ((sumN (fun k => S k 3) i) + (S i 3)))), (2, .int (nI i)), (0, .ref (ga G (5 * h + 4)))]) hx hb dX0_stepsOfAll_23 rfl hl (by decide) rfl (fun ls hl => ?_)
        refine lv_iinc (v := nI (i + 1)) (lv' := [(2, .int (nI (i + 1))), (1, .int (nI ((sumN (fun k => S k 3) i) + (S i 3)))), (0, .ref (ga G (5 * h + 4)))]) hx hb dX0_stepsOfAll_24 hl (k := 1) rfl (inc1 i) (by decide) rfl (fun ls hl => ?_)
        refine lv_goto (tgt := 4) hx hb dX0_stepsOfAll_27 (by decide) ?_
        exact ih_4 (i + 1) _ _ (by omega) rfl rfl (by omega) ls (lv_sub hl [1, 0, 2] rfl)
  exact loop_4 _ 0 _ _ (Nat.lt_succ_self _) rfl rfl (by omega) ls (lv_sub hl [1, 0, 2] rfl)
set_option maxHeartbeats 4000000 in
set_option maxRecDepth 100000 in
theorem c_X0_placesSeenBy (l : Launch) (G : Gam) (σ : St) (h : Nat) (hh : h < 2) (n : Nat) (S : Nat → Sk) (q : Nat) (V : Nat → Nat) (ch : Int32) (hg : GH σ h n S q V ch) (g : Nat) (h6 : g < 64) : Met l yX0_placesSeenBy (w1 yX0_placesSeenBy cX0_placesSeenBy 4 (some .int)) ({ frames := 0, cells := 0, slots := 0, locals := 0 }) (PcX G σ [.ref (ga G (5 * h + 4)), .int (nI g)]) (vp_Si (fun r => r = nI (grN (fun i => orN (posN (S i)) 31) g n))) 0 0 (fun _ => False) := by
  refine met_of [.ref (ga G (5 * h + 4)), .int (nI g)] [(0, .ref (ga G (5 * h + 4))), (1, .int (nI g))] (by decide) (Nat.le_of_ble_eq_true rfl) rfl ?_
  intro p e s m below meth c hx hb hr hown hml hlocks hW ls hl
  have hG : GW s := hW.2.2.2.1
  have hn6 := hg.1.2
  have hq8 := hg.2.2.1.2
  refine lv_iconst (v := 0) hx hb dX0_placesSeenBy_0 (by decide) ?_
  refine lv_istore_n (lv' := [(2, .int 0), (0, .ref (ga G (5 * h + 4))), (1, .int (nI g))]) hx hb dX0_placesSeenBy_1 rfl hl (by decide) rfl (fun ls hl => ?_)
  refine lv_iconst (v := 0) hx hb dX0_placesSeenBy_2 (by decide) ?_
  refine lv_istore_n (lv' := [(3, .int 0), (2, .int 0), (0, .ref (ga G (5 * h + 4))), (1, .int (nI g))]) hx hb dX0_placesSeenBy_3 rfl hl (by decide) rfl (fun ls hl => ?_)
  have loop_4 : ∀ (N9 : Nat) (i : Nat) (tt : Int32) (io : Int32), n - i < N9 → tt = nI (grN (fun i => orN (posN (S i)) 31) g i) → io = nI i → i ≤ n → ∀ ls : Array Slot, lv_has ls 4 [(2, .int tt), (3, .int io), (0, .ref (ga G (5 * h + 4))), (1, .int (nI g))] → W p l e (headSpec (w1 yX0_placesSeenBy cX0_placesSeenBy 4 (some .int)) ({ frames := 0, cells := 0, slots := 0, locals := 0 })).room s m [.ref (ga G (5 * h + 4)), .int (nI g)].toArray below meth c s.heap [] 0 0 (MQ below (vp_Si (fun r => r = nI (grN (fun i => orN (posN (S i)) 31) g n))) [.ref (ga G (5 * h + 4)), .int (nI g)].toArray s 0 0 (fun _ => False)) (F0 m 4 ls []) := by
    intro N9
    induction N9 with
    | zero => intro i tt io hN; exact absurd hN (Nat.not_lt_zero _)
    | succ N9 ih =>
      intro i tt io hN e_tt e_io hi0_4 ls hl
      subst e_tt
      subst e_io
      have ih_4 := ih
      refine lv_iload_n hx hb dX0_placesSeenBy_4 rfl (lv_at hl 1 rfl) ?_
      refine lv_aload_n hx hb dX0_placesSeenBy_5 rfl (lv_at hl 2 rfl) ?_
      refine rd_X0_31 hx hb hown hW hh dX0_placesSeenBy_6 ?_
      refine lv_eqi (y := nI n) hg.1.1 ?_
      refine lv_icmp_ge (tgt := 39) hx hb dX0_placesSeenBy_9 (by decide) (fun c_9 => ?_) (fun c_9 => ?_)
      · skip
        have q_9 := tN_le n i c_9 rfl rfl (by omega) (by omega)
        refine lv_iload_n hx hb dX0_placesSeenBy_39 rfl (lv_at hl 0 rfl) ?_
        exact W.iret (v := nI (grN (fun i => orN (posN (S i)) 31) g i)) hx hb hr (fun t9 ht9 hW9 => ⟨_, rfl, (by have h9 : i = n := (by omega); subst h9; rfl), ht9⟩) (fun q h => by cases h) dX0_placesSeenBy_40
      · skip
        have q_9 := tN_nle n i c_9 rfl rfl (by omega) (by omega)
        refine lv_iload_n hx hb dX0_placesSeenBy_12 rfl (lv_at hl 3 rfl) ?_
        refine lv_iload_n hx hb dX0_placesSeenBy_13 rfl (lv_at hl 1 rfl) ?_
        refine lv_ishr hx hb dX0_placesSeenBy_14 ?_
        refine lv_iconst (v := 1) hx hb dX0_placesSeenBy_15 (by decide) ?_
        refine lv_iand hx hb dX0_placesSeenBy_16 ?_
        refine lv_eqi (y := nI (g / 2 ^ i % 2)) (bitT (by omega) (by omega)) ?_
        refine lv_iconst (v := 1) hx hb dX0_placesSeenBy_17 (by decide) ?_
        refine lv_icmp_ne (tgt := 33) hx hb dX0_placesSeenBy_18 (by decide) (fun c_18 => ?_) (fun c_18 => ?_)
        · skip
          have q_18 := tN_ne (g / 2 ^ i % 2) 1 c_18 rfl rfl (by omega) (by omega)
          refine lv_iinc (v := nI (i + 1)) (lv' := [(3, .int (nI (i + 1))), (2, .int (nI (grN (fun i => orN (posN (S i)) 31) g i))), (0, .ref (ga G (5 * h + 4))), (1, .int (nI g))]) hx hb dX0_placesSeenBy_33 hl (k := 1) rfl (inc1 i) (by decide) rfl (fun ls hl => ?_)
          refine lv_goto (tgt := 4) hx hb dX0_placesSeenBy_36 (by decide) ?_
          exact ih_4 (i + 1) _ _ (by omega) (by rw [grN]; first | rw [if_pos q_18] | rw [if_neg q_18]) rfl (by omega) ls (lv_sub hl [1, 0, 2, 3] rfl)
        · skip
          have q_18 := tN_eq (g / 2 ^ i % 2) 1 c_18 rfl rfl (by omega) (by omega)
          refine lv_iload_n hx hb dX0_placesSeenBy_21 rfl (lv_at hl 0 rfl) ?_
          refine lv_aload_n hx hb dX0_placesSeenBy_22 rfl (lv_at hl 2 rfl) ?_
          refine rd_X0_11 hx hb hown hW hh dX0_placesSeenBy_23 ?_
          refine lv_iload_n hx hb dX0_placesSeenBy_26 rfl (lv_at hl 1 rfl) ?_
          refine al_sticks (k := i) hx hb hW hh rfl (by omega) dX0_placesSeenBy_27 ?_
          refine rd_X0_94 hx hb hown hW (by omega) dX0_placesSeenBy_28 ?_
          refine lv_eqi (y := nI (orN (posN (S i)) 31)) (hg.2.2.2.1 i (by omega)).2.2.1.2 ?_
          refine lv_ior hx hb dX0_placesSeenBy_31 ?_
          refine lv_eqi (y := nI ((grN (fun i => orN (posN (S i)) 31) g i) ||| (orN (posN (S i)) 31))) (nI_or (grN (fun i => orN (posN (S i)) 31) g i) (orN (posN (S i)) 31)) ?_
          refine lv_istore_n (lv' := [(2, .int (nI ((grN (fun i => orN (posN (S i)) 31) g i) ||| (orN (posN (S i)) 31)))), (3, .int (nI i)), (0, .ref (ga G (5 * h + 4))), (1, .int (nI g))]) hx hb dX0_placesSeenBy_32 rfl hl (by decide) rfl (fun ls hl => ?_)
          refine lv_iinc (v := nI (i + 1)) (lv' := [(3, .int (nI (i + 1))), (2, .int (nI ((grN (fun i => orN (posN (S i)) 31) g i) ||| (orN (posN (S i)) 31)))), (0, .ref (ga G (5 * h + 4))), (1, .int (nI g))]) hx hb dX0_placesSeenBy_33 hl (k := 1) rfl (inc1 i) (by decide) rfl (fun ls hl => ?_)
          refine lv_goto (tgt := 4) hx hb dX0_placesSeenBy_36 (by decide) ?_
          exact ih_4 (i + 1) _ _ (by omega) (by rw [grN]; first | rw [if_pos q_18] | rw [if_neg q_18]) rfl (by omega) ls (lv_sub hl [1, 0, 2, 3] rfl)
  exact loop_4 _ 0 _ _ (Nat.lt_succ_self _) rfl rfl (by omega) ls (lv_sub hl [1, 0, 2, 3] rfl)
set_option maxHeartbeats 4000000 in
set_option maxRecDepth 100000 in
theorem c_X0_placesSeen (l : Launch) (G : Gam) (σ : St) (h : Nat) (hh : h < 2) (n : Nat) (S : Nat → Sk) (q : Nat) (V : Nat → Nat) (ch : Int32) (hg : GH σ h n S q V ch) : Met l yX0_placesSeen (w1 yX0_placesSeen cX0_placesSeen 1 (some .int)) ({ frames := 1, cells := 0, slots := 0, locals := 23 }) (PcX G σ [.ref (ga G (5 * h + 4))]) (vp_Si (fun r => r = nI (grN (fun i => orN (posN (S i)) 31) (2 ^ n - 1) n))) 0 0 (fun _ => False) := by
  refine met_of [.ref (ga G (5 * h + 4))] [(0, .ref (ga G (5 * h + 4)))] (by decide) (Nat.le_of_ble_eq_true rfl) rfl ?_
  intro p e s m below meth c hx hb hr hown hml hlocks hW ls hl
  have hG : GW s := hW.2.2.2.1
  have hn6 := hg.1.2
  have hq8 := hg.2.2.1.2
  have h2n : 2 ^ n ≤ 2 ^ 6 := Nat.pow_le_pow_right (by omega) hn6
  have h1n : 1 ≤ 2 ^ n := Nat.one_le_two_pow
  refine lv_aload_n hx hb dX0_placesSeen_0 rfl (lv_at hl 0 rfl) ?_
  refine lv_iconst (v := 1) hx hb dX0_placesSeen_1 (by decide) ?_
  refine lv_aload_n hx hb dX0_placesSeen_2 rfl (lv_at hl 0 rfl) ?_
  refine rd_X0_31 hx hb hown hW hh dX0_placesSeen_3 ?_
  refine lv_eqi (y := nI n) hg.1.1 ?_
  refine lv_ishl hx hb dX0_placesSeen_6 ?_
  refine lv_eqi (y := nI (2 ^ n)) (bitI n (by omega)) ?_
  refine lv_iconst (v := 1) hx hb dX0_placesSeen_7 (by decide) ?_
  refine ln_sub (2 ^ n) 1 hx hb rfl rfl (by omega) dX0_placesSeen_8 ?_
  refine cr_i (q := 433) [.int (nI ((2 ^ n) - 1))] hx hb hml hown hG v_X0_placesSeenBy (by decide +kernel) (c_X0_placesSeenBy l G σ h hh n S q V ch hg (2 ^ n - 1) (by omega)) (preH hW hh _) rfl hl.1 (Nat.le_of_ble_eq_true rfl) dX0_placesSeen_9 ⟨rfl, rfl, Nat.le_of_ble_eq_true rfl, Nat.le_of_ble_eq_true rfl⟩ ⟨Nat.le_of_ble_eq_true rfl, Nat.le_of_ble_eq_true rfl⟩ ?_
  exact W.iret (v := nI (grN (fun i => orN (posN (S i)) 31) (2 ^ n - 1) n)) hx hb hr (fun t9 ht9 hW9 => ⟨_, rfl, rfl, ht9⟩) (fun q h => by cases h) dX0_placesSeen_12
