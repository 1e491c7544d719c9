theorem inI (x : Int32) (m : Nat) (M : Int64) (hM : M = lN m) (hm : m < 1000000) : inL x.toInt64 0 M = hasB x (m + 1) := by rw [hM]; exact inL_h x m hm
set_option maxHeartbeats 4000000 in
set_option maxRecDepth 100000 in
theorem c_X4_as (l : Launch) (G : Gam) (μ : St) (hs : Int64) (n : Nat) (S : Nat → Sk) (q : Nat) (V : Nat → Nat) (ch : Int32) (hg : RM μ n S q V ch) (x y : Int32) : Met l yX4_as (w1 yX4_as cX4_as 5 (some .int)) ({ frames := 2, cells := 0, slots := 0, locals := 46 }) (PcM G μ hs [.ref (gm G 0), .int x, .int y]) (vp_Si (fun r => r = aAs n S x y)) 0 0 (fun _ => False) := by
  have hn6 := hg.1.2
  have hq8 := hg.2.2.1.2
  rcases hasB_c x (n := n) (by omega) with hx0 | ⟨k, hk, rfl⟩
  · skip
    refine met_of [.ref (gm G 0), .int x, .int y] [(0, .ref (gm G 0)), (1, .int x), (2, .int y)] (by decide) (Nat.le_of_ble_eq_true rfl) rfl ?_
    intro p e s m below meth c hx hb hr hown hml hlocks hW ls hl
    have hG : GW s := hW.2.2.2
    refine lv_aload_n hx hb dX4_as_0 rfl (lv_at hl 0 rfl) ?_
    refine lv_iload_n hx hb dX4_as_1 rfl (lv_at hl 1 rfl) ?_
    refine cr_i (q := 676) [.int x] hx hb hml hown hG v_X4_isStick (by decide +kernel) (c_X4_isStick l G μ hs n S q V ch hg (x)) (preM hW _) rfl hl.1 (Nat.le_of_ble_eq_true rfl) dX4_as_2 ⟨rfl, rfl, Nat.le_of_ble_eq_true rfl, Nat.le_of_ble_eq_true rfl⟩ ⟨Nat.le_of_ble_eq_true rfl, Nat.le_of_ble_eq_true rfl⟩ ?_
    refine lv_eqi (y := 0) (by rw [hx0]; rfl) ?_
    refine lv_if_ne (tgt := 11) hx hb dX4_as_5 (by decide) (fun c_5 => ?_) (fun c_5 => ?_)
    · skip
      exact absurd (by decide) c_5
    · skip
      refine lv_bipush (v := (-101)) hx hb dX4_as_8 (by decide) ?_
      exact W.iret (v := (-101)) hx hb hr (fun t9 ht9 hW9 => ⟨_, rfl, (wK_f hx0).symm, ht9⟩) (fun q h => by cases h) dX4_as_10
  · skip
    rcases hasB_c y (n := 5) (by omega) with hy0 | ⟨t, ht, rfl⟩
    · skip
      refine met_of [.ref (gm G 0), .int (nI k), .int y] [(0, .ref (gm G 0)), (1, .int (nI k)), (2, .int y)] (by decide) (Nat.le_of_ble_eq_true rfl) rfl ?_
      intro p e s m below meth c hx hb hr hown hml hlocks hW ls hl
      have hG : GW s := hW.2.2.2
      refine lv_aload_n hx hb dX4_as_0 rfl (lv_at hl 0 rfl) ?_
      refine lv_iload_n hx hb dX4_as_1 rfl (lv_at hl 1 rfl) ?_
      refine cr_i (q := 676) [.int (nI k)] hx hb hml hown hG v_X4_isStick (by decide +kernel) (c_X4_isStick l G μ hs n S q V ch hg (nI k)) (preM hW _) rfl hl.1 (Nat.le_of_ble_eq_true rfl) dX4_as_2 ⟨rfl, rfl, Nat.le_of_ble_eq_true rfl, Nat.le_of_ble_eq_true rfl⟩ ⟨Nat.le_of_ble_eq_true rfl, Nat.le_of_ble_eq_true rfl⟩ ?_
      refine lv_eqi (y := 1) (by rw [hasB_k hk (by omega)]; rfl) ?_
      refine lv_if_ne (tgt := 11) hx hb dX4_as_5 (by decide) (fun c_5 => ?_) (fun c_5 => ?_)
      · skip
        refine lv_iload_n hx hb dX4_as_11 rfl (lv_at hl 2 rfl) ?_
        refine lv_i2l hx hb dX4_as_12 rfl ?_
        refine lv_lconst (v := 0) hx hb dX4_as_13 rfl ?_
        refine lv_ldc2 (v := 4) hx hb hown (hG.use (i := 717) (by decide +kernel) rfl _) dX4_as_14 ?_
        refine cs_i (q := 641) [.long ((y : Int32).toInt64), .long 0, .long 4] hx hb hml hown hG v_X4_in (by decide +kernel) (c_X4_in l ((y : Int32).toInt64) (0) (4)) (preT _) rfl hl.1 (Nat.le_of_ble_eq_true rfl) dX4_as_17 ⟨rfl, rfl, Nat.le_of_ble_eq_true rfl, Nat.le_of_ble_eq_true rfl⟩ ⟨Nat.le_of_ble_eq_true rfl, Nat.le_of_ble_eq_true rfl⟩ ?_
        refine lv_eqi (y := 0) (by rw [inI _ 4 4 rfl (by omega), hy0]; rfl) ?_
        refine lv_if_ne (tgt := 26) hx hb dX4_as_20 (by decide) (fun c_20 => ?_) (fun c_20 => ?_)
        · skip
          exact absurd (by decide) c_20
        · skip
          refine lv_bipush (v := (-102)) hx hb dX4_as_23 (by decide) ?_
          exact W.iret (v := (-102)) hx hb hr (fun t9 ht9 hW9 => ⟨_, rfl, (by rw [aAs, wK_k hk (by omega), wK_f hy0]), ht9⟩) (fun q h => by cases h) dX4_as_25
      · skip
        exact absurd c_5 (by decide)
    · skip
      refine met_of [.ref (gm G 0), .int (nI k), .int (nI t)] [(0, .ref (gm G 0)), (1, .int (nI k)), (2, .int (nI t))] (by decide) (Nat.le_of_ble_eq_true rfl) rfl ?_
      intro p e s m below meth c hx hb hr hown hml hlocks hW ls hl
      have hG : GW s := hW.2.2.2
      refine lv_aload_n hx hb dX4_as_0 rfl (lv_at hl 0 rfl) ?_
      refine lv_iload_n hx hb dX4_as_1 rfl (lv_at hl 1 rfl) ?_
      refine cr_i (q := 676) [.int (nI k)] hx hb hml hown hG v_X4_isStick (by decide +kernel) (c_X4_isStick l G μ hs n S q V ch hg (nI k)) (preM hW _) rfl hl.1 (Nat.le_of_ble_eq_true rfl) dX4_as_2 ⟨rfl, rfl, Nat.le_of_ble_eq_true rfl, Nat.le_of_ble_eq_true rfl⟩ ⟨Nat.le_of_ble_eq_true rfl, Nat.le_of_ble_eq_true rfl⟩ ?_
      refine lv_eqi (y := 1) (by rw [hasB_k hk (by omega)]; rfl) ?_
      refine lv_if_ne (tgt := 11) hx hb dX4_as_5 (by decide) (fun c_5 => ?_) (fun c_5 => ?_)
      · skip
        refine lv_iload_n hx hb dX4_as_11 rfl (lv_at hl 2 rfl) ?_
        refine lv_i2l hx hb dX4_as_12 rfl ?_
        refine lv_lconst (v := 0) hx hb dX4_as_13 rfl ?_
        refine lv_ldc2 (v := 4) hx hb hown (hG.use (i := 717) (by decide +kernel) rfl _) dX4_as_14 ?_
        refine cs_i (q := 641) [.long ((nI t : Int32).toInt64), .long 0, .long 4] hx hb hml hown hG v_X4_in (by decide +kernel) (c_X4_in l ((nI t : Int32).toInt64) (0) (4)) (preT _) rfl hl.1 (Nat.le_of_ble_eq_true rfl) dX4_as_17 ⟨rfl, rfl, Nat.le_of_ble_eq_true rfl, Nat.le_of_ble_eq_true rfl⟩ ⟨Nat.le_of_ble_eq_true rfl, Nat.le_of_ble_eq_true rfl⟩ ?_
        refine lv_eqi (y := 1) (by rw [inI _ 4 4 rfl (by omega), hasB_k ht (by omega)]; rfl) ?_
        refine lv_if_ne (tgt := 26) hx hb dX4_as_20 (by decide) (fun c_20 => ?_) (fun c_20 => ?_)
        · skip
          have hv0 := (hg.2.2.2.1 k hk).1.1
          refine lv_aload_n hx hb dX4_as_26 rfl (lv_at hl 0 rfl) ?_
          refine rd_X4_16 hx hb hown hW dX4_as_27 ?_
          refine lv_bipush (v := 9) hx hb dX4_as_30 (by decide) ?_
          refine lv_iload_n hx hb dX4_as_32 rfl (lv_at hl 1 rfl) ?_
          refine ln_mul 9 k hx hb rfl rfl dX4_as_33 ?_
          refine al_M (k := 9 * k) 3 hx hb hW rfl (show _ < 54 by omega) dX4_as_34 ?_
          refine lv_eqi (y := nI (S k 0)) (hg.2.2.2.1 k (by omega)).2.2.2.1 ?_
          refine lv_istore_n (lv' := [(3, .int (nI (S k 0))), (0, .ref (gm G 0)), (1, .int (nI k)), (2, .int (nI t))]) hx hb dX4_as_35 rfl hl (by decide) rfl (fun ls hl => ?_)
          refine lv_iload_n hx hb dX4_as_36 rfl (lv_at hl 3 rfl) ?_
          refine lv_if_eq (tgt := 55) hx hb dX4_as_37 (by decide) (fun c_37 => ?_) (fun c_37 => ?_)
          · skip
            have q_37 := tN_eq t 0 c_37 rfl rfl (by omega) (by omega)
            refine lv_iconst (v := 1) hx hb dX4_as_55 (by decide) ?_
            refine lv_goto (tgt := 60) hx hb dX4_as_56 (by decide) ?_
            refine lv_istore (lv' := [(4, .int 1), (3, .int (nI (S k 0))), (0, .ref (gm G 0)), (1, .int (nI k)), (2, .int (nI t))]) hx hb dX4_as_60 hl (by decide) rfl (fun ls hl => ?_)
            refine lv_iload hx hb dX4_as_62 (lv_at hl 0 rfl) ?_
            refine lv_if_eq (tgt := 71) hx hb dX4_as_64 (by decide) (fun c_64 => ?_) (fun c_64 => ?_)
            · skip
              exact absurd c_64 (by decide)
            · skip
              refine lv_iload_n hx hb dX4_as_67 rfl (lv_at hl 3 rfl) ?_
              refine lv_goto (tgt := 72) hx hb dX4_as_68 (by decide) ?_
              exact W.iret (v := nI k) hx hb hr (fun t9 ht9 hW9 => ⟨_, rfl, (by rw [aAs, wK_k hk (by omega)]; refine Eq.trans ?_ (wK_k (k := t) (f := fun t => if isK (S k 0) t = true then nI k else -1) ht (by omega)).symm; exact (if_pos (by simp [isK, *] <;> omega)).symm), ht9⟩) (fun q h => by cases h) dX4_as_72
          · skip
            have q_37 := tN_ne t 0 c_37 rfl rfl (by omega) (by omega)
            refine lv_iload_n hx hb dX4_as_40 rfl (lv_at hl 3 rfl) ?_
            refine lv_iload_n hx hb dX4_as_41 rfl (lv_at hl 0 rfl) ?_
            refine lv_icmp_eq (tgt := 55) hx hb dX4_as_42 (by decide) (fun c_42 => ?_) (fun c_42 => ?_)
            · skip
              have q_42 := tN_eq t (S k 0) c_42 rfl rfl (by omega) (by omega)
              refine lv_iconst (v := 1) hx hb dX4_as_55 (by decide) ?_
              refine lv_goto (tgt := 60) hx hb dX4_as_56 (by decide) ?_
              refine lv_istore (lv' := [(4, .int 1), (3, .int (nI (S k 0))), (0, .ref (gm G 0)), (1, .int (nI k)), (2, .int (nI t))]) hx hb dX4_as_60 hl (by decide) rfl (fun ls hl => ?_)
              refine lv_iload hx hb dX4_as_62 (lv_at hl 0 rfl) ?_
              refine lv_if_eq (tgt := 71) hx hb dX4_as_64 (by decide) (fun c_64 => ?_) (fun c_64 => ?_)
              · skip
                exact absurd c_64 (by decide)
              · skip
                refine lv_iload_n hx hb dX4_as_67 rfl (lv_at hl 3 rfl) ?_
                refine lv_goto (tgt := 72) hx hb dX4_as_68 (by decide) ?_
                exact W.iret (v := nI k) hx hb hr (fun t9 ht9 hW9 => ⟨_, rfl, (by rw [aAs, wK_k hk (by omega)]; refine Eq.trans ?_ (wK_k (k := t) (f := fun t => if isK (S k 0) t = true then nI k else -1) ht (by omega)).symm; exact (if_pos (by simp [isK, *] <;> omega)).symm), ht9⟩) (fun q h => by cases h) dX4_as_72
            · skip
              have q_42 := tN_ne t (S k 0) c_42 rfl rfl (by omega) (by omega)
              refine lv_iload_n hx hb dX4_as_45 rfl (lv_at hl 3 rfl) ?_
              refine lv_iconst (v := 1) hx hb dX4_as_46 (by decide) ?_
              refine lv_icmp_ne (tgt := 59) hx hb dX4_as_47 (by decide) (fun c_47 => ?_) (fun c_47 => ?_)
              · skip
                have q_47 := tN_ne t 1 c_47 rfl rfl (by omega) (by omega)
                refine lv_iconst (v := 0) hx hb dX4_as_59 (by decide) ?_
                refine lv_istore (lv' := [(4, .int 0), (3, .int (nI (S k 0))), (0, .ref (gm G 0)), (1, .int (nI k)), (2, .int (nI t))]) hx hb dX4_as_60 hl (by decide) rfl (fun ls hl => ?_)
                refine lv_iload hx hb dX4_as_62 (lv_at hl 0 rfl) ?_
                refine lv_if_eq (tgt := 71) hx hb dX4_as_64 (by decide) (fun c_64 => ?_) (fun c_64 => ?_)
                · skip
                  refine lv_iconst (v := (-1)) hx hb dX4_as_71 (by decide) ?_
                  exact W.iret (v := (-1)) hx hb hr (fun t9 ht9 hW9 => ⟨_, rfl, (by rw [aAs, wK_k hk (by omega)]; refine Eq.trans ?_ (wK_k (k := t) (f := fun t => if isK (S k 0) t = true then nI k else -1) ht (by omega)).symm; exact (if_neg (by simp [isK, *] <;> omega)).symm), ht9⟩) (fun q h => by cases h) dX4_as_72
                · skip
                  exact absurd (by decide) c_64
              · skip
                have q_47 := tN_eq t 1 c_47 rfl rfl (by omega) (by omega)
                refine lv_iload_n hx hb dX4_as_50 rfl (lv_at hl 0 rfl) ?_
                refine lv_iconst (v := 4) hx hb dX4_as_51 (by decide) ?_
                refine lv_icmp_ne (tgt := 59) hx hb dX4_as_52 (by decide) (fun c_52 => ?_) (fun c_52 => ?_)
                · skip
                  have q_52 := tN_ne (S k 0) 4 c_52 rfl rfl (by omega) (by omega)
                  refine lv_iconst (v := 0) hx hb dX4_as_59 (by decide) ?_
                  refine lv_istore (lv' := [(4, .int 0), (3, .int (nI (S k 0))), (0, .ref (gm G 0)), (1, .int (nI k)), (2, .int (nI t))]) hx hb dX4_as_60 hl (by decide) rfl (fun ls hl => ?_)
                  refine lv_iload hx hb dX4_as_62 (lv_at hl 0 rfl) ?_
                  refine lv_if_eq (tgt := 71) hx hb dX4_as_64 (by decide) (fun c_64 => ?_) (fun c_64 => ?_)
                  · skip
                    refine lv_iconst (v := (-1)) hx hb dX4_as_71 (by decide) ?_
                    exact W.iret (v := (-1)) hx hb hr (fun t9 ht9 hW9 => ⟨_, rfl, (by rw [aAs, wK_k hk (by omega)]; refine Eq.trans ?_ (wK_k (k := t) (f := fun t => if isK (S k 0) t = true then nI k else -1) ht (by omega)).symm; exact (if_neg (by simp [isK, *] <;> omega)).symm), ht9⟩) (fun q h => by cases h) dX4_as_72
                  · skip
                    exact absurd (by decide) c_64
                · skip
                  have q_52 := tN_eq (S k 0) 4 c_52 rfl rfl (by omega) (by omega)
                  refine lv_iconst (v := 1) hx hb dX4_as_55 (by decide) ?_
                  refine lv_goto (tgt := 60) hx hb dX4_as_56 (by decide) ?_
                  refine lv_istore (lv' := [(4, .int 1), (3, .int (nI (S k 0))), (0, .ref (gm G 0)), (1, .int (nI k)), (2, .int (nI t))]) hx hb dX4_as_60 hl (by decide) rfl (fun ls hl => ?_)
                  refine lv_iload hx hb dX4_as_62 (lv_at hl 0 rfl) ?_
                  refine lv_if_eq (tgt := 71) hx hb dX4_as_64 (by decide) (fun c_64 => ?_) (fun c_64 => ?_)
                  · skip
                    exact absurd c_64 (by decide)
                  · skip
                    refine lv_iload_n hx hb dX4_as_67 rfl (lv_at hl 3 rfl) ?_
                    refine lv_goto (tgt := 72) hx hb dX4_as_68 (by decide) ?_
                    exact W.iret (v := nI k) hx hb hr (fun t9 ht9 hW9 => ⟨_, rfl, (by rw [aAs, wK_k hk (by omega)]; refine Eq.trans ?_ (wK_k (k := t) (f := fun t => if isK (S k 0) t = true then nI k else -1) ht (by omega)).symm; exact (if_pos (by simp [isK, *] <;> omega)).symm), ht9⟩) (fun q h => by cases h) dX4_as_72
        · skip
          exact absurd c_20 (by decide)
      · skip
        exact absurd c_5 (by decide)
set_option maxHeartbeats 4000000 in
set_option maxRecDepth 100000 in
theorem c_X4_at (l : Launch) (G : Gam) (μ : St) (hs : Int64) (n : Nat) (S : Nat → Sk) (q : Nat) (V : Nat → Nat) (ch : Int32) (hg : RM μ n S q V ch) (x y : Int32) : Met l yX4_at (w1 yX4_at cX4_at 3 (some .int)) ({ frames := 3, cells := 0, slots := 0, locals := 75 }) (PcM G μ hs [.ref (gm G 0), .int x, .int y]) (vp_Si (fun r => r = aAt n S x y)) 0 0 (fun _ => False) := by
  have hn6 := hg.1.2
  have hq8 := hg.2.2.1.2
  rcases hasB_c x (n := n) (by omega) with hx0 | ⟨k, hk, rfl⟩
  · skip
    refine met_of [.ref (gm G 0), .int x, .int y] [(0, .ref (gm G 0)), (1, .int x), (2, .int y)] (by decide) (Nat.le_of_ble_eq_true rfl) rfl ?_
    intro p e s m below meth c hx hb hr hown hml hlocks hW ls hl
    have hG : GW s := hW.2.2.2
    refine lv_aload_n hx hb dX4_at_0 rfl (lv_at hl 0 rfl) ?_
    refine lv_iload_n hx hb dX4_at_1 rfl (lv_at hl 1 rfl) ?_
    refine cr_i (q := 676) [.int x] hx hb hml hown hG v_X4_isStick (by decide +kernel) (c_X4_isStick l G μ hs n S q V ch hg (x)) (preM hW _) rfl hl.1 (Nat.le_of_ble_eq_true rfl) dX4_at_2 ⟨rfl, rfl, Nat.le_of_ble_eq_true rfl, Nat.le_of_ble_eq_true rfl⟩ ⟨Nat.le_of_ble_eq_true rfl, Nat.le_of_ble_eq_true rfl⟩ ?_
    refine lv_eqi (y := 0) (by rw [hx0]; rfl) ?_
    refine lv_if_ne (tgt := 11) hx hb dX4_at_5 (by decide) (fun c_5 => ?_) (fun c_5 => ?_)
    · skip
      exact absurd (by decide) c_5
    · skip
      refine lv_bipush (v := (-101)) hx hb dX4_at_8 (by decide) ?_
      exact W.iret (v := (-101)) hx hb hr (fun t9 ht9 hW9 => ⟨_, rfl, (wK_f hx0).symm, ht9⟩) (fun q h => by cases h) dX4_at_10
  · skip
    rcases hasB_c y (n := 31) (by omega) with hy0 | ⟨t, ht, rfl⟩
    · skip
      refine met_of [.ref (gm G 0), .int (nI k), .int y] [(0, .ref (gm G 0)), (1, .int (nI k)), (2, .int y)] (by decide) (Nat.le_of_ble_eq_true rfl) rfl ?_
      intro p e s m below meth c hx hb hr hown hml hlocks hW ls hl
      have hG : GW s := hW.2.2.2
      refine lv_aload_n hx hb dX4_at_0 rfl (lv_at hl 0 rfl) ?_
      refine lv_iload_n hx hb dX4_at_1 rfl (lv_at hl 1 rfl) ?_
      refine cr_i (q := 676) [.int (nI k)] hx hb hml hown hG v_X4_isStick (by decide +kernel) (c_X4_isStick l G μ hs n S q V ch hg (nI k)) (preM hW _) rfl hl.1 (Nat.le_of_ble_eq_true rfl) dX4_at_2 ⟨rfl, rfl, Nat.le_of_ble_eq_true rfl, Nat.le_of_ble_eq_true rfl⟩ ⟨Nat.le_of_ble_eq_true rfl, Nat.le_of_ble_eq_true rfl⟩ ?_
      refine lv_eqi (y := 1) (by rw [hasB_k hk (by omega)]; rfl) ?_
      refine lv_if_ne (tgt := 11) hx hb dX4_at_5 (by decide) (fun c_5 => ?_) (fun c_5 => ?_)
      · skip
        refine lv_iload_n hx hb dX4_at_11 rfl (lv_at hl 2 rfl) ?_
        refine lv_i2l hx hb dX4_at_12 rfl ?_
        refine lv_lconst (v := 0) hx hb dX4_at_13 rfl ?_
        refine lv_ldc2 (v := 30) hx hb hown (hG.use (i := 722) (by decide +kernel) rfl _) dX4_at_14 ?_
        refine cs_i (q := 641) [.long ((y : Int32).toInt64), .long 0, .long 30] hx hb hml hown hG v_X4_in (by decide +kernel) (c_X4_in l ((y : Int32).toInt64) (0) (30)) (preT _) rfl hl.1 (Nat.le_of_ble_eq_true rfl) dX4_at_17 ⟨rfl, rfl, Nat.le_of_ble_eq_true rfl, Nat.le_of_ble_eq_true rfl⟩ ⟨Nat.le_of_ble_eq_true rfl, Nat.le_of_ble_eq_true rfl⟩ ?_
        refine lv_eqi (y := 0) (by rw [inI _ 30 30 rfl (by omega), hy0]; rfl) ?_
        refine lv_if_eq (tgt := 32) hx hb dX4_at_20 (by decide) (fun c_20 => ?_) (fun c_20 => ?_)
        · skip
          refine lv_bipush (v := (-102)) hx hb dX4_at_32 (by decide) ?_
          exact W.iret (v := (-102)) hx hb hr (fun t9 ht9 hW9 => ⟨_, rfl, (by rw [aAt, wK_k hk (by omega), wK_f hy0]), ht9⟩) (fun q h => by cases h) dX4_at_34
        · skip
          exact absurd (by decide) c_20
      · skip
        exact absurd c_5 (by decide)
    · skip
      refine met_of [.ref (gm G 0), .int (nI k), .int (nI t)] [(0, .ref (gm G 0)), (1, .int (nI k)), (2, .int (nI t))] (by decide) (Nat.le_of_ble_eq_true rfl) rfl ?_
      intro p e s m below meth c hx hb hr hown hml hlocks hW ls hl
      have hG : GW s := hW.2.2.2
      refine lv_aload_n hx hb dX4_at_0 rfl (lv_at hl 0 rfl) ?_
      refine lv_iload_n hx hb dX4_at_1 rfl (lv_at hl 1 rfl) ?_
      refine cr_i (q := 676) [.int (nI k)] hx hb hml hown hG v_X4_isStick (by decide +kernel) (c_X4_isStick l G μ hs n S q V ch hg (nI k)) (preM hW _) rfl hl.1 (Nat.le_of_ble_eq_true rfl) dX4_at_2 ⟨rfl, rfl, Nat.le_of_ble_eq_true rfl, Nat.le_of_ble_eq_true rfl⟩ ⟨Nat.le_of_ble_eq_true rfl, Nat.le_of_ble_eq_true rfl⟩ ?_
      refine lv_eqi (y := 1) (by rw [hasB_k hk (by omega)]; rfl) ?_
      refine lv_if_ne (tgt := 11) hx hb dX4_at_5 (by decide) (fun c_5 => ?_) (fun c_5 => ?_)
      · skip
        refine lv_iload_n hx hb dX4_at_11 rfl (lv_at hl 2 rfl) ?_
        refine lv_i2l hx hb dX4_at_12 rfl ?_
        refine lv_lconst (v := 0) hx hb dX4_at_13 rfl ?_
        refine lv_ldc2 (v := 30) hx hb hown (hG.use (i := 722) (by decide +kernel) rfl _) dX4_at_14 ?_
        refine cs_i (q := 641) [.long ((nI t : Int32).toInt64), .long 0, .long 30] hx hb hml hown hG v_X4_in (by decide +kernel) (c_X4_in l ((nI t : Int32).toInt64) (0) (30)) (preT _) rfl hl.1 (Nat.le_of_ble_eq_true rfl) dX4_at_17 ⟨rfl, rfl, Nat.le_of_ble_eq_true rfl, Nat.le_of_ble_eq_true rfl⟩ ⟨Nat.le_of_ble_eq_true rfl, Nat.le_of_ble_eq_true rfl⟩ ?_
        refine lv_eqi (y := 1) (by rw [inI _ 30 30 rfl (by omega), hasB_k ht (by omega)]; rfl) ?_
        refine lv_if_eq (tgt := 32) hx hb dX4_at_20 (by decide) (fun c_20 => ?_) (fun c_20 => ?_)
        · skip
          exact absurd c_20 (by decide)
        · skip
          refine lv_aload_n hx hb dX4_at_23 rfl (lv_at hl 0 rfl) ?_
          refine lv_iload_n hx hb dX4_at_24 rfl (lv_at hl 1 rfl) ?_
          refine lv_iload_n hx hb dX4_at_25 rfl (lv_at hl 2 rfl) ?_
          refine cr_i (q := 694) [.int (nI k), .int (nI t)] hx hb hml hown hG v_X4_atOf (by decide +kernel) (c_X4_atOf l G μ hs n S q V ch hg k hk t (by omega)) (preM hW _) rfl hl.1 (Nat.le_of_ble_eq_true rfl) dX4_at_26 ⟨rfl, rfl, Nat.le_of_ble_eq_true rfl, Nat.le_of_ble_eq_true rfl⟩ ⟨Nat.le_of_ble_eq_true rfl, Nat.le_of_ble_eq_true rfl⟩ ?_
          refine lv_goto (tgt := 34) hx hb dX4_at_29 (by decide) ?_
          exact W.iret (v := nI (atN (S k) t)) hx hb hr (fun t9 ht9 hW9 => ⟨_, rfl, (by rw [aAt, wK_k hk (by omega), wK_k ht (by omega)]), ht9⟩) (fun q h => by cases h) dX4_at_34
      · skip
        exact absurd c_5 (by decide)
set_option maxHeartbeats 4000000 in
set_option maxRecDepth 100000 in
theorem c_X4_meetOf (l : Launch) (G : Gam) (μ : St) (hs : Int64) (n : Nat) (S : Nat → Sk) (q : Nat) (V : Nat → Nat) (ch : Int32) (hg : RM μ n S q V ch) (a b : Nat) (ha : a < n) (h2 : b < n) : Met l yX4_meetOf (w1 yX4_meetOf cX4_meetOf 5 (some .int)) ({ frames := 3, cells := 0, slots := 0, locals := 75 }) (PcM G μ hs [.ref (gm G 0), .int (nI a), .int (nI b)]) (vp_Si (fun r => r = nI (meetN (atN (S a)) (atN (S b)) 31))) 0 0 (fun _ => False) := by
  refine met_of [.ref (gm G 0), .int (nI a), .int (nI b)] [(0, .ref (gm G 0)), (1, .int (nI a)), (2, .int (nI b))] (by decide) (Nat.le_of_ble_eq_true rfl) rfl ?_
  intro p e s m below meth c hx hb hr hown hml hlocks hW ls hl
  have hG : GW s := hW.2.2.2
  have hn6 := hg.1.2
  have hq8 := hg.2.2.1.2
  refine lv_iconst (v := 0) hx hb dX4_meetOf_0 (by decide) ?_
  refine lv_istore_n (lv' := [(3, .int 0), (0, .ref (gm G 0)), (1, .int (nI a)), (2, .int (nI b))]) hx hb dX4_meetOf_1 rfl hl (by decide) rfl (fun ls hl => ?_)
  refine lv_iconst (v := 0) hx hb dX4_meetOf_2 (by decide) ?_
  refine lv_istore (lv' := [(4, .int 0), (3, .int 0), (0, .ref (gm G 0)), (1, .int (nI a)), (2, .int (nI b))]) hx hb dX4_meetOf_3 hl (by decide) rfl (fun ls hl => ?_)
  have loop_5 : ∀ (N9 : Nat) (t : Nat) (mo : Int32) (ho : Int32), 31 - t < N9 → mo = nI (meetN (atN (S a)) (atN (S b)) t) → ho = nI t → t ≤ 31 → ∀ ls : Array Slot, lv_has ls 5 [(3, .int mo), (4, .int ho), (0, .ref (gm G 0)), (1, .int (nI a)), (2, .int (nI b))] → W p l e (headSpec (w1 yX4_meetOf cX4_meetOf 5 (some .int)) ({ frames := 3, cells := 0, slots := 0, locals := 75 })).room s m [.ref (gm G 0), .int (nI a), .int (nI b)].toArray below meth c s.heap [] 0 0 (MQ below (vp_Si (fun r => r = nI (meetN (atN (S a)) (atN (S b)) 31))) [.ref (gm G 0), .int (nI a), .int (nI b)].toArray s 0 0 (fun _ => False)) (F0 m 5 ls []) := by
    intro N9
    induction N9 with
    | zero => intro t mo ho hN; exact absurd hN (Nat.not_lt_zero _)
    | succ N9 ih =>
      intro t mo ho hN e_mo e_ho hi0_5 ls hl
      subst e_mo
      subst e_ho
      have ih_5 := ih
      have hpa := posN_lt (hg.2.2.2.1 a ha).1 (t - S a 2)
      have hpb := posN_lt (hg.2.2.2.1 b h2).1 (t - S b 2)
      refine lv_iload hx hb dX4_meetOf_5 (lv_at hl 1 rfl) ?_
      refine lv_bipush (v := 31) hx hb dX4_meetOf_7 (by decide) ?_
      refine lv_icmp_ge (tgt := 43) hx hb dX4_meetOf_9 (by decide) (fun c_9 => ?_) (fun c_9 => ?_)
      · skip
        have q_9 := tN_le 31 t c_9 rfl rfl (by omega) (by omega)
        refine lv_iload_n hx hb dX4_meetOf_43 rfl (lv_at hl 0 rfl) ?_
        exact W.iret (v := nI (meetN (atN (S a)) (atN (S b)) t)) hx hb hr (fun t9 ht9 hW9 => ⟨_, rfl, (by have h9 : t = 31 := (by omega); subst h9; rfl), ht9⟩) (fun q h => by cases h) dX4_meetOf_44
      · skip
        have q_9 := tN_nle 31 t c_9 rfl rfl (by omega) (by omega)
        refine lv_iload_n hx hb dX4_meetOf_12 rfl (lv_at hl 0 rfl) ?_
        refine lv_aload_n hx hb dX4_meetOf_13 rfl (lv_at hl 2 rfl) ?_
        refine lv_iload_n hx hb dX4_meetOf_14 rfl (lv_at hl 3 rfl) ?_
        refine lv_iload hx hb dX4_meetOf_15 (lv_at hl 1 rfl) ?_
        refine cr_i (q := 694) [.int (nI a), .int (nI t)] hx hb hml hown hG v_X4_atOf (by decide +kernel) (c_X4_atOf l G μ hs n S q V ch hg a ha t (by omega)) (preM hW _) rfl hl.1 (Nat.le_of_ble_eq_true rfl) dX4_meetOf_17 ⟨rfl, rfl, Nat.le_of_ble_eq_true rfl, Nat.le_of_ble_eq_true rfl⟩ ⟨Nat.le_of_ble_eq_true rfl, Nat.le_of_ble_eq_true rfl⟩ ?_
        refine lv_aload_n hx hb dX4_meetOf_20 rfl (lv_at hl 2 rfl) ?_
        refine lv_iload_n hx hb dX4_meetOf_21 rfl (lv_at hl 4 rfl) ?_
        refine lv_iload hx hb dX4_meetOf_22 (lv_at hl 1 rfl) ?_
        refine cr_i (q := 694) [.int (nI b), .int (nI t)] hx hb hml hown hG v_X4_atOf (by decide +kernel) (c_X4_atOf l G μ hs n S q V ch hg b h2 t (by omega)) (preM hW _) rfl hl.1 (Nat.le_of_ble_eq_true rfl) dX4_meetOf_24 ⟨rfl, rfl, Nat.le_of_ble_eq_true rfl, Nat.le_of_ble_eq_true rfl⟩ ⟨Nat.le_of_ble_eq_true rfl, Nat.le_of_ble_eq_true rfl⟩ ?_
        refine lv_icmp_ne (tgt := 34) hx hb dX4_meetOf_27 (by decide) (fun c_27 => ?_) (fun c_27 => ?_)
        · skip
          have q_27 := tN_ne (posN (S a) (t - S a 2)) (posN (S b) (t - S b 2)) c_27 rfl rfl (by omega) (by omega)
          refine lv_iconst (v := 0) hx hb dX4_meetOf_34 (by decide) ?_
          refine ln_add (meetN (atN (S a)) (atN (S b)) t) 0 hx hb rfl rfl dX4_meetOf_35 ?_
          refine lv_istore_n (lv' := [(3, .int (nI ((meetN (atN (S a)) (atN (S b)) t) + 0))), (4, .int (nI t)), (0, .ref (gm G 0)), (1, .int (nI a)), (2, .int (nI b))]) hx hb dX4_meetOf_36 rfl hl (by decide) rfl (fun ls hl => ?_)
          refine lv_iinc (v := nI (t + 1)) (lv' := [(4, .int (nI (t + 1))), (3, .int (nI ((meetN (atN (S a)) (atN (S b)) t) + 0))), (0, .ref (gm G 0)), (1, .int (nI a)), (2, .int (nI b))]) hx hb dX4_meetOf_37 hl (k := 1) rfl (inc1 t) (by decide) rfl (fun ls hl => ?_)
          refine lv_goto (tgt := 5) hx hb dX4_meetOf_40 (by decide) ?_
          exact ih_5 (t + 1) _ _ (by omega) (by first | exact congrArg nI (meetN_y q_27) | exact congrArg nI (meetN_n q_27)) rfl (by omega) ls (lv_sub hl [1, 0, 2, 3, 4] rfl)
        · skip
          have q_27 := tN_eq (posN (S a) (t - S a 2)) (posN (S b) (t - S b 2)) c_27 rfl rfl (by omega) (by omega)
          refine lv_iconst (v := 1) hx hb dX4_meetOf_30 (by decide) ?_
          refine lv_goto (tgt := 35) hx hb dX4_meetOf_31 (by decide) ?_
          refine ln_add (meetN (atN (S a)) (atN (S b)) t) 1 hx hb rfl rfl dX4_meetOf_35 ?_
          refine lv_istore_n (lv' := [(3, .int (nI ((meetN (atN (S a)) (atN (S b)) t) + 1))), (4, .int (nI t)), (0, .ref (gm G 0)), (1, .int (nI a)), (2, .int (nI b))]) hx hb dX4_meetOf_36 rfl hl (by decide) rfl (fun ls hl => ?_)
          refine lv_iinc (v := nI (t + 1)) (lv' := [(4, .int (nI (t + 1))), (3, .int (nI ((meetN (atN (S a)) (atN (S b)) t) + 1))), (0, .ref (gm G 0)), (1, .int (nI a)), (2, .int (nI b))]) hx hb dX4_meetOf_37 hl (k := 1) rfl (inc1 t) (by decide) rfl (fun ls hl => ?_)
          refine lv_goto (tgt := 5) hx hb dX4_meetOf_40 (by decide) ?_
          exact ih_5 (t + 1) _ _ (by omega) (by first | exact congrArg nI (meetN_y q_27) | exact congrArg nI (meetN_n q_27)) rfl (by omega) ls (lv_sub hl [1, 0, 2, 3, 4] rfl)
  exact loop_5 _ 0 _ _ (Nat.lt_succ_self _) rfl rfl (by omega) ls (lv_sub hl [1, 0, 2, 3, 4] rfl)
set_option maxHeartbeats 4000000 in
set_option maxRecDepth 100000 in
theorem c_X4_meet (l : Launch) (G : Gam) (μ : St) (hs : Int64) (n : Nat) (S : Nat → Sk) (q : Nat) (V : Nat → Nat) (ch : Int32) (hg : RM μ n S q V ch) (x y : Int32) : Met l yX4_meet (w1 yX4_meet cX4_meet 3 (some .int)) ({ frames := 4, cells := 0, slots := 0, locals := 99 }) (PcM G μ hs [.ref (gm G 0), .int x, .int y]) (vp_Si (fun r => r = aMeet n S x y)) 0 0 (fun _ => False) := by
  have hn6 := hg.1.2
  have hq8 := hg.2.2.1.2
  rcases hasB_c x (n := n) (by omega) with hx0 | ⟨k, hk, rfl⟩
  · skip
    refine met_of [.ref (gm G 0), .int x, .int y] [(0, .ref (gm G 0)), (1, .int x), (2, .int y)] (by decide) (Nat.le_of_ble_eq_true rfl) rfl ?_
    intro p e s m below meth c hx hb hr hown hml hlocks hW ls hl
    have hG : GW s := hW.2.2.2
    refine lv_aload_n hx hb dX4_meet_0 rfl (lv_at hl 0 rfl) ?_
    refine lv_iload_n hx hb dX4_meet_1 rfl (lv_at hl 1 rfl) ?_
    refine lv_iload_n hx hb dX4_meet_2 rfl (lv_at hl 2 rfl) ?_
    refine cr_i (q := 727) [.int x, .int y] hx hb hml hown hG v_X4_areTwo (by decide +kernel) (c_X4_areTwo l G μ hs n S q V ch hg (x) (y)) (preM hW _) rfl hl.1 (Nat.le_of_ble_eq_true rfl) dX4_meet_3 ⟨rfl, rfl, Nat.le_of_ble_eq_true rfl, Nat.le_of_ble_eq_true rfl⟩ ⟨Nat.le_of_ble_eq_true rfl, Nat.le_of_ble_eq_true rfl⟩ ?_
    refine lv_eqi (y := 0) (by rw [hx0]; rfl) ?_
    refine lv_if_eq (tgt := 18) hx hb dX4_meet_6 (by decide) (fun c_6 => ?_) (fun c_6 => ?_)
    · skip
      refine lv_bipush (v := (-101)) hx hb dX4_meet_18 (by decide) ?_
      exact W.iret (v := (-101)) hx hb hr (fun t9 ht9 hW9 => ⟨_, rfl, (by rw [aMeet, w2_f1 hx0]), ht9⟩) (fun q h => by cases h) dX4_meet_20
    · skip
      exact absurd (by decide) c_6
  · skip
    rcases hasB_c y (n := n) (by omega) with hy0 | ⟨t, ht, rfl⟩
    · skip
      refine met_of [.ref (gm G 0), .int (nI k), .int y] [(0, .ref (gm G 0)), (1, .int (nI k)), (2, .int y)] (by decide) (Nat.le_of_ble_eq_true rfl) rfl ?_
      intro p e s m below meth c hx hb hr hown hml hlocks hW ls hl
      have hG : GW s := hW.2.2.2
      refine lv_aload_n hx hb dX4_meet_0 rfl (lv_at hl 0 rfl) ?_
      refine lv_iload_n hx hb dX4_meet_1 rfl (lv_at hl 1 rfl) ?_
      refine lv_iload_n hx hb dX4_meet_2 rfl (lv_at hl 2 rfl) ?_
      refine cr_i (q := 727) [.int (nI k), .int y] hx hb hml hown hG v_X4_areTwo (by decide +kernel) (c_X4_areTwo l G μ hs n S q V ch hg (nI k) (y)) (preM hW _) rfl hl.1 (Nat.le_of_ble_eq_true rfl) dX4_meet_3 ⟨rfl, rfl, Nat.le_of_ble_eq_true rfl, Nat.le_of_ble_eq_true rfl⟩ ⟨Nat.le_of_ble_eq_true rfl, Nat.le_of_ble_eq_true rfl⟩ ?_
      refine lv_eqi (y := 0) (by rw [hy0, hasB_k hk (by omega)]; rfl) ?_
      refine lv_if_eq (tgt := 18) hx hb dX4_meet_6 (by decide) (fun c_6 => ?_) (fun c_6 => ?_)
      · skip
        refine lv_bipush (v := (-101)) hx hb dX4_meet_18 (by decide) ?_
        exact W.iret (v := (-101)) hx hb hr (fun t9 ht9 hW9 => ⟨_, rfl, (by rw [aMeet, w2_f2 hk (by omega) hy0]), ht9⟩) (fun q h => by cases h) dX4_meet_20
      · skip
        exact absurd (by decide) c_6
    · skip
      by_cases hkt : k = t
      · skip
        refine met_of [.ref (gm G 0), .int (nI k), .int (nI t)] [(0, .ref (gm G 0)), (1, .int (nI k)), (2, .int (nI t))] (by decide) (Nat.le_of_ble_eq_true rfl) rfl ?_
        intro p e s m below meth c hx hb hr hown hml hlocks hW ls hl
        have hG : GW s := hW.2.2.2
        refine lv_aload_n hx hb dX4_meet_0 rfl (lv_at hl 0 rfl) ?_
        refine lv_iload_n hx hb dX4_meet_1 rfl (lv_at hl 1 rfl) ?_
        refine lv_iload_n hx hb dX4_meet_2 rfl (lv_at hl 2 rfl) ?_
        refine cr_i (q := 727) [.int (nI k), .int (nI t)] hx hb hml hown hG v_X4_areTwo (by decide +kernel) (c_X4_areTwo l G μ hs n S q V ch hg (nI k) (nI t)) (preM hW _) rfl hl.1 (Nat.le_of_ble_eq_true rfl) dX4_meet_3 ⟨rfl, rfl, Nat.le_of_ble_eq_true rfl, Nat.le_of_ble_eq_true rfl⟩ ⟨Nat.le_of_ble_eq_true rfl, Nat.le_of_ble_eq_true rfl⟩ ?_
        refine lv_eqi (y := 0) (by subst hkt; simp [bI]) ?_
        refine lv_if_eq (tgt := 18) hx hb dX4_meet_6 (by decide) (fun c_6 => ?_) (fun c_6 => ?_)
        · skip
          refine lv_bipush (v := (-101)) hx hb dX4_meet_18 (by decide) ?_
          exact W.iret (v := (-101)) hx hb hr (fun t9 ht9 hW9 => ⟨_, rfl, (by subst hkt; rw [aMeet, w2_e hk (by omega)]), ht9⟩) (fun q h => by cases h) dX4_meet_20
        · skip
          exact absurd (by decide) c_6
      · skip
        refine met_of [.ref (gm G 0), .int (nI k), .int (nI t)] [(0, .ref (gm G 0)), (1, .int (nI k)), (2, .int (nI t))] (by decide) (Nat.le_of_ble_eq_true rfl) rfl ?_
        intro p e s m below meth c hx hb hr hown hml hlocks hW ls hl
        have hG : GW s := hW.2.2.2
        refine lv_aload_n hx hb dX4_meet_0 rfl (lv_at hl 0 rfl) ?_
        refine lv_iload_n hx hb dX4_meet_1 rfl (lv_at hl 1 rfl) ?_
        refine lv_iload_n hx hb dX4_meet_2 rfl (lv_at hl 2 rfl) ?_
        refine cr_i (q := 727) [.int (nI k), .int (nI t)] hx hb hml hown hG v_X4_areTwo (by decide +kernel) (c_X4_areTwo l G μ hs n S q V ch hg (nI k) (nI t)) (preM hW _) rfl hl.1 (Nat.le_of_ble_eq_true rfl) dX4_meet_3 ⟨rfl, rfl, Nat.le_of_ble_eq_true rfl, Nat.le_of_ble_eq_true rfl⟩ ⟨Nat.le_of_ble_eq_true rfl, Nat.le_of_ble_eq_true rfl⟩ ?_
        refine lv_eqi (y := 1) (by rw [hasB_k hk (by omega), hasB_k ht (by omega), decide_eq_true (show ¬ nI k = nI t from fun z => hkt ((nI_eq (by omega) (by omega)).mp z))]; rfl) ?_
        refine lv_if_eq (tgt := 18) hx hb dX4_meet_6 (by decide) (fun c_6 => ?_) (fun c_6 => ?_)
        · skip
          exact absurd c_6 (by decide)
        · skip
          refine lv_aload_n hx hb dX4_meet_9 rfl (lv_at hl 0 rfl) ?_
          refine lv_iload_n hx hb dX4_meet_10 rfl (lv_at hl 1 rfl) ?_
          refine lv_iload_n hx hb dX4_meet_11 rfl (lv_at hl 2 rfl) ?_
          refine cr_i (q := 731) [.int (nI k), .int (nI t)] hx hb hml hown hG v_X4_meetOf (by decide +kernel) (c_X4_meetOf l G μ hs n S q V ch hg k t hk ht) (preM hW _) rfl hl.1 (Nat.le_of_ble_eq_true rfl) dX4_meet_12 ⟨rfl, rfl, Nat.le_of_ble_eq_true rfl, Nat.le_of_ble_eq_true rfl⟩ ⟨Nat.le_of_ble_eq_true rfl, Nat.le_of_ble_eq_true rfl⟩ ?_
          refine lv_goto (tgt := 20) hx hb dX4_meet_15 (by decide) ?_
          exact W.iret (v := nI (meetN (atN (S k)) (atN (S t)) 31)) hx hb hr (fun t9 ht9 hW9 => ⟨_, rfl, (by rw [aMeet, w2_k hk ht (by omega) hkt]; rfl), ht9⟩) (fun q h => by cases h) dX4_meet_20
set_option maxHeartbeats 4000000 in
set_option maxRecDepth 100000 in
theorem c_X4_far (l : Launch) (a b : Nat) (ha : a < 16) (h2 : b < 16) : Met l yX4_far (w1 yX4_far cX4_far 4 (some .int)) ({ frames := 0, cells := 0, slots := 0, locals := 0 }) (PcT [.int (nI a), .int (nI b)]) (vp_Si (fun r => r = nI (farN a b))) 0 0 (fun _ => False) := by
  refine met_of [.int (nI a), .int (nI b)] [(0, .int (nI a)), (1, .int (nI b))] (by decide) (Nat.le_of_ble_eq_true rfl) rfl ?_
  intro p e s m below meth c hx hb hr hown hml hlocks hW ls hl
  refine lv_iload_n hx hb dX4_far_0 rfl (lv_at hl 0 rfl) ?_
  refine lv_iconst (v := 4) hx hb dX4_far_1 (by decide) ?_
  refine ln_div a 4 hx hb rfl rfl (by omega) (by omega) (by omega) dX4_far_2 ?_
  refine lv_iload_n hx hb dX4_far_3 rfl (lv_at hl 1 rfl) ?_
  refine lv_iconst (v := 4) hx hb dX4_far_4 (by decide) ?_
  refine ln_div b 4 hx hb rfl rfl (by omega) (by omega) (by omega) dX4_far_5 ?_
  refine lv_isub hx hb dX4_far_6 ?_
  refine lv_istore_n (lv' := [(2, .int ((nI (a / 4)) - (nI (b / 4)))), (0, .int (nI a)), (1, .int (nI b))]) hx hb dX4_far_7 rfl hl (by decide) rfl (fun ls hl => ?_)
  refine lv_iload_n hx hb dX4_far_8 rfl (lv_at hl 1 rfl) ?_
  refine lv_iconst (v := 4) hx hb dX4_far_9 (by decide) ?_
  refine ln_rem a 4 hx hb rfl rfl (by omega) (by omega) (by omega) dX4_far_10 ?_
  refine lv_iload_n hx hb dX4_far_11 rfl (lv_at hl 2 rfl) ?_
  refine lv_iconst (v := 4) hx hb dX4_far_12 (by decide) ?_
  refine ln_rem b 4 hx hb rfl rfl (by omega) (by omega) (by omega) dX4_far_13 ?_
  refine lv_isub hx hb dX4_far_14 ?_
  refine lv_istore_n (lv' := [(3, .int ((nI (a % 4)) - (nI (b % 4)))), (2, .int ((nI (a / 4)) - (nI (b / 4)))), (0, .int (nI a)), (1, .int (nI b))]) hx hb dX4_far_15 rfl hl (by decide) rfl (fun ls hl => ?_)
  refine lv_iload_n hx hb dX4_far_16 rfl (lv_at hl 1 rfl) ?_
  refine lv_if_ge (tgt := 25) hx hb dX4_far_17 (by decide) (fun c_17 => ?_) (fun c_17 => ?_)
  · skip
    refine lv_iload_n hx hb dX4_far_25 rfl (lv_at hl 1 rfl) ?_
    refine lv_iload_n hx hb dX4_far_26 rfl (lv_at hl 0 rfl) ?_
    refine lv_if_ge (tgt := 35) hx hb dX4_far_27 (by decide) (fun c_27 => ?_) (fun c_27 => ?_)
    · skip
      refine lv_iload_n hx hb dX4_far_35 rfl (lv_at hl 0 rfl) ?_
      refine lv_iadd hx hb dX4_far_36 ?_
      exact W.iret (v := ((nI (a / 4)) - (nI (b / 4))) + ((nI (a % 4)) - (nI (b % 4)))) hx hb hr (fun t9 ht9 hW9 => ⟨_, rfl, ((by decide +kernel : ∀ a, a < 16 → ∀ b, b < 16 → (0 ≤ ((nI (a / 4)) - (nI (b / 4)))) → (0 ≤ ((nI (a % 4)) - (nI (b % 4)))) → ((nI (a / 4)) - (nI (b / 4))) + ((nI (a % 4)) - (nI (b % 4))) = nI (farN a b)) a ha b h2 c_17 c_27), ht9⟩) (fun q h => by cases h) dX4_far_37
    · skip
      refine lv_iload_n hx hb dX4_far_30 rfl (lv_at hl 0 rfl) ?_
      refine lv_ineg hx hb dX4_far_31 ?_
      refine lv_goto (tgt := 36) hx hb dX4_far_32 (by decide) ?_
      refine lv_iadd hx hb dX4_far_36 ?_
      exact W.iret (v := ((nI (a / 4)) - (nI (b / 4))) + (-((nI (a % 4)) - (nI (b % 4))))) hx hb hr (fun t9 ht9 hW9 => ⟨_, rfl, ((by decide +kernel : ∀ a, a < 16 → ∀ b, b < 16 → (0 ≤ ((nI (a / 4)) - (nI (b / 4)))) → (¬ 0 ≤ ((nI (a % 4)) - (nI (b % 4)))) → ((nI (a / 4)) - (nI (b / 4))) + (-((nI (a % 4)) - (nI (b % 4)))) = nI (farN a b)) a ha b h2 c_17 c_27), ht9⟩) (fun q h => by cases h) dX4_far_37
  · skip
    refine lv_iload_n hx hb dX4_far_20 rfl (lv_at hl 1 rfl) ?_
    refine lv_ineg hx hb dX4_far_21 ?_
    refine lv_goto (tgt := 26) hx hb dX4_far_22 (by decide) ?_
    refine lv_iload_n hx hb dX4_far_26 rfl (lv_at hl 0 rfl) ?_
    refine lv_if_ge (tgt := 35) hx hb dX4_far_27 (by decide) (fun c_27 => ?_) (fun c_27 => ?_)
    · skip
      refine lv_iload_n hx hb dX4_far_35 rfl (lv_at hl 0 rfl) ?_
      refine lv_iadd hx hb dX4_far_36 ?_
      exact W.iret (v := (-((nI (a / 4)) - (nI (b / 4)))) + ((nI (a % 4)) - (nI (b % 4)))) hx hb hr (fun t9 ht9 hW9 => ⟨_, rfl, ((by decide +kernel : ∀ a, a < 16 → ∀ b, b < 16 → (¬ 0 ≤ ((nI (a / 4)) - (nI (b / 4)))) → (0 ≤ ((nI (a % 4)) - (nI (b % 4)))) → (-((nI (a / 4)) - (nI (b / 4)))) + ((nI (a % 4)) - (nI (b % 4))) = nI (farN a b)) a ha b h2 c_17 c_27), ht9⟩) (fun q h => by cases h) dX4_far_37
    · skip
      refine lv_iload_n hx hb dX4_far_30 rfl (lv_at hl 0 rfl) ?_
      refine lv_ineg hx hb dX4_far_31 ?_
      refine lv_goto (tgt := 36) hx hb dX4_far_32 (by decide) ?_
      refine lv_iadd hx hb dX4_far_36 ?_
      exact W.iret (v := (-((nI (a / 4)) - (nI (b / 4)))) + (-((nI (a % 4)) - (nI (b % 4))))) hx hb hr (fun t9 ht9 hW9 => ⟨_, rfl, ((by decide +kernel : ∀ a, a < 16 → ∀ b, b < 16 → (¬ 0 ≤ ((nI (a / 4)) - (nI (b / 4)))) → (¬ 0 ≤ ((nI (a % 4)) - (nI (b % 4)))) → (-((nI (a / 4)) - (nI (b / 4)))) + (-((nI (a % 4)) - (nI (b % 4)))) = nI (farN a b)) a ha b h2 c_17 c_27), ht9⟩) (fun q h => by cases h) dX4_far_37
set_option maxHeartbeats 4000000 in
set_option maxRecDepth 100000 in
theorem c_X4_catchOf (l : Launch) (G : Gam) (μ : St) (hs : Int64) (n : Nat) (S : Nat → Sk) (q : Nat) (V : Nat → Nat) (ch : Int32) (hg : RM μ n S q V ch) (P k : Nat) (hP : P < 16) (hk : k < n) : Met l yX4_catchOf (w1 yX4_catchOf cX4_catchOf 4 (some .int)) ({ frames := 3, cells := 0, slots := 0, locals := 75 }) (PcM G μ hs [.ref (gm G 0), .int (nI P), .int (nI k)]) (vp_Si (fun r => r = nI (catN (atN (S k)) P))) 0 0 (fun _ => False) := by
  refine met_of [.ref (gm G 0), .int (nI P), .int (nI k)] [(0, .ref (gm G 0)), (1, .int (nI P)), (2, .int (nI k))] (by decide) (Nat.le_of_ble_eq_true rfl) rfl ?_
  intro p e s m below meth c hx hb hr hown hml hlocks hW ls hl
  have hG : GW s := hW.2.2.2
  have hn6 := hg.1.2
  have hq8 := hg.2.2.1.2
  refine lv_iconst (v := 0) hx hb dX4_catchOf_0 (by decide) ?_
  refine lv_istore_n (lv' := [(3, .int 0), (0, .ref (gm G 0)), (1, .int (nI P)), (2, .int (nI k))]) hx hb dX4_catchOf_1 rfl hl (by decide) rfl (fun ls hl => ?_)
  have loop_2 : ∀ (N9 : Nat) (t : Nat) (to : Int32), 31 - t < N9 → to = nI t → t ≤ 6 → catF (atN (S k)) P (6 - t) t = catN (atN (S k)) P → ∀ ls : Array Slot, lv_has ls 4 [(3, .int to), (0, .ref (gm G 0)), (1, .int (nI P)), (2, .int (nI k))] → W p l e (headSpec (w1 yX4_catchOf cX4_catchOf 4 (some .int)) ({ frames := 3, cells := 0, slots := 0, locals := 75 })).room s m [.ref (gm G 0), .int (nI P), .int (nI k)].toArray below meth c s.heap [] 0 0 (MQ below (vp_Si (fun r => r = nI (catN (atN (S k)) P))) [.ref (gm G 0), .int (nI P), .int (nI k)].toArray s 0 0 (fun _ => False)) (F0 m 2 ls []) := by
    intro N9
    induction N9 with
    | zero => intro t to hN; exact absurd hN (Nat.not_lt_zero _)
    | succ N9 ih =>
      intro t to hN e_to hi0_2 hi1_2 ls hl
      subst e_to
      have ih_2 := ih
      have hpl := posN_lt (hg.2.2.2.1 k hk).1 (t - S k 2)
      have hf6 := far6 P hP _ hpl
      refine lv_iload_n hx hb dX4_catchOf_2 rfl (lv_at hl 2 rfl) ?_
      refine lv_aload_n hx hb dX4_catchOf_3 rfl (lv_at hl 1 rfl) ?_
      refine lv_iload_n hx hb dX4_catchOf_4 rfl (lv_at hl 3 rfl) ?_
      refine lv_iload_n hx hb dX4_catchOf_5 rfl (lv_at hl 0 rfl) ?_
      refine cr_i (q := 694) [.int (nI k), .int (nI t)] hx hb hml hown hG v_X4_atOf (by decide +kernel) (c_X4_atOf l G μ hs n S q V ch hg k hk t (by omega)) (preM hW _) rfl hl.1 (Nat.le_of_ble_eq_true rfl) dX4_catchOf_6 ⟨rfl, rfl, Nat.le_of_ble_eq_true rfl, Nat.le_of_ble_eq_true rfl⟩ ⟨Nat.le_of_ble_eq_true rfl, Nat.le_of_ble_eq_true rfl⟩ ?_
      refine cs_i (q := 782) [.int (nI P), .int (nI (posN (S k) (t - S k 2)))] hx hb hml hown hG v_X4_far (by decide +kernel) (c_X4_far l P (posN (S k) (t - S k 2)) hP hpl) (preT _) rfl hl.1 (Nat.le_of_ble_eq_true rfl) dX4_catchOf_9 ⟨rfl, rfl, Nat.le_of_ble_eq_true rfl, Nat.le_of_ble_eq_true rfl⟩ ⟨Nat.le_of_ble_eq_true rfl, Nat.le_of_ble_eq_true rfl⟩ ?_
      refine lv_iload_n hx hb dX4_catchOf_12 rfl (lv_at hl 0 rfl) ?_
      refine lv_icmp_le (tgt := 22) hx hb dX4_catchOf_13 (by decide) (fun c_13 => ?_) (fun c_13 => ?_)
      · skip
        have q_13 := tN_le (farN P (posN (S k) (t - S k 2))) t c_13 rfl rfl (by omega) (by omega)
        refine lv_iload_n hx hb dX4_catchOf_22 rfl (lv_at hl 0 rfl) ?_
        exact W.iret (v := nI t) hx hb hr (fun t9 ht9 hW9 => ⟨_, rfl, (congrArg nI (cat_ret hi1_2 hi0_2 q_13).symm), ht9⟩) (fun q h => by cases h) dX4_catchOf_23
      · skip
        have q_13 := tN_nle (farN P (posN (S k) (t - S k 2))) t c_13 rfl rfl (by omega) (by omega)
        refine lv_iinc (v := nI (t + 1)) (lv' := [(3, .int (nI (t + 1))), (0, .ref (gm G 0)), (1, .int (nI P)), (2, .int (nI k))]) hx hb dX4_catchOf_16 hl (k := 0) rfl (inc1 t) (by decide) rfl (fun ls hl => ?_)
        refine lv_goto (tgt := 2) hx hb dX4_catchOf_19 (by decide) ?_
        exact ih_2 (t + 1) _ (by omega) rfl (cat_go hi1_2 hi0_2 hf6 q_13).1 (cat_go hi1_2 hi0_2 hf6 q_13).2 ls (lv_sub hl [0, 1, 2, 3] rfl)
  exact loop_2 _ 0 _ (Nat.lt_succ_self _) rfl (by omega) rfl ls (lv_sub hl [0, 1, 2, 3] rfl)
set_option maxHeartbeats 4000000 in
set_option maxRecDepth 100000 in
theorem c_X4_catches (l : Launch) (G : Gam) (μ : St) (hs : Int64) (n : Nat) (S : Nat → Sk) (q : Nat) (V : Nat → Nat) (ch : Int32) (hg : RM μ n S q V ch) (x y : Int32) : Met l yX4_catches (w1 yX4_catches cX4_catches 3 (some .int)) ({ frames := 4, cells := 0, slots := 0, locals := 98 }) (PcM G μ hs [.ref (gm G 0), .int x, .int y]) (vp_Si (fun r => r = aCatch n S x y)) 0 0 (fun _ => False) := by
  have hn6 := hg.1.2
  have hq8 := hg.2.2.1.2
  rcases hasB_c y (n := n) (by omega) with hy0 | ⟨k, hk, rfl⟩
  · skip
    refine met_of [.ref (gm G 0), .int x, .int y] [(0, .ref (gm G 0)), (1, .int x), (2, .int y)] (by decide) (Nat.le_of_ble_eq_true rfl) rfl ?_
    intro p e s m below meth c hx hb hr hown hml hlocks hW ls hl
    have hG : GW s := hW.2.2.2
    refine lv_aload_n hx hb dX4_catches_0 rfl (lv_at hl 0 rfl) ?_
    refine lv_iload_n hx hb dX4_catches_1 rfl (lv_at hl 2 rfl) ?_
    refine cr_i (q := 676) [.int y] hx hb hml hown hG v_X4_isStick (by decide +kernel) (c_X4_isStick l G μ hs n S q V ch hg (y)) (preM hW _) rfl hl.1 (Nat.le_of_ble_eq_true rfl) dX4_catches_2 ⟨rfl, rfl, Nat.le_of_ble_eq_true rfl, Nat.le_of_ble_eq_true rfl⟩ ⟨Nat.le_of_ble_eq_true rfl, Nat.le_of_ble_eq_true rfl⟩ ?_
    refine lv_eqi (y := 0) (by rw [hy0]; rfl) ?_
    refine lv_if_ne (tgt := 11) hx hb dX4_catches_5 (by decide) (fun c_5 => ?_) (fun c_5 => ?_)
    · skip
      exact absurd (by decide) c_5
    · skip
      refine lv_bipush (v := (-101)) hx hb dX4_catches_8 (by decide) ?_
      exact W.iret (v := (-101)) hx hb hr (fun t9 ht9 hW9 => ⟨_, rfl, (wK_f hy0).symm, ht9⟩) (fun q h => by cases h) dX4_catches_10
  · skip
    rcases hasB_c x (n := 16) (by omega) with hx0 | ⟨t, ht, rfl⟩
    · skip
      refine met_of [.ref (gm G 0), .int x, .int (nI k)] [(0, .ref (gm G 0)), (1, .int x), (2, .int (nI k))] (by decide) (Nat.le_of_ble_eq_true rfl) rfl ?_
      intro p e s m below meth c hx hb hr hown hml hlocks hW ls hl
      have hG : GW s := hW.2.2.2
      refine lv_aload_n hx hb dX4_catches_0 rfl (lv_at hl 0 rfl) ?_
      refine lv_iload_n hx hb dX4_catches_1 rfl (lv_at hl 2 rfl) ?_
      refine cr_i (q := 676) [.int (nI k)] hx hb hml hown hG v_X4_isStick (by decide +kernel) (c_X4_isStick l G μ hs n S q V ch hg (nI k)) (preM hW _) rfl hl.1 (Nat.le_of_ble_eq_true rfl) dX4_catches_2 ⟨rfl, rfl, Nat.le_of_ble_eq_true rfl, Nat.le_of_ble_eq_true rfl⟩ ⟨Nat.le_of_ble_eq_true rfl, Nat.le_of_ble_eq_true rfl⟩ ?_
      refine lv_eqi (y := 1) (by rw [hasB_k hk (by omega)]; rfl) ?_
      refine lv_if_ne (tgt := 11) hx hb dX4_catches_5 (by decide) (fun c_5 => ?_) (fun c_5 => ?_)
      · skip
        refine lv_iload_n hx hb dX4_catches_11 rfl (lv_at hl 1 rfl) ?_
        refine lv_i2l hx hb dX4_catches_12 rfl ?_
        refine lv_lconst (v := 0) hx hb dX4_catches_13 rfl ?_
        refine lv_ldc2 (v := 15) hx hb hown (hG.use (i := 777) (by decide +kernel) rfl _) dX4_catches_14 ?_
        refine cs_i (q := 641) [.long ((x : Int32).toInt64), .long 0, .long 15] hx hb hml hown hG v_X4_in (by decide +kernel) (c_X4_in l ((x : Int32).toInt64) (0) (15)) (preT _) rfl hl.1 (Nat.le_of_ble_eq_true rfl) dX4_catches_17 ⟨rfl, rfl, Nat.le_of_ble_eq_true rfl, Nat.le_of_ble_eq_true rfl⟩ ⟨Nat.le_of_ble_eq_true rfl, Nat.le_of_ble_eq_true rfl⟩ ?_
        refine lv_eqi (y := 0) (by rw [inI _ 15 15 rfl (by omega), hx0]; rfl) ?_
        refine lv_if_eq (tgt := 32) hx hb dX4_catches_20 (by decide) (fun c_20 => ?_) (fun c_20 => ?_)
        · skip
          refine lv_bipush (v := (-102)) hx hb dX4_catches_32 (by decide) ?_
          exact W.iret (v := (-102)) hx hb hr (fun t9 ht9 hW9 => ⟨_, rfl, (by rw [aCatch, wK_k hk (by omega), wK_f hx0]), ht9⟩) (fun q h => by cases h) dX4_catches_34
        · skip
          exact absurd (by decide) c_20
      · skip
        exact absurd c_5 (by decide)
    · skip
      refine met_of [.ref (gm G 0), .int (nI t), .int (nI k)] [(0, .ref (gm G 0)), (1, .int (nI t)), (2, .int (nI k))] (by decide) (Nat.le_of_ble_eq_true rfl) rfl ?_
      intro p e s m below meth c hx hb hr hown hml hlocks hW ls hl
      have hG : GW s := hW.2.2.2
      refine lv_aload_n hx hb dX4_catches_0 rfl (lv_at hl 0 rfl) ?_
      refine lv_iload_n hx hb dX4_catches_1 rfl (lv_at hl 2 rfl) ?_
      refine cr_i (q := 676) [.int (nI k)] hx hb hml hown hG v_X4_isStick (by decide +kernel) (c_X4_isStick l G μ hs n S q V ch hg (nI k)) (preM hW _) rfl hl.1 (Nat.le_of_ble_eq_true rfl) dX4_catches_2 ⟨rfl, rfl, Nat.le_of_ble_eq_true rfl, Nat.le_of_ble_eq_true rfl⟩ ⟨Nat.le_of_ble_eq_true rfl, Nat.le_of_ble_eq_true rfl⟩ ?_
      refine lv_eqi (y := 1) (by rw [hasB_k hk (by omega)]; rfl) ?_
      refine lv_if_ne (tgt := 11) hx hb dX4_catches_5 (by decide) (fun c_5 => ?_) (fun c_5 => ?_)
      · skip
        refine lv_iload_n hx hb dX4_catches_11 rfl (lv_at hl 1 rfl) ?_
        refine lv_i2l hx hb dX4_catches_12 rfl ?_
        refine lv_lconst (v := 0) hx hb dX4_catches_13 rfl ?_
        refine lv_ldc2 (v := 15) hx hb hown (hG.use (i := 777) (by decide +kernel) rfl _) dX4_catches_14 ?_
        refine cs_i (q := 641) [.long ((nI t : Int32).toInt64), .long 0, .long 15] hx hb hml hown hG v_X4_in (by decide +kernel) (c_X4_in l ((nI t : Int32).toInt64) (0) (15)) (preT _) rfl hl.1 (Nat.le_of_ble_eq_true rfl) dX4_catches_17 ⟨rfl, rfl, Nat.le_of_ble_eq_true rfl, Nat.le_of_ble_eq_true rfl⟩ ⟨Nat.le_of_ble_eq_true rfl, Nat.le_of_ble_eq_true rfl⟩ ?_
        refine lv_eqi (y := 1) (by rw [inI _ 15 15 rfl (by omega), hasB_k ht (by omega)]; rfl) ?_
        refine lv_if_eq (tgt := 32) hx hb dX4_catches_20 (by decide) (fun c_20 => ?_) (fun c_20 => ?_)
        · skip
          exact absurd c_20 (by decide)
        · skip
          refine lv_aload_n hx hb dX4_catches_23 rfl (lv_at hl 0 rfl) ?_
          refine lv_iload_n hx hb dX4_catches_24 rfl (lv_at hl 1 rfl) ?_
          refine lv_iload_n hx hb dX4_catches_25 rfl (lv_at hl 2 rfl) ?_
          refine cr_i (q := 778) [.int (nI t), .int (nI k)] hx hb hml hown hG v_X4_catchOf (by decide +kernel) (c_X4_catchOf l G μ hs n S q V ch hg t k ht hk) (preM hW _) rfl hl.1 (Nat.le_of_ble_eq_true rfl) dX4_catches_26 ⟨rfl, rfl, Nat.le_of_ble_eq_true rfl, Nat.le_of_ble_eq_true rfl⟩ ⟨Nat.le_of_ble_eq_true rfl, Nat.le_of_ble_eq_true rfl⟩ ?_
          refine lv_goto (tgt := 34) hx hb dX4_catches_29 (by decide) ?_
          exact W.iret (v := nI (catN (atN (S k)) t)) hx hb hr (fun t9 ht9 hW9 => ⟨_, rfl, (by rw [aCatch, wK_k hk (by omega), wK_k ht (by omega)]), ht9⟩) (fun q h => by cases h) dX4_catches_34
      · skip
        exact absurd c_5 (by decide)
set_option maxHeartbeats 4000000 in
set_option maxRecDepth 100000 in
theorem c_X4_whoseOf (l : Launch) (G : Gam) (μ : St) (hs : Int64) (n : Nat) (S : Nat → Sk) (q : Nat) (V : Nat → Nat) (ch : Int32) (hg : RM μ n S q V ch) : Met l yX4_whoseOf (w1 yX4_whoseOf cX4_whoseOf 5 (some .int)) ({ frames := 3, cells := 0, slots := 0, locals := 75 }) (PcM G μ hs [.ref (gm G 0)]) (vp_Si (fun r => r = nI (whN (OKf S q V) n))) 0 0 (fun _ => False) := by
  refine met_of [.ref (gm G 0)] [(0, .ref (gm G 0))] (by decide) (Nat.le_of_ble_eq_true rfl) rfl ?_
  intro p e s m below meth c hx hb hr hown hml hlocks hW ls hl
  have hG : GW s := hW.2.2.2
  have hn6 := hg.1.2
  have hq8 := hg.2.2.1.2
  refine lv_iconst (v := 0) hx hb dX4_whoseOf_0 (by decide) ?_
  refine lv_istore_n (lv' := [(1, .int 0), (0, .ref (gm G 0))]) hx hb dX4_whoseOf_1 rfl hl (by decide) rfl (fun ls hl => ?_)
  refine lv_iconst (v := 0) hx hb dX4_whoseOf_2 (by decide) ?_
  refine lv_istore_n (lv' := [(2, .int 0), (1, .int 0), (0, .ref (gm G 0))]) hx hb dX4_whoseOf_3 rfl hl (by decide) rfl (fun ls hl => ?_)
  have loop_4 : ∀ (N9 : Nat) (i : Nat) (bb : Int32) (io : Int32), n - i < N9 → bb = nI (whN (OKf S q V) i) → io = nI i → i ≤ n → ∀ ls : Array Slot, lv_has ls 5 [(1, .int bb), (2, .int io), (0, .ref (gm G 0))] → W p l e (headSpec (w1 yX4_whoseOf cX4_whoseOf 5 (some .int)) ({ frames := 3, cells := 0, slots := 0, locals := 75 })).room s m [.ref (gm G 0)].toArray below meth c s.heap [] 0 0 (MQ below (vp_Si (fun r => r = nI (whN (OKf S q V) n))) [.ref (gm G 0)].toArray s 0 0 (fun _ => False)) (F0 m 4 ls []) := by
    intro N9
    induction N9 with
    | zero => intro i bb io hN; exact absurd hN (Nat.not_lt_zero _)
    | succ N9 ih =>
      intro i bb io hN e_bb e_io hi0_4 ls hl
      subst e_bb
      subst e_io
      have ih_4 := ih
      refine lv_iload_n hx hb dX4_whoseOf_4 rfl (lv_at hl 1 rfl) ?_
      refine lv_aload_n hx hb dX4_whoseOf_5 rfl (lv_at hl 2 rfl) ?_
      refine rd_X4_75 hx hb hown hW dX4_whoseOf_6 ?_
      refine lv_eqi (y := nI n) hg.1.1 ?_
      refine lv_icmp_ge (tgt := 90) hx hb dX4_whoseOf_9 (by decide) (fun c_9 => ?_) (fun c_9 => ?_)
      · skip
        have q_9 := tN_le n i c_9 rfl rfl (by omega) (by omega)
        refine lv_iload_n hx hb dX4_whoseOf_90 rfl (lv_at hl 0 rfl) ?_
        exact W.iret (v := nI (whN (OKf S q V) i)) hx hb hr (fun t9 ht9 hW9 => ⟨_, rfl, (by have h9 : i = n := (by omega); subst h9; rfl), ht9⟩) (fun q h => by cases h) dX4_whoseOf_91
      · skip
        have q_9 := tN_nle n i c_9 rfl rfl (by omega) (by omega)
        refine lv_iconst (v := 1) hx hb dX4_whoseOf_12 (by decide) ?_
        refine lv_istore_n (lv' := [(3, .int 1), (1, .int (nI (whN (OKf S q V) i))), (2, .int (nI i)), (0, .ref (gm G 0))]) hx hb dX4_whoseOf_13 rfl hl (by decide) rfl (fun ls hl => ?_)
        refine lv_iconst (v := 0) hx hb dX4_whoseOf_14 (by decide) ?_
        refine lv_istore (lv' := [(4, .int 0), (3, .int 1), (1, .int (nI (whN (OKf S q V) i))), (2, .int (nI i)), (0, .ref (gm G 0))]) hx hb dX4_whoseOf_15 hl (by decide) rfl (fun ls hl => ?_)
        have loop_17 : ∀ (N9 : Nat) (j : Nat) (is9 : Int32) (jo : Int32), q - j < N9 → is9 = bI (okN (atN (S i)) V j) → jo = nI j → j ≤ q → ∀ ls : Array Slot, lv_has ls 5 [(3, .int is9), (4, .int jo), (1, .int (nI (whN (OKf S q V) i))), (2, .int (nI i)), (0, .ref (gm G 0))] → W p l e (headSpec (w1 yX4_whoseOf cX4_whoseOf 5 (some .int)) ({ frames := 3, cells := 0, slots := 0, locals := 75 })).room s m [.ref (gm G 0)].toArray below meth c s.heap [] 0 0 (MQ below (vp_Si (fun r => r = nI (whN (OKf S q V) n))) [.ref (gm G 0)].toArray s 0 0 (fun _ => False)) (F0 m 17 ls []) := by
          intro N9
          induction N9 with
          | zero => intro j is9 jo hN; exact absurd hN (Nat.not_lt_zero _)
          | succ N9 ih =>
            intro j is9 jo hN e_is9 e_jo hi0_17 ls hl
            subst e_is9
            subst e_jo
            have ih_17 := ih
            refine lv_iload hx hb dX4_whoseOf_17 (lv_at hl 1 rfl) ?_
            refine lv_aload_n hx hb dX4_whoseOf_19 rfl (lv_at hl 4 rfl) ?_
            refine rd_X4_81 hx hb hown hW dX4_whoseOf_20 ?_
            refine lv_eqi (y := nI q) hg.2.2.1.1 ?_
            refine lv_icmp_ge (tgt := 70) hx hb dX4_whoseOf_23 (by decide) (fun c_23 => ?_) (fun c_23 => ?_)
            · skip
              have q_23 := tN_le q j c_23 rfl rfl (by omega) (by omega)
              refine lv_iload_n hx hb dX4_whoseOf_70 rfl (lv_at hl 2 rfl) ?_
              refine lv_iload_n hx hb dX4_whoseOf_71 rfl (lv_at hl 0 rfl) ?_
              refine lv_if_eq (tgt := 81) hx hb dX4_whoseOf_72 (by decide) (fun c_72 => ?_) (fun c_72 => ?_)
              · skip
                have b_72 := bI_0 c_72
                refine lv_iconst (v := 0) hx hb dX4_whoseOf_81 (by decide) ?_
                refine lv_ior hx hb dX4_whoseOf_82 ?_
                refine lv_eqi (y := nI ((whN (OKf S q V) i) ||| 0)) (nI_or (whN (OKf S q V) i) 0) ?_
                refine lv_istore_n (lv' := [(1, .int (nI ((whN (OKf S q V) i) ||| 0))), (3, .int (bI ((okN (atN (S i)) V j)))), (4, .int (nI j)), (2, .int (nI i)), (0, .ref (gm G 0))]) hx hb dX4_whoseOf_83 rfl hl (by decide) rfl (fun ls hl => ?_)
                refine lv_iinc (v := nI (i + 1)) (lv' := [(2, .int (nI (i + 1))), (1, .int (nI ((whN (OKf S q V) i) ||| 0))), (3, .int (bI ((okN (atN (S i)) V j)))), (4, .int (nI j)), (0, .ref (gm G 0))]) hx hb dX4_whoseOf_84 hl (k := 3) rfl (inc1 i) (by decide) rfl (fun ls hl => ?_)
                refine lv_goto (tgt := 4) hx hb dX4_whoseOf_87 (by decide) ?_
                exact ih_4 (i + 1) _ _ (by omega) (by have h9 : j = q := (by omega); subst h9; exact congrArg nI (wh_n0 b_72)) rfl (by omega) ls (lv_sub hl [1, 0, 4] rfl)
              · skip
                have b_72 := bI_1 c_72
                refine lv_iconst (v := 1) hx hb dX4_whoseOf_75 (by decide) ?_
                refine lv_iload_n hx hb dX4_whoseOf_76 rfl (lv_at hl 3 rfl) ?_
                refine lv_ishl hx hb dX4_whoseOf_77 ?_
                refine lv_eqi (y := nI (2 ^ i)) (bitI i (by omega)) ?_
                refine lv_goto (tgt := 82) hx hb dX4_whoseOf_78 (by decide) ?_
                refine lv_ior hx hb dX4_whoseOf_82 ?_
                refine lv_eqi (y := nI ((whN (OKf S q V) i) ||| (2 ^ i))) (nI_or (whN (OKf S q V) i) (2 ^ i)) ?_
                refine lv_istore_n (lv' := [(1, .int (nI ((whN (OKf S q V) i) ||| (2 ^ i)))), (3, .int (bI ((okN (atN (S i)) V j)))), (4, .int (nI j)), (2, .int (nI i)), (0, .ref (gm G 0))]) hx hb dX4_whoseOf_83 rfl hl (by decide) rfl (fun ls hl => ?_)
                refine lv_iinc (v := nI (i + 1)) (lv' := [(2, .int (nI (i + 1))), (1, .int (nI ((whN (OKf S q V) i) ||| (2 ^ i)))), (3, .int (bI ((okN (atN (S i)) V j)))), (4, .int (nI j)), (0, .ref (gm G 0))]) hx hb dX4_whoseOf_84 hl (k := 3) rfl (inc1 i) (by decide) rfl (fun ls hl => ?_)
                refine lv_goto (tgt := 4) hx hb dX4_whoseOf_87 (by decide) ?_
                exact ih_4 (i + 1) _ _ (by omega) (by have h9 : j = q := (by omega); subst h9; exact congrArg nI (wh_y b_72)) rfl (by omega) ls (lv_sub hl [1, 0, 4] rfl)
            · skip
              have q_23 := tN_nle q j c_23 rfl rfl (by omega) (by omega)
              refine lv_iload_n hx hb dX4_whoseOf_26 rfl (lv_at hl 0 rfl) ?_
              refine lv_if_eq (tgt := 62) hx hb dX4_whoseOf_27 (by decide) (fun c_27 => ?_) (fun c_27 => ?_)
              · skip
                have b_27 := bI_0 c_27
                refine lv_iconst (v := 0) hx hb dX4_whoseOf_62 (by decide) ?_
                refine lv_istore_n (lv' := [(3, .int 0), (4, .int (nI j)), (1, .int (nI (whN (OKf S q V) i))), (2, .int (nI i)), (0, .ref (gm G 0))]) hx hb dX4_whoseOf_63 rfl hl (by decide) rfl (fun ls hl => ?_)
                refine lv_iinc (v := nI (j + 1)) (lv' := [(4, .int (nI (j + 1))), (3, .int 0), (1, .int (nI (whN (OKf S q V) i))), (2, .int (nI i)), (0, .ref (gm G 0))]) hx hb dX4_whoseOf_64 hl (k := 1) rfl (inc1 j) (by decide) rfl (fun ls hl => ?_)
                refine lv_goto (tgt := 17) hx hb dX4_whoseOf_67 (by decide) ?_
                exact ih_17 (j + 1) _ _ (by omega) (ok_n1 b_27) rfl (by omega) ls (lv_sub hl [1, 0, 2, 3, 4] rfl)
              · skip
                have b_27 := bI_1 c_27
                have hV := hg.2.2.2.2 j (by omega)
                have hV1 := hV.2.2.1
                have hV2 := hV.2.2.2
                have hpl := posN_lt (hg.2.2.2.1 i (by omega)).1 (V (2 * j + 1) - S i 2)
                refine lv_aload_n hx hb dX4_whoseOf_30 rfl (lv_at hl 4 rfl) ?_
                refine lv_iload_n hx hb dX4_whoseOf_31 rfl (lv_at hl 3 rfl) ?_
                refine lv_aload_n hx hb dX4_whoseOf_32 rfl (lv_at hl 4 rfl) ?_
                refine rd_X4_22 hx hb hown hW dX4_whoseOf_33 ?_
                refine lv_iconst (v := 2) hx hb dX4_whoseOf_36 (by decide) ?_
                refine lv_iload hx hb dX4_whoseOf_37 (lv_at hl 1 rfl) ?_
                refine ln_mul 2 j hx hb rfl rfl dX4_whoseOf_39 ?_
                refine lv_iconst (v := 1) hx hb dX4_whoseOf_40 (by decide) ?_
                refine ln_add (2 * j) 1 hx hb rfl rfl dX4_whoseOf_41 ?_
                refine al_M (k := (2 * j) + 1) 5 hx hb hW rfl (show _ < 16 by omega) dX4_whoseOf_42 ?_
                refine lv_eqi (y := nI (V (2 * j + 1))) (hg.2.2.2.2 j (by omega)).2.1 ?_
                refine cr_i (q := 694) [.int (nI i), .int (nI (V (2 * j + 1)))] hx hb hml hown hG v_X4_atOf (by decide +kernel) (c_X4_atOf l G μ hs n S q V ch hg i (by omega) (V (2 * j + 1)) (by omega)) (preM hW _) rfl hl.1 (Nat.le_of_ble_eq_true rfl) dX4_whoseOf_43 ⟨rfl, rfl, Nat.le_of_ble_eq_true rfl, Nat.le_of_ble_eq_true rfl⟩ ⟨Nat.le_of_ble_eq_true rfl, Nat.le_of_ble_eq_true rfl⟩ ?_
                refine lv_aload_n hx hb dX4_whoseOf_46 rfl (lv_at hl 4 rfl) ?_
                refine rd_X4_22 hx hb hown hW dX4_whoseOf_47 ?_
                refine lv_iconst (v := 2) hx hb dX4_whoseOf_50 (by decide) ?_
                refine lv_iload hx hb dX4_whoseOf_51 (lv_at hl 1 rfl) ?_
                refine ln_mul 2 j hx hb rfl rfl dX4_whoseOf_53 ?_
                refine al_M (k := 2 * j) 5 hx hb hW rfl (show _ < 16 by omega) dX4_whoseOf_54 ?_
                refine lv_eqi (y := nI (V (2 * j))) (hg.2.2.2.2 j (by omega)).1 ?_
                refine lv_icmp_ne (tgt := 62) hx hb dX4_whoseOf_55 (by decide) (fun c_55 => ?_) (fun c_55 => ?_)
                · skip
                  have q_55 := tN_ne (posN (S i) (V (2 * j + 1) - S i 2)) (V (2 * j)) c_55 rfl rfl (by omega) (by omega)
                  refine lv_iconst (v := 0) hx hb dX4_whoseOf_62 (by decide) ?_
                  refine lv_istore_n (lv' := [(3, .int 0), (4, .int (nI j)), (1, .int (nI (whN (OKf S q V) i))), (2, .int (nI i)), (0, .ref (gm G 0))]) hx hb dX4_whoseOf_63 rfl hl (by decide) rfl (fun ls hl => ?_)
                  refine lv_iinc (v := nI (j + 1)) (lv' := [(4, .int (nI (j + 1))), (3, .int 0), (1, .int (nI (whN (OKf S q V) i))), (2, .int (nI i)), (0, .ref (gm G 0))]) hx hb dX4_whoseOf_64 hl (k := 1) rfl (inc1 j) (by decide) rfl (fun ls hl => ?_)
                  refine lv_goto (tgt := 17) hx hb dX4_whoseOf_67 (by decide) ?_
                  exact ih_17 (j + 1) _ _ (by omega) (ok_n2 q_55) rfl (by omega) ls (lv_sub hl [1, 0, 2, 3, 4] rfl)
                · skip
                  have q_55 := tN_eq (posN (S i) (V (2 * j + 1) - S i 2)) (V (2 * j)) c_55 rfl rfl (by omega) (by omega)
                  refine lv_iconst (v := 1) hx hb dX4_whoseOf_58 (by decide) ?_
                  refine lv_goto (tgt := 63) hx hb dX4_whoseOf_59 (by decide) ?_
                  refine lv_istore_n (lv' := [(3, .int 1), (4, .int (nI j)), (1, .int (nI (whN (OKf S q V) i))), (2, .int (nI i)), (0, .ref (gm G 0))]) hx hb dX4_whoseOf_63 rfl hl (by decide) rfl (fun ls hl => ?_)
                  refine lv_iinc (v := nI (j + 1)) (lv' := [(4, .int (nI (j + 1))), (3, .int 1), (1, .int (nI (whN (OKf S q V) i))), (2, .int (nI i)), (0, .ref (gm G 0))]) hx hb dX4_whoseOf_64 hl (k := 1) rfl (inc1 j) (by decide) rfl (fun ls hl => ?_)
                  refine lv_goto (tgt := 17) hx hb dX4_whoseOf_67 (by decide) ?_
                  exact ih_17 (j + 1) _ _ (by omega) (ok_y b_27 q_55) rfl (by omega) ls (lv_sub hl [1, 0, 2, 3, 4] rfl)
        exact loop_17 _ 0 _ _ (Nat.lt_succ_self _) rfl rfl (by omega) ls (lv_sub hl [1, 0, 2, 3, 4] rfl)
  exact loop_4 _ 0 _ _ (Nat.lt_succ_self _) rfl rfl (by omega) ls (lv_sub hl [1, 0, 2] rfl)
set_option maxHeartbeats 4000000 in
set_option maxRecDepth 100000 in
theorem c_X4_whose (l : Launch) (G : Gam) (μ : St) (hs : Int64) (n : Nat) (S : Nat → Sk) (q : Nat) (V : Nat → Nat) (ch : Int32) (hg : RM μ n S q V ch) : Met l yX4_whose (w1 yX4_whose cX4_whose 1 (some .int)) ({ frames := 4, cells := 0, slots := 0, locals := 99 }) (PcM G μ hs [.ref (gm G 0)]) (vp_Si (fun r => r = aWhose n S q V)) 0 0 (fun _ => False) := by
  refine met_of [.ref (gm G 0)] [(0, .ref (gm G 0))] (by decide) (Nat.le_of_ble_eq_true rfl) rfl ?_
  intro p e s m below meth c hx hb hr hown hml hlocks hW ls hl
  have hG : GW s := hW.2.2.2
  have hn6 := hg.1.2
  have hq8 := hg.2.2.1.2
  refine lv_aload_n hx hb dX4_whose_0 rfl (lv_at hl 0 rfl) ?_
  refine cr_i (q := 761) [] hx hb hml hown hG v_X4_lacks (by decide +kernel) (c_X4_lacks l G μ hs n S q V ch hg) (preM hW _) rfl hl.1 (Nat.le_of_ble_eq_true rfl) dX4_whose_1 ⟨rfl, rfl, Nat.le_of_ble_eq_true rfl, Nat.le_of_ble_eq_true rfl⟩ ⟨Nat.le_of_ble_eq_true rfl, Nat.le_of_ble_eq_true rfl⟩ ?_
  refine lv_if_eq (tgt := 12) hx hb dX4_whose_4 (by decide) (fun c_4 => ?_) (fun c_4 => ?_)
  · skip
    have b_4 := bI_0 c_4
    refine lv_aload_n hx hb dX4_whose_12 rfl (lv_at hl 0 rfl) ?_
    refine cr_i (q := 797) [] hx hb hml hown hG v_X4_whoseOf (by decide +kernel) (c_X4_whoseOf l G μ hs n S q V ch hg) (preM hW _) rfl hl.1 (Nat.le_of_ble_eq_true rfl) dX4_whose_13 ⟨rfl, rfl, Nat.le_of_ble_eq_true rfl, Nat.le_of_ble_eq_true rfl⟩ ⟨Nat.le_of_ble_eq_true rfl, Nat.le_of_ble_eq_true rfl⟩ ?_
    exact W.iret (v := nI (whN (OKf S q V) n)) hx hb hr (fun t9 ht9 hW9 => ⟨_, rfl, (if_neg (of_decide_eq_false b_4)).symm, ht9⟩) (fun q h => by cases h) dX4_whose_16
  · skip
    have b_4 := bI_1 c_4
    refine lv_bipush (v := (-103)) hx hb dX4_whose_7 (by decide) ?_
    refine lv_goto (tgt := 16) hx hb dX4_whose_9 (by decide) ?_
    exact W.iret (v := (-103)) hx hb hr (fun t9 ht9 hW9 => ⟨_, rfl, (if_pos (of_decide_eq_true b_4)).symm, ht9⟩) (fun q h => by cases h) dX4_whose_16
