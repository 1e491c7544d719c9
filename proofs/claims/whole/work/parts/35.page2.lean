set_option maxHeartbeats 4000000 in
set_option maxRecDepth 100000 in
theorem c_X3_hills (l : Launch) (G : Gam) (σ : St) (pn : Nat) (P : Nat → Nat) (hp : PG σ pn P) (rd : Int32) (hrd : σ 0 5 = rd) : Met l yX3_hills (w1 yX3_hills cX3_hills 1 (some .int)) ({ frames := 7, cells := 0, slots := 0, locals := 156 }) (PcS G σ [.ref (ga G 0)]) (QiX G (fun r σ9 => (¬ (ftN P pn = pn ∧ 2 < (prN P pn).2) → r = -103 ∧ σ9 = σ) ∧ ((ftN P pn = pn ∧ 2 < (prN P pn).2) → r = nI ((prN P pn).1 + 1) ∧ ∃ σ8, RI σ P pn σ8 ∧ σ9 = up2 (up2 (up2 σ8 1 1 0) 0 4 0) 0 5 (rd + 1)))) 0 0 (aX G) := by
  refine met_of [.ref (ga G 0)] [(0, .ref (ga G 0))] (by decide) (Nat.le_of_ble_eq_true rfl) rfl ?_
  intro p e s m below meth c hx hb hr hown hml hlocks hW ls hl
  obtain ⟨hW, hSX⟩ := hW
  have hG : GW s := hW.2.2.2.1
  have hS : va_S (aX G) s.heap s.heap [] := va_S.rf
  refine lv_aload_n hx hb dX3_hills_0 rfl (lv_at hl 0 rfl) ?_
  refine rd_X3_10 hx hb hown hW dX3_hills_1 ?_
  refine cr_i (q := 284) [] hx hb hml hown hG v_X1_tellsHills (by decide +kernel) (c_X1_tellsHills l G σ pn P hp) (preSP hW hSX _) rfl hl.1 (Nat.le_of_ble_eq_true rfl) dX3_hills_4 ⟨rfl, rfl, Nat.le_of_ble_eq_true rfl, Nat.le_of_ble_eq_true rfl⟩ ⟨Nat.le_of_ble_eq_true rfl, Nat.le_of_ble_eq_true rfl⟩ ?_
  refine lv_if_ne (tgt := 13) hx hb dX3_hills_7 (by decide) (fun c_7 => ?_) (fun c_7 => ?_)
  · skip
    have b_7 := bI_1 c_7
    have hy9 := of_decide_eq_true b_7
    refine lv_aload_n hx hb dX3_hills_13 rfl (lv_at hl 0 rfl) ?_
    refine rd_X3_10 hx hb hown hW dX3_hills_14 ?_
    refine lv_aload_n hx hb dX3_hills_17 rfl (lv_at hl 0 rfl) ?_
    refine rd_X3_19 hx hb hown hW dX3_hills_18 ?_
    refine cw_v (q := 293) [.ref (ga G (5 * 0 + 4))] hx hb hml hown hW.2 hS v_X1_readInto (by decide +kernel) (c_X1_readInto l G σ pn P hp hy9.1) (preSP hW hSX _) rfl hl.1 (Nat.le_of_ble_eq_true rfl) dX3_hills_21 ⟨rfl, rfl, Nat.le_of_ble_eq_true rfl, Nat.le_of_ble_eq_true rfl⟩ ⟨Nat.le_of_ble_eq_true rfl, Nat.le_of_ble_eq_true rfl⟩ (fun σ1 H locs hσ1 hW hS => ?_)
    refine lv_aload_n hx hb dX3_hills_24 rfl (lv_at hl 0 rfl) ?_
    refine rd_X3_10 hx hb hown hW dX3_hills_25 ?_
    refine lv_iconst (v := 0) hx hb dX3_hills_28 (by decide) ?_
    refine wr_X3_42 hx hb hown hW hS dX3_hills_29 (fun H locs hW hS => ?_)
    obtain ⟨σ2, hσ2⟩ : ∃ z, z = up2 σ1 (1) 1 0 := ⟨_, rfl⟩
    rw [← hσ2] at hW
    refine lv_aload_n hx hb dX3_hills_32 rfl (lv_at hl 0 rfl) ?_
    refine lv_iconst (v := 0) hx hb dX3_hills_33 (by decide) ?_
    refine wr_X3_30 hx hb hown hW hS rfl rfl dX3_hills_34 (fun H locs hW hS => ?_)
    obtain ⟨σ3, hσ3⟩ : ∃ z, z = up2 σ2 (0) 4 0 := ⟨_, rfl⟩
    rw [← hσ3] at hW
    refine lv_aload_n hx hb dX3_hills_37 rfl (lv_at hl 0 rfl) ?_
    refine lv_dup hx hb dX3_hills_38 rfl ?_
    refine rd_X3_34 hx hb hown hW dX3_hills_39 ?_
    refine lv_eqi (y := rd) (by rw [hσ3, up2_nf (by decide), hσ2, up2_ne (by decide), hσ1.2.1 0 (by unfold OutH; omega)]; exact hrd) ?_
    refine lv_iconst (v := 1) hx hb dX3_hills_42 (by decide) ?_
    refine lv_iadd hx hb dX3_hills_43 ?_
    refine wr_X3_34 hx hb hown hW hS dX3_hills_44 (fun H locs hW hS => ?_)
    obtain ⟨σ4, hσ4⟩ : ∃ z, z = up2 σ3 (0) 5 (rd + 1) := ⟨_, rfl⟩
    rw [← hσ4] at hW
    refine lv_aload_n hx hb dX3_hills_47 rfl (lv_at hl 0 rfl) ?_
    refine rd_X3_19 hx hb hown hW dX3_hills_48 ?_
    refine rd_X3_57 hx hb hown hW (show 0 < 2 by omega) dX3_hills_51 ?_
    refine lv_eqi (y := nI ((prN P pn).1 + 1)) (by rw [hσ4, up2_ne (by decide), hσ3, up2_ne (by decide), hσ2, up2_ne (by decide), ← nS_2 (pv_all hy9.1 pn (Nat.le_refl _)).1 (by have := hy9.2; omega)]; exact (hσ1.1 (fun _ => 0)).1.1) ?_
    exact W.iret (v := nI ((prN P pn).1 + 1)) hx hb hr (fun t9 ht9 hW9 => ⟨⟨_, σ4, rfl, ⟨fun z => absurd hy9 z, fun _ => ⟨rfl, _, hσ1, by subst hσ4; subst hσ3; subst hσ2; rfl⟩⟩, (by have h8 := hW.1; rw [← ht9] at h8; exact h8)⟩, hS.F ht9⟩) hS.2.2 dX3_hills_54
  · skip
    have b_7 := bI_0 c_7
    refine lv_bipush (v := (-103)) hx hb dX3_hills_10 (by decide) ?_
    exact W.iret (v := (-103)) hx hb hr (fun t9 ht9 hW9 => ⟨⟨_, σ, rfl, ⟨fun _ => ⟨rfl, rfl⟩, fun z => absurd z (of_decide_eq_false b_7)⟩, (by have h8 := hW.1; rw [← ht9] at h8; exact h8)⟩, hS.F ht9⟩) hS.2.2 dX3_hills_12
set_option maxHeartbeats 4000000 in
set_option maxRecDepth 100000 in
theorem c_X3_as (l : Launch) (G : Gam) (σ : St) (n : Nat) (S : Nat → Sk) (q : Nat) (V : Nat → Nat) (ch : Int32) (hg : GH σ 0 n S q V ch) (x y : Int32) : Met l yX3_as (w1 yX3_as cX3_as 3 (some .int)) ({ frames := 2, cells := 0, slots := 0, locals := 40 }) (PcS G σ [.ref (ga G 0), .int x, .int y]) (vp_Si (fun r => r = aAs n S x y)) 0 0 (fun _ => False) := by
  have hn6 := hg.1.2
  have hq8 := hg.2.2.1.2
  rcases hasB_c x (n := n) (by omega) with hx0 | ⟨k, hk, rfl⟩
  · skip
    refine met_of [.ref (ga G 0), .int x, .int y] [(0, .ref (ga G 0)), (1, .int x), (2, .int y)] (by decide) (Nat.le_of_ble_eq_true rfl) rfl ?_
    intro p e s m below meth c hx hb hr hown hml hlocks hW ls hl
    obtain ⟨hW, hSX⟩ := hW
    have hG : GW s := hW.2.2.2.1
    refine lv_aload_n hx hb dX3_as_0 rfl (lv_at hl 0 rfl) ?_
    refine rd_X3_19 hx hb hown hW dX3_as_1 ?_
    refine lv_iload_n hx hb dX3_as_4 rfl (lv_at hl 1 rfl) ?_
    refine cr_i (q := 337) [.int x] hx hb hml hown hG v_X0_has (by decide +kernel) (c_X0_has l G σ 0 (by omega) n S q V ch hg (x)) (preH hW (show 0 < 2 by omega) _) rfl hl.1 (Nat.le_of_ble_eq_true rfl) dX3_as_5 ⟨rfl, rfl, Nat.le_of_ble_eq_true rfl, Nat.le_of_ble_eq_true rfl⟩ ⟨Nat.le_of_ble_eq_true rfl, Nat.le_of_ble_eq_true rfl⟩ ?_
    refine lv_eqi (y := 0) (by rw [hx0]; rfl) ?_
    refine lv_if_ne (tgt := 14) hx hb dX3_as_8 (by decide) (fun c_8 => ?_) (fun c_8 => ?_)
    · skip
      exact absurd (by decide) c_8
    · skip
      refine lv_bipush (v := (-101)) hx hb dX3_as_11 (by decide) ?_
      exact W.iret (v := (-101)) hx hb hr (fun t9 ht9 hW9 => ⟨_, rfl, (wK_f hx0).symm, ht9⟩) (fun q h => by cases h) dX3_as_13
  · skip
    rcases hasB_c y (n := 5) (by omega) with hy0 | ⟨t, ht, rfl⟩
    · skip
      refine met_of [.ref (ga G 0), .int (nI k), .int y] [(0, .ref (ga G 0)), (1, .int (nI k)), (2, .int y)] (by decide) (Nat.le_of_ble_eq_true rfl) rfl ?_
      intro p e s m below meth c hx hb hr hown hml hlocks hW ls hl
      obtain ⟨hW, hSX⟩ := hW
      have hG : GW s := hW.2.2.2.1
      refine lv_aload_n hx hb dX3_as_0 rfl (lv_at hl 0 rfl) ?_
      refine rd_X3_19 hx hb hown hW dX3_as_1 ?_
      refine lv_iload_n hx hb dX3_as_4 rfl (lv_at hl 1 rfl) ?_
      refine cr_i (q := 337) [.int (nI k)] hx hb hml hown hG v_X0_has (by decide +kernel) (c_X0_has l G σ 0 (by omega) n S q V ch hg (nI k)) (preH hW (show 0 < 2 by omega) _) rfl hl.1 (Nat.le_of_ble_eq_true rfl) dX3_as_5 ⟨rfl, rfl, Nat.le_of_ble_eq_true rfl, Nat.le_of_ble_eq_true rfl⟩ ⟨Nat.le_of_ble_eq_true rfl, Nat.le_of_ble_eq_true rfl⟩ ?_
      refine lv_eqi (y := 1) (by rw [hasB_k hk (by omega)]; rfl) ?_
      refine lv_if_ne (tgt := 14) hx hb dX3_as_8 (by decide) (fun c_8 => ?_) (fun c_8 => ?_)
      · skip
        refine lv_iload_n hx hb dX3_as_14 rfl (lv_at hl 2 rfl) ?_
        refine lv_if_lt (tgt := 27) hx hb dX3_as_15 (by decide) (fun c_15 => ?_) (fun c_15 => ?_)
        · skip
          refine lv_bipush (v := (-102)) hx hb dX3_as_27 (by decide) ?_
          exact W.iret (v := (-102)) hx hb hr (fun t9 ht9 hW9 => ⟨_, rfl, (by rw [aAs, wK_k hk (by omega), wK_f hy0]), ht9⟩) (fun q h => by cases h) dX3_as_29
        · skip
          refine lv_iload_n hx hb dX3_as_18 rfl (lv_at hl 2 rfl) ?_
          refine va_ldcS hx hb hown hSX.2.2.2.2.1 dX3_as_19 ?_
          refine cr_i (q := 357) [] hx hb hml hown hG v_J0_length_8abf5 (by decide +kernel) (c_J0_length_8abf5_0 l G) (preJ hSX 0 (by decide) _) rfl hl.1 (Nat.le_of_ble_eq_true rfl) dX3_as_21 ⟨rfl, rfl, Nat.le_of_ble_eq_true rfl, Nat.le_of_ble_eq_true rfl⟩ ⟨Nat.le_of_ble_eq_true rfl, Nat.le_of_ble_eq_true rfl⟩ ?_
          refine lv_icmp_lt (tgt := 30) hx hb dX3_as_24 (by decide) (fun c_24 => ?_) (fun c_24 => ?_)
          · skip
            exact absurd (hB_lt 5 c_15 c_24) (by rw [hy0]; decide)
          · skip
            refine lv_bipush (v := (-102)) hx hb dX3_as_27 (by decide) ?_
            exact W.iret (v := (-102)) hx hb hr (fun t9 ht9 hW9 => ⟨_, rfl, (by rw [aAs, wK_k hk (by omega), wK_f hy0]), ht9⟩) (fun q h => by cases h) dX3_as_29
      · skip
        exact absurd c_8 (by decide)
    · skip
      refine met_of [.ref (ga G 0), .int (nI k), .int (nI t)] [(0, .ref (ga G 0)), (1, .int (nI k)), (2, .int (nI t))] (by decide) (Nat.le_of_ble_eq_true rfl) rfl ?_
      intro p e s m below meth c hx hb hr hown hml hlocks hW ls hl
      obtain ⟨hW, hSX⟩ := hW
      have hG : GW s := hW.2.2.2.1
      refine lv_aload_n hx hb dX3_as_0 rfl (lv_at hl 0 rfl) ?_
      refine rd_X3_19 hx hb hown hW dX3_as_1 ?_
      refine lv_iload_n hx hb dX3_as_4 rfl (lv_at hl 1 rfl) ?_
      refine cr_i (q := 337) [.int (nI k)] hx hb hml hown hG v_X0_has (by decide +kernel) (c_X0_has l G σ 0 (by omega) n S q V ch hg (nI k)) (preH hW (show 0 < 2 by omega) _) rfl hl.1 (Nat.le_of_ble_eq_true rfl) dX3_as_5 ⟨rfl, rfl, Nat.le_of_ble_eq_true rfl, Nat.le_of_ble_eq_true rfl⟩ ⟨Nat.le_of_ble_eq_true rfl, Nat.le_of_ble_eq_true rfl⟩ ?_
      refine lv_eqi (y := 1) (by rw [hasB_k hk (by omega)]; rfl) ?_
      refine lv_if_ne (tgt := 14) hx hb dX3_as_8 (by decide) (fun c_8 => ?_) (fun c_8 => ?_)
      · skip
        refine lv_iload_n hx hb dX3_as_14 rfl (lv_at hl 2 rfl) ?_
        refine lv_if_lt (tgt := 27) hx hb dX3_as_15 (by decide) (fun c_15 => ?_) (fun c_15 => ?_)
        · skip
          exact absurd (tN_lt t 0 c_15 rfl rfl (by omega) (by omega)) (by omega)
        · skip
          have q_15 := tN_nlt t 0 c_15 rfl rfl (by omega) (by omega)
          refine lv_iload_n hx hb dX3_as_18 rfl (lv_at hl 2 rfl) ?_
          refine va_ldcS hx hb hown hSX.2.2.2.2.1 dX3_as_19 ?_
          refine cr_i (q := 357) [] hx hb hml hown hG v_J0_length_8abf5 (by decide +kernel) (c_J0_length_8abf5_0 l G) (preJ hSX 0 (by decide) _) rfl hl.1 (Nat.le_of_ble_eq_true rfl) dX3_as_21 ⟨rfl, rfl, Nat.le_of_ble_eq_true rfl, Nat.le_of_ble_eq_true rfl⟩ ⟨Nat.le_of_ble_eq_true rfl, Nat.le_of_ble_eq_true rfl⟩ ?_
          refine lv_icmp_lt (tgt := 30) hx hb dX3_as_24 (by decide) (fun c_24 => ?_) (fun c_24 => ?_)
          · skip
            have q_24 := tN_lt t 5 c_24 rfl rfl (by omega) (by omega)
            refine lv_aload_n hx hb dX3_as_30 rfl (lv_at hl 0 rfl) ?_
            refine rd_X3_19 hx hb hown hW dX3_as_31 ?_
            refine rd_X3_64 hx hb hown hW (show 0 < 2 by omega) dX3_as_34 ?_
            refine lv_iload_n hx hb dX3_as_37 rfl (lv_at hl 1 rfl) ?_
            refine al_sticks (k := k) hx hb hW (show 0 < 2 by omega) rfl (by omega) dX3_as_38 ?_
            refine lv_iload_n hx hb dX3_as_39 rfl (lv_at hl 2 rfl) ?_
            refine cr_i (q := 358) [.int (nI t)] hx hb hml hown hG v_X2_isOfKind (by decide +kernel) (c_X2_isOfKind l G σ (6 * 0 + k) (by omega) (S k) (hg.2.2.2.1 k hk).1 (hg.2.2.2.1 k hk).2.1 t ht) (preK hW (by omega) _) rfl hl.1 (Nat.le_of_ble_eq_true rfl) dX3_as_40 ⟨rfl, rfl, Nat.le_of_ble_eq_true rfl, Nat.le_of_ble_eq_true rfl⟩ ⟨Nat.le_of_ble_eq_true rfl, Nat.le_of_ble_eq_true rfl⟩ ?_
            refine lv_if_eq (tgt := 50) hx hb dX3_as_43 (by decide) (fun c_43 => ?_) (fun c_43 => ?_)
            · skip
              have b_43 := bI_0 c_43
              refine lv_iconst (v := (-1)) hx hb dX3_as_50 (by decide) ?_
              exact W.iret (v := (-1)) hx hb hr (fun t9 ht9 hW9 => ⟨_, rfl, (by rw [aAs, wK_k hk (by omega)]; refine Eq.trans ?_ (wK_k (k := t) (f := fun t => if isK (S k 0) t = true then nI k else -1) ht (by omega)).symm; exact (if_neg (by rw [b_43]; decide)).symm), ht9⟩) (fun q h => by cases h) dX3_as_51
            · skip
              have b_43 := bI_1 c_43
              refine lv_iload_n hx hb dX3_as_46 rfl (lv_at hl 1 rfl) ?_
              refine lv_goto (tgt := 51) hx hb dX3_as_47 (by decide) ?_
              exact W.iret (v := nI k) hx hb hr (fun t9 ht9 hW9 => ⟨_, rfl, (by rw [aAs, wK_k hk (by omega)]; refine Eq.trans ?_ (wK_k (k := t) (f := fun t => if isK (S k 0) t = true then nI k else -1) ht (by omega)).symm; exact (if_pos b_43).symm), ht9⟩) (fun q h => by cases h) dX3_as_51
          · skip
            exact absurd (tN_nlt t 5 c_24 rfl rfl (by omega) (by omega)) (by omega)
      · skip
        exact absurd c_8 (by decide)
