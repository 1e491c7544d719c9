theorem onN_le (x : Nat) : ∀ k, onN x k ≤ k := by
  intro k
  induction k with
  | zero => exact Nat.le_refl _
  | succ k ih => unfold onN; omega
theorem popN_le (x : Nat) : popN x ≤ 16 := onN_le x 16
theorem nI_nm1 {b : Nat} (h : b < 2 ^ 31) : ¬ nI b = -1 := fun e => nI_pos h (by rw [e]; decide)
theorem cv_y {P : Nat → Nat} {n W g : Nat} {o : Option Nat} (ho : cvN P n W g = o) (h1 : btr g o = true) (h2 : W &&& grN P g n = W) : nI g = oI (cvN P n W (g + 1)) := by
  rw [cvN, ho, if_pos ⟨h1, h2⟩]; rfl
theorem cv_y0 {P : Nat → Nat} {n W g : Nat} (ho : cvN P n W g = none) (h2 : W &&& grN P g n = W) : nI g = oI (cvN P n W (g + 1)) := cv_y ho rfl h2
theorem cv_y1 {P : Nat → Nat} {n W g b : Nat} (ho : cvN P n W g = some b) (h1 : popN g < popN b) (h2 : W &&& grN P g n = W) : nI g = oI (cvN P n W (g + 1)) := cv_y ho (decide_eq_true h1) h2
theorem cv_n1 {P : Nat → Nat} {n W g : Nat} {o : Option Nat} (ho : cvN P n W g = o) (h1 : btr g o = false) : oI o = oI (cvN P n W (g + 1)) := by
  rw [cvN, ho, if_neg (fun z => by rw [h1] at z; exact absurd z.1 (by decide))]
theorem cv_n2 {P : Nat → Nat} {n W g : Nat} {o : Option Nat} (ho : cvN P n W g = o) (h2 : ¬ W &&& grN P g n = W) : oI o = oI (cvN P n W (g + 1)) := by
  rw [cvN, ho, if_neg (fun z => h2 z.2)]
theorem cv_n3 {P : Nat → Nat} {n W g b : Nat} (ho : cvN P n W g = some b) (h1 : popN b ≤ popN g) : nI b = oI (cvN P n W (g + 1)) := cv_n1 ho (decide_eq_false (Nat.not_lt.mpr h1))
theorem cv_n4 {P : Nat → Nat} {n W g : Nat} (ho : cvN P n W g = none) (h2 : ¬ W &&& grN P g n = W) : (-1 : Int32) = oI (cvN P n W (g + 1)) := cv_n2 ho h2
theorem cv_n5 {P : Nat → Nat} {n W g b : Nat} (ho : cvN P n W g = some b) (h2 : ¬ W &&& grN P g n = W) : nI b = oI (cvN P n W (g + 1)) := cv_n2 ho h2
theorem wh_y {ok : Nat → Bool} {i : Nat} (h : ok i = true) : whN ok i ||| 2 ^ i = whN ok (i + 1) := by rw [whN, if_pos h]
theorem wh_n {ok : Nat → Bool} {i : Nat} (h : ok i = false) : whN ok i = whN ok (i + 1) := by rw [whN, if_neg (by rw [h]; decide)]
theorem tg_y {C : Nat} {f : Nat → Nat} {k i : Nat} (h1 : C / 2 ^ i % 2 = 1) (h2 : f i = f k) : tgN C f k i + 1 = tgN C f k (i + 1) := by rw [tgN, if_pos ⟨h1, h2⟩]
theorem tg_n1 {C : Nat} {f : Nat → Nat} {k i : Nat} (h1 : C / 2 ^ i % 2 ≠ 1) : tgN C f k i = tgN C f k (i + 1) := by rw [tgN, if_neg (fun z => h1 z.1)]; rfl
theorem tg_n2 {C : Nat} {f : Nat → Nat} {k i : Nat} (h2 : f i ≠ f k) : tgN C f k i = tgN C f k (i + 1) := by rw [tgN, if_neg (fun z => h2 z.2)]; rfl
theorem ml_y {C : Nat} {f : Nat → Nat} {n i : Nat} (h1 : C / 2 ^ i % 2 = 1) : max (mlN C f n i) (tgN C f i n) = mlN C f n (i + 1) := by rw [mlN, if_pos h1]
theorem ml_n {C : Nat} {f : Nat → Nat} {n i : Nat} (h1 : C / 2 ^ i % 2 ≠ 1) : mlN C f n i = mlN C f n (i + 1) := by rw [mlN, if_neg h1]
theorem lk_y {w : Nat → Nat} {t : Nat} (h : w (t + 1) < (lkN w t).2) : lkN w (t + 1) = (t + 1, w (t + 1)) := by rw [lkN, if_pos h]
theorem lk_n {w : Nat → Nat} {t : Nat} (h : (lkN w t).2 ≤ w (t + 1)) : lkN w (t + 1) = lkN w t := by rw [lkN, if_neg (by omega)]
theorem lk_le {w : Nat → Nat} {n : Nat} (h : ∀ t, w t ≤ n) : ∀ t, (lkN w t).2 ≤ n := by
  intro t
  induction t with
  | zero => exact h 0
  | succ t ih =>
    unfold lkN
    split
    · exact h _
    · exact ih
theorem p2_64 {n : Nat} (h : n ≤ 6) : 2 ^ n ≤ 64 := (Nat.pow_le_pow_right (by omega) h : 2 ^ n ≤ 2 ^ 6)
set_option maxHeartbeats 4000000 in
set_option maxRecDepth 100000 in
theorem c_X0_fewestSeeing (l : Launch) (G : Gam) (σ : St) (h : Nat) (hh : h < 2) (n : Nat) (S : Nat → Sk) (q : Nat) (V : Nat → Nat) (ch : Int32) (hg : GH σ h n S q V ch) (wd : Nat) (hw6 : wd < 65536) : Met l yX0_fewestSeeing (w1 yX0_fewestSeeing cX0_fewestSeeing 5 (some .int)) ({ frames := 1, cells := 0, slots := 0, locals := 23 }) (PcX G σ [.ref (ga G (5 * h + 4)), .int (nI wd)]) (vp_Si (fun r => r = oI (cvN (fun i => orN (posN (S i)) 31) n wd (2 ^ n)))) 0 0 (fun _ => False) := by
  refine met_of [.ref (ga G (5 * h + 4)), .int (nI wd)] [(0, .ref (ga G (5 * h + 4))), (1, .int (nI wd))] (by decide) (Nat.le_of_ble_eq_true rfl) rfl ?_
  intro p e s m below meth c hx hb hr hown hml hlocks hW ls hl
  have hG : GW s := hW.2.2.2.1
  have hn6 := hg.1.2
  have hq8 := hg.2.2.1.2
  have h2n := p2_64 hn6
  refine lv_iconst (v := (-1)) hx hb dX0_fewestSeeing_0 (by decide) ?_
  refine lv_istore_n (lv' := [(2, .int ((-1))), (0, .ref (ga G (5 * h + 4))), (1, .int (nI wd))]) hx hb dX0_fewestSeeing_1 rfl hl (by decide) rfl (fun ls hl => ?_)
  refine lv_iconst (v := 0) hx hb dX0_fewestSeeing_2 (by decide) ?_
  refine lv_istore_n (lv' := [(3, .int 0), (2, .int ((-1))), (0, .ref (ga G (5 * h + 4))), (1, .int (nI wd))]) hx hb dX0_fewestSeeing_3 rfl hl (by decide) rfl (fun ls hl => ?_)
  have loop_4 : ∀ (N9 : Nat) (g : Nat) (be : Int32) (go : Int32), 2 ^ n - g < N9 → be = oI (cvN (fun i => orN (posN (S i)) 31) n wd g) → go = nI g → g ≤ 2 ^ n → ∀ ls : Array Slot, lv_has ls 5 [(2, .int be), (3, .int go), (0, .ref (ga G (5 * h + 4))), (1, .int (nI wd))] → W p l e (headSpec (w1 yX0_fewestSeeing cX0_fewestSeeing 5 (some .int)) ({ frames := 1, cells := 0, slots := 0, locals := 23 })).room s m [.ref (ga G (5 * h + 4)), .int (nI wd)].toArray below meth c s.heap [] 0 0 (MQ below (vp_Si (fun r => r = oI (cvN (fun i => orN (posN (S i)) 31) n wd (2 ^ n)))) [.ref (ga G (5 * h + 4)), .int (nI wd)].toArray s 0 0 (fun _ => False)) (F0 m 4 ls []) := by
    intro N9
    induction N9 with
    | zero => intro g be go hN; exact absurd hN (Nat.not_lt_zero _)
    | succ N9 ih =>
      intro g be go hN e_be e_go hi0_4 ls hl
      subst e_be
      subst e_go
      have ih_4 := ih
      refine lv_iload_n hx hb dX0_fewestSeeing_4 rfl (lv_at hl 1 rfl) ?_
      refine lv_iconst (v := 1) hx hb dX0_fewestSeeing_5 (by decide) ?_
      refine lv_aload_n hx hb dX0_fewestSeeing_6 rfl (lv_at hl 2 rfl) ?_
      refine rd_X0_31 hx hb hown hW hh dX0_fewestSeeing_7 ?_
      refine lv_eqi (y := nI n) hg.1.1 ?_
      refine lv_ishl hx hb dX0_fewestSeeing_10 ?_
      refine lv_eqi (y := nI (2 ^ n)) (bitI n (by omega)) ?_
      refine lv_icmp_ge (tgt := 62) hx hb dX0_fewestSeeing_11 (by decide) (fun c_11 => ?_) (fun c_11 => ?_)
      · skip
        have q_11 := tN_le (2 ^ n) g c_11 rfl rfl (by omega) (by omega)
        refine lv_iload_n hx hb dX0_fewestSeeing_62 rfl (lv_at hl 0 rfl) ?_
        exact W.iret (v := oI (cvN (fun i => orN (posN (S i)) 31) n wd g)) hx hb hr (fun t9 ht9 hW9 => ⟨_, rfl, (by have h9 : g = 2 ^ n := (by omega); rw [h9]), ht9⟩) (fun q h => by cases h) dX0_fewestSeeing_63
      · skip
        have q_11 := tN_nle (2 ^ n) g c_11 rfl rfl (by omega) (by omega)
        rcases ho : cvN (fun i => orN (posN (S i)) 31) n wd g with _ | b
        · skip
          rw [ho] at hl
          have hl : lv_has ls 5 [(2, .int ((-1))), (3, .int (nI g)), (0, .ref (ga G (5 * h + 4))), (1, .int (nI wd))] := hl
          refine lv_iload_n hx hb dX0_fewestSeeing_14 rfl (lv_at hl 0 rfl) ?_
          refine lv_iconst (v := (-1)) hx hb dX0_fewestSeeing_15 (by decide) ?_
          refine lv_icmp_eq (tgt := 30) hx hb dX0_fewestSeeing_16 (by decide) (fun c_16 => ?_) (fun c_16 => ?_)
          · skip
            refine lv_iconst (v := 1) hx hb dX0_fewestSeeing_30 (by decide) ?_
            refine lv_goto (tgt := 35) hx hb dX0_fewestSeeing_31 (by decide) ?_
            refine lv_istore (lv' := [(4, .int 1), (2, .int ((-1))), (3, .int (nI g)), (0, .ref (ga G (5 * h + 4))), (1, .int (nI wd))]) hx hb dX0_fewestSeeing_35 hl (by decide) rfl (fun ls hl => ?_)
            refine lv_iload hx hb dX0_fewestSeeing_37 (lv_at hl 0 rfl) ?_
            refine lv_if_eq (tgt := 56) hx hb dX0_fewestSeeing_39 (by decide) (fun c_39 => ?_) (fun c_39 => ?_)
            · skip
              exact absurd c_39 (by decide)
            · skip
              refine lv_iload_n hx hb dX0_fewestSeeing_42 rfl (lv_at hl 4 rfl) ?_
              refine lv_aload_n hx hb dX0_fewestSeeing_43 rfl (lv_at hl 3 rfl) ?_
              refine lv_iload_n hx hb dX0_fewestSeeing_44 rfl (lv_at hl 2 rfl) ?_
              refine cr_i (q := 433) [.int (nI g)] hx hb hml hown hG v_X0_placesSeenBy (by decide +kernel) (c_X0_placesSeenBy l G σ h hh n S q V ch hg g (by omega)) (preH hW hh _) rfl hl.1 (Nat.le_of_ble_eq_true rfl) dX0_fewestSeeing_45 ⟨rfl, rfl, Nat.le_of_ble_eq_true rfl, Nat.le_of_ble_eq_true rfl⟩ ⟨Nat.le_of_ble_eq_true rfl, Nat.le_of_ble_eq_true rfl⟩ ?_
              refine lv_iconst (v := (-1)) hx hb dX0_fewestSeeing_48 (by decide) ?_
              refine lv_ixor hx hb dX0_fewestSeeing_49 ?_
              refine lv_iand hx hb dX0_fewestSeeing_50 ?_
              refine lv_if_ne (tgt := 56) hx hb dX0_fewestSeeing_51 (by decide) (fun c_51 => ?_) (fun c_51 => ?_)
              · skip
                have k_51 : ¬ wd &&& grN (fun i => orN (posN (S i)) 31) g n = wd := fun z => c_51 ((nI_xm _ _ (by omega)).mpr z)
                refine lv_iinc (v := nI (g + 1)) (lv' := [(3, .int (nI (g + 1))), (4, .int 1), (2, .int ((-1))), (0, .ref (ga G (5 * h + 4))), (1, .int (nI wd))]) hx hb dX0_fewestSeeing_56 hl (k := 2) rfl (inc1 g) (by decide) rfl (fun ls hl => ?_)
                refine lv_goto (tgt := 4) hx hb dX0_fewestSeeing_59 (by decide) ?_
                exact ih_4 (g + 1) _ _ (by omega) (cv_n4 ho k_51) rfl (by omega) ls (lv_sub hl [2, 0, 3, 4] rfl)
              · skip
                have k_51 := (nI_xm wd (grN (fun i => orN (posN (S i)) 31) g n) (by omega)).mp c_51
                refine lv_iload_n hx hb dX0_fewestSeeing_54 rfl (lv_at hl 2 rfl) ?_
                refine lv_istore_n (lv' := [(2, .int (nI g)), (4, .int 1), (3, .int (nI g)), (0, .ref (ga G (5 * h + 4))), (1, .int (nI wd))]) hx hb dX0_fewestSeeing_55 rfl hl (by decide) rfl (fun ls hl => ?_)
                refine lv_iinc (v := nI (g + 1)) (lv' := [(3, .int (nI (g + 1))), (2, .int (nI g)), (4, .int 1), (0, .ref (ga G (5 * h + 4))), (1, .int (nI wd))]) hx hb dX0_fewestSeeing_56 hl (k := 2) rfl (inc1 g) (by decide) rfl (fun ls hl => ?_)
                refine lv_goto (tgt := 4) hx hb dX0_fewestSeeing_59 (by decide) ?_
                exact ih_4 (g + 1) _ _ (by omega) (cv_y0 ho k_51) rfl (by omega) ls (lv_sub hl [1, 0, 3, 4] rfl)
          · skip
            exact absurd (by decide) c_16
        · skip
          rw [ho] at hl
          have hbg := cvN_lt ho
          have hpb := popN_le b
          have hpg := popN_le g
          have hl : lv_has ls 5 [(2, .int (nI b)), (3, .int (nI g)), (0, .ref (ga G (5 * h + 4))), (1, .int (nI wd))] := hl
          refine lv_iload_n hx hb dX0_fewestSeeing_14 rfl (lv_at hl 0 rfl) ?_
          refine lv_iconst (v := (-1)) hx hb dX0_fewestSeeing_15 (by decide) ?_
          refine lv_icmp_eq (tgt := 30) hx hb dX0_fewestSeeing_16 (by decide) (fun c_16 => ?_) (fun c_16 => ?_)
          · skip
            exact absurd c_16 (nI_nm1 (by omega))
          · skip
            refine lv_iload_n hx hb dX0_fewestSeeing_19 rfl (lv_at hl 1 rfl) ?_
            refine cs_i (q := 432) [.int (nI g)] hx hb hml hown hG v_J6_bitCount_0f7a4 (by decide +kernel) (c_J6_bitCount l g (by omega)) (preG hG _) rfl hl.1 (Nat.le_of_ble_eq_true rfl) dX0_fewestSeeing_20 ⟨rfl, rfl, Nat.le_of_ble_eq_true rfl, Nat.le_of_ble_eq_true rfl⟩ ⟨Nat.le_of_ble_eq_true rfl, Nat.le_of_ble_eq_true rfl⟩ ?_
            refine lv_iload_n hx hb dX0_fewestSeeing_23 rfl (lv_at hl 0 rfl) ?_
            refine cs_i (q := 432) [.int (nI b)] hx hb hml hown hG v_J6_bitCount_0f7a4 (by decide +kernel) (c_J6_bitCount l b (by omega)) (preG hG _) rfl hl.1 (Nat.le_of_ble_eq_true rfl) dX0_fewestSeeing_24 ⟨rfl, rfl, Nat.le_of_ble_eq_true rfl, Nat.le_of_ble_eq_true rfl⟩ ⟨Nat.le_of_ble_eq_true rfl, Nat.le_of_ble_eq_true rfl⟩ ?_
            refine lv_icmp_ge (tgt := 34) hx hb dX0_fewestSeeing_27 (by decide) (fun c_27 => ?_) (fun c_27 => ?_)
            · skip
              have q_27 := tN_le (popN b) (popN g) c_27 rfl rfl (by omega) (by omega)
              refine lv_iconst (v := 0) hx hb dX0_fewestSeeing_34 (by decide) ?_
              refine lv_istore (lv' := [(4, .int 0), (2, .int (nI b)), (3, .int (nI g)), (0, .ref (ga G (5 * h + 4))), (1, .int (nI wd))]) hx hb dX0_fewestSeeing_35 hl (by decide) rfl (fun ls hl => ?_)
              refine lv_iload hx hb dX0_fewestSeeing_37 (lv_at hl 0 rfl) ?_
              refine lv_if_eq (tgt := 56) hx hb dX0_fewestSeeing_39 (by decide) (fun c_39 => ?_) (fun c_39 => ?_)
              · skip
                refine lv_iinc (v := nI (g + 1)) (lv' := [(3, .int (nI (g + 1))), (4, .int 0), (2, .int (nI b)), (0, .ref (ga G (5 * h + 4))), (1, .int (nI wd))]) hx hb dX0_fewestSeeing_56 hl (k := 2) rfl (inc1 g) (by decide) rfl (fun ls hl => ?_)
                refine lv_goto (tgt := 4) hx hb dX0_fewestSeeing_59 (by decide) ?_
                exact ih_4 (g + 1) _ _ (by omega) (cv_n3 ho q_27) rfl (by omega) ls (lv_sub hl [2, 0, 3, 4] rfl)
              · skip
                exact absurd (by decide) c_39
            · skip
              have q_27 := tN_nle (popN b) (popN g) c_27 rfl rfl (by omega) (by omega)
              refine lv_iconst (v := 1) hx hb dX0_fewestSeeing_30 (by decide) ?_
              refine lv_goto (tgt := 35) hx hb dX0_fewestSeeing_31 (by decide) ?_
              refine lv_istore (lv' := [(4, .int 1), (2, .int (nI b)), (3, .int (nI g)), (0, .ref (ga G (5 * h + 4))), (1, .int (nI wd))]) hx hb dX0_fewestSeeing_35 hl (by decide) rfl (fun ls hl => ?_)
              refine lv_iload hx hb dX0_fewestSeeing_37 (lv_at hl 0 rfl) ?_
              refine lv_if_eq (tgt := 56) hx hb dX0_fewestSeeing_39 (by decide) (fun c_39 => ?_) (fun c_39 => ?_)
              · skip
                exact absurd c_39 (by decide)
              · skip
                refine lv_iload_n hx hb dX0_fewestSeeing_42 rfl (lv_at hl 4 rfl) ?_
                refine lv_aload_n hx hb dX0_fewestSeeing_43 rfl (lv_at hl 3 rfl) ?_
                refine lv_iload_n hx hb dX0_fewestSeeing_44 rfl (lv_at hl 2 rfl) ?_
                refine cr_i (q := 433) [.int (nI g)] hx hb hml hown hG v_X0_placesSeenBy (by decide +kernel) (c_X0_placesSeenBy l G σ h hh n S q V ch hg g (by omega)) (preH hW hh _) rfl hl.1 (Nat.le_of_ble_eq_true rfl) dX0_fewestSeeing_45 ⟨rfl, rfl, Nat.le_of_ble_eq_true rfl, Nat.le_of_ble_eq_true rfl⟩ ⟨Nat.le_of_ble_eq_true rfl, Nat.le_of_ble_eq_true rfl⟩ ?_
                refine lv_iconst (v := (-1)) hx hb dX0_fewestSeeing_48 (by decide) ?_
                refine lv_ixor hx hb dX0_fewestSeeing_49 ?_
                refine lv_iand hx hb dX0_fewestSeeing_50 ?_
                refine lv_if_ne (tgt := 56) hx hb dX0_fewestSeeing_51 (by decide) (fun c_51 => ?_) (fun c_51 => ?_)
                · skip
                  have k_51 : ¬ wd &&& grN (fun i => orN (posN (S i)) 31) g n = wd := fun z => c_51 ((nI_xm _ _ (by omega)).mpr z)
                  refine lv_iinc (v := nI (g + 1)) (lv' := [(3, .int (nI (g + 1))), (4, .int 1), (2, .int (nI b)), (0, .ref (ga G (5 * h + 4))), (1, .int (nI wd))]) hx hb dX0_fewestSeeing_56 hl (k := 2) rfl (inc1 g) (by decide) rfl (fun ls hl => ?_)
                  refine lv_goto (tgt := 4) hx hb dX0_fewestSeeing_59 (by decide) ?_
                  exact ih_4 (g + 1) _ _ (by omega) (cv_n5 ho k_51) rfl (by omega) ls (lv_sub hl [2, 0, 3, 4] rfl)
                · skip
                  have k_51 := (nI_xm wd (grN (fun i => orN (posN (S i)) 31) g n) (by omega)).mp c_51
                  refine lv_iload_n hx hb dX0_fewestSeeing_54 rfl (lv_at hl 2 rfl) ?_
                  refine lv_istore_n (lv' := [(2, .int (nI g)), (4, .int 1), (3, .int (nI g)), (0, .ref (ga G (5 * h + 4))), (1, .int (nI wd))]) hx hb dX0_fewestSeeing_55 rfl hl (by decide) rfl (fun ls hl => ?_)
                  refine lv_iinc (v := nI (g + 1)) (lv' := [(3, .int (nI (g + 1))), (2, .int (nI g)), (4, .int 1), (0, .ref (ga G (5 * h + 4))), (1, .int (nI wd))]) hx hb dX0_fewestSeeing_56 hl (k := 2) rfl (inc1 g) (by decide) rfl (fun ls hl => ?_)
                  refine lv_goto (tgt := 4) hx hb dX0_fewestSeeing_59 (by decide) ?_
                  exact ih_4 (g + 1) _ _ (by omega) (cv_y1 ho q_27 k_51) rfl (by omega) ls (lv_sub hl [1, 0, 3, 4] rfl)
  exact loop_4 _ 0 _ _ (Nat.lt_succ_self _) rfl rfl (Nat.zero_le _) ls (lv_sub hl [1, 0, 2, 3] rfl)
set_option maxHeartbeats 4000000 in
set_option maxRecDepth 100000 in
theorem c_X0_firstCatch (l : Launch) (G : Gam) (σ : St) (h : Nat) (hh : h < 2) (n : Nat) (S : Nat → Sk) (q : Nat) (V : Nat → Nat) (ch : Int32) (hg : GH σ h n S q V ch) (P k : Nat) (hP : P < 16) (hk : k < n) : Met l yX0_firstCatch (w1 yX0_firstCatch cX0_firstCatch 4 (some .int)) ({ frames := 2, cells := 0, slots := 0, locals := 45 }) (PcX G σ [.ref (ga G (5 * h + 4)), .int (nI P), .int (nI k)]) (vp_Si (fun r => r = nI (catN (atN (S k)) P))) 0 0 (fun _ => False) := by
  refine met_of [.ref (ga G (5 * h + 4)), .int (nI P), .int (nI k)] [(0, .ref (ga G (5 * h + 4))), (1, .int (nI P)), (2, .int (nI k))] (by decide) (Nat.le_of_ble_eq_true rfl) rfl ?_
  intro p e s m below meth c hx hb hr hown hml hlocks hW ls hl
  have hG : GW s := hW.2.2.2.1
  have hn6 := hg.1.2
  have hq8 := hg.2.2.1.2
  refine lv_iconst (v := 0) hx hb dX0_firstCatch_0 (by decide) ?_
  refine lv_istore_n (lv' := [(3, .int 0), (0, .ref (ga G (5 * h + 4))), (1, .int (nI P)), (2, .int (nI k))]) hx hb dX0_firstCatch_1 rfl hl (by decide) rfl (fun ls hl => ?_)
  have loop_2 : ∀ (N9 : Nat) (t : Nat) (to : Int32), 31 - t < N9 → to = nI t → t ≤ 6 → catF (atN (S k)) P (6 - t) t = catN (atN (S k)) P → ∀ ls : Array Slot, lv_has ls 4 [(3, .int to), (0, .ref (ga G (5 * h + 4))), (1, .int (nI P)), (2, .int (nI k))] → W p l e (headSpec (w1 yX0_firstCatch cX0_firstCatch 4 (some .int)) ({ frames := 2, cells := 0, slots := 0, locals := 45 })).room s m [.ref (ga G (5 * h + 4)), .int (nI P), .int (nI k)].toArray below meth c s.heap [] 0 0 (MQ below (vp_Si (fun r => r = nI (catN (atN (S k)) P))) [.ref (ga G (5 * h + 4)), .int (nI P), .int (nI k)].toArray s 0 0 (fun _ => False)) (F0 m 2 ls []) := by
    intro N9
    induction N9 with
    | zero => intro t to hN; exact absurd hN (Nat.not_lt_zero _)
    | succ N9 ih =>
      intro t to hN e_to hi0_2 hi1_2 ls hl
      subst e_to
      have ih_2 := ih
      have hpl := posN_lt (hg.2.2.2.1 k hk).1 (t - S k 2)
      have hf6 := far6 P hP _ hpl
      refine lv_iload_n hx hb dX0_firstCatch_2 rfl (lv_at hl 0 rfl) ?_
      refine lv_bipush (v := 30) hx hb dX0_firstCatch_3 (by decide) ?_
      refine lv_icmp_gt (tgt := 30) hx hb dX0_firstCatch_5 (by decide) (fun c_5 => ?_) (fun c_5 => ?_)
      · skip
        exact absurd (tN_lt 30 t c_5 rfl rfl (by omega) (by omega)) (by omega)
      · skip
        have q_5 := tN_nlt 30 t c_5 rfl rfl (by omega) (by omega)
        refine lv_iload_n hx hb dX0_firstCatch_8 rfl (lv_at hl 2 rfl) ?_
        refine lv_aload_n hx hb dX0_firstCatch_9 rfl (lv_at hl 1 rfl) ?_
        refine lv_iload_n hx hb dX0_firstCatch_10 rfl (lv_at hl 3 rfl) ?_
        refine lv_iload_n hx hb dX0_firstCatch_11 rfl (lv_at hl 0 rfl) ?_
        refine cr_i (q := 446) [.int (nI k), .int (nI t)] hx hb hml hown hG v_X0_placeAt (by decide +kernel) (c_X0_placeAt l G σ h hh n S q V ch hg k t hk (by omega)) (preH hW hh _) rfl hl.1 (Nat.le_of_ble_eq_true rfl) dX0_firstCatch_12 ⟨rfl, rfl, Nat.le_of_ble_eq_true rfl, Nat.le_of_ble_eq_true rfl⟩ ⟨Nat.le_of_ble_eq_true rfl, Nat.le_of_ble_eq_true rfl⟩ ?_
        refine cn_i [.int (nI P), .int (nI (posN (S k) (t - S k 2)))] hx hb hml hown hG v_X3_stepsBetween (hW.2.2.2.2.use 15 rfl) (c_X3_stepsBetween l P (posN (S k) (t - S k 2)) hP hpl) (preG hG _) rfl hl.1 (Nat.le_of_ble_eq_true rfl) dX0_firstCatch_15 ⟨rfl, rfl, Nat.le_of_ble_eq_true rfl, Nat.le_of_ble_eq_true rfl⟩ ⟨Nat.le_of_ble_eq_true rfl, Nat.le_of_ble_eq_true rfl⟩ ?_
        refine lv_iload_n hx hb dX0_firstCatch_18 rfl (lv_at hl 0 rfl) ?_
        refine lv_icmp_gt (tgt := 24) hx hb dX0_firstCatch_19 (by decide) (fun c_19 => ?_) (fun c_19 => ?_)
        · skip
          have q_19 := tN_lt t (farN P (posN (S k) (t - S k 2))) c_19 rfl rfl (by omega) (by omega)
          refine lv_iinc (v := nI (t + 1)) (lv' := [(3, .int (nI (t + 1))), (0, .ref (ga G (5 * h + 4))), (1, .int (nI P)), (2, .int (nI k))]) hx hb dX0_firstCatch_24 hl (k := 0) rfl (inc1 t) (by decide) rfl (fun ls hl => ?_)
          refine lv_goto (tgt := 2) hx hb dX0_firstCatch_27 (by decide) ?_
          exact ih_2 (t + 1) _ (by omega) rfl (cat_go hi1_2 hi0_2 hf6 q_19).1 (cat_go hi1_2 hi0_2 hf6 q_19).2 ls (lv_sub hl [0, 1, 2, 3] rfl)
        · skip
          have q_19 := tN_nlt t (farN P (posN (S k) (t - S k 2))) c_19 rfl rfl (by omega) (by omega)
          refine lv_iload_n hx hb dX0_firstCatch_22 rfl (lv_at hl 0 rfl) ?_
          exact W.iret (v := nI t) hx hb hr (fun t9 ht9 hW9 => ⟨_, rfl, (congrArg nI (cat_ret hi1_2 hi0_2 q_19).symm), ht9⟩) (fun q h => by cases h) dX0_firstCatch_23
  exact loop_2 _ 0 _ (Nat.lt_succ_self _) rfl (by omega) rfl ls (lv_sub hl [0, 1, 2, 3] rfl)
set_option maxHeartbeats 4000000 in
set_option maxRecDepth 100000 in
theorem c_X0_noteSeen (l : Launch) (G : Gam) (σ : St) (h : Nat) (hh : h < 2) (n : Nat) (S : Nat → Sk) (q : Nat) (V : Nat → Nat) (ch : Int32) (hg : GH σ h n S q V ch) (x y : Nat) : Met l yX0_noteSeen (w1 yX0_noteSeen cX0_noteSeen 3 (some .boolean)) ({ frames := 0, cells := 0, slots := 0, locals := 0 }) (PcX G σ [.ref (ga G (5 * h + 4)), .int (nI x), .int (nI y)]) (QiX G (fun r σ9 => (q < 8 → r = 1 ∧ σ9 = up2 (up2 (up2 σ (5 * h + 7) q (nI x)) (5 * h + 8) q (nI y)) (5 * h + 4) 6 (nI (q + 1))) ∧ (¬ q < 8 → r = 0 ∧ σ9 = σ))) 0 0 (aX G) := by
  refine met_of [.ref (ga G (5 * h + 4)), .int (nI x), .int (nI y)] [(0, .ref (ga G (5 * h + 4))), (1, .int (nI x)), (2, .int (nI y))] (by decide) (Nat.le_of_ble_eq_true rfl) rfl ?_
  intro p e s m below meth c hx hb hr hown hml hlocks hW ls hl
  have hG : GW s := hW.2.2.2.1
  have hS : va_S (aX G) s.heap s.heap [] := va_S.rf
  have hn6 := hg.1.2
  have hq8 := hg.2.2.1.2
  refine lv_aload_n hx hb dX0_noteSeen_0 rfl (lv_at hl 0 rfl) ?_
  refine rd_X0_38 hx hb hown hW hh dX0_noteSeen_1 ?_
  refine lv_eqi (y := nI q) hg.2.2.1.1 ?_
  refine lv_bipush (v := 8) hx hb dX0_noteSeen_4 (by decide) ?_
  refine lv_icmp_lt (tgt := 11) hx hb dX0_noteSeen_6 (by decide) (fun c_6 => ?_) (fun c_6 => ?_)
  · skip
    have q_6 := tN_lt q 8 c_6 rfl rfl (by omega) (by omega)
    refine lv_aload_n hx hb dX0_noteSeen_11 rfl (lv_at hl 0 rfl) ?_
    refine rd_X0_22 hx hb hown hW hh dX0_noteSeen_12 ?_
    refine lv_aload_n hx hb dX0_noteSeen_15 rfl (lv_at hl 0 rfl) ?_
    refine rd_X0_38 hx hb hown hW hh dX0_noteSeen_16 ?_
    refine lv_eqi (y := nI q) hg.2.2.1.1 ?_
    refine lv_iload_n hx hb dX0_noteSeen_19 rfl (lv_at hl 1 rfl) ?_
    refine as_seenP (k := q) hx hb hW hS hh rfl (by omega) dX0_noteSeen_20 (fun H locs hW hS => ?_)
    obtain ⟨σ1, hσ1⟩ : ∃ z, z = up2 σ (5 * h + 7) q (nI x) := ⟨_, rfl⟩
    rw [← hσ1] at hW
    refine lv_aload_n hx hb dX0_noteSeen_21 rfl (lv_at hl 0 rfl) ?_
    refine rd_X0_25 hx hb hown hW hh dX0_noteSeen_22 ?_
    refine lv_aload_n hx hb dX0_noteSeen_25 rfl (lv_at hl 0 rfl) ?_
    refine rd_X0_38 hx hb hown hW hh dX0_noteSeen_26 ?_
    refine lv_eqi (y := nI q) (by subst hσ1; rw [up2_nr (by omega)]; exact hg.2.2.1.1) ?_
    refine lv_iload_n hx hb dX0_noteSeen_29 rfl (lv_at hl 2 rfl) ?_
    refine as_seenH (k := q) hx hb hW hS hh rfl (by omega) dX0_noteSeen_30 (fun H locs hW hS => ?_)
    obtain ⟨σ2, hσ2⟩ : ∃ z, z = up2 σ1 (5 * h + 8) q (nI y) := ⟨_, rfl⟩
    rw [← hσ2] at hW
    refine lv_aload_n hx hb dX0_noteSeen_31 rfl (lv_at hl 0 rfl) ?_
    refine lv_dup hx hb dX0_noteSeen_32 rfl ?_
    refine rd_X0_38 hx hb hown hW hh dX0_noteSeen_33 ?_
    refine lv_eqi (y := nI q) (by subst hσ2; subst hσ1; rw [up2_nr (by omega), up2_nr (by omega)]; exact hg.2.2.1.1) ?_
    refine lv_iconst (v := 1) hx hb dX0_noteSeen_36 (by decide) ?_
    refine ln_add q 1 hx hb rfl rfl dX0_noteSeen_37 ?_
    refine wr_X0_38 hx hb hown hW hS hh dX0_noteSeen_38 (fun H locs hW hS => ?_)
    obtain ⟨σ3, hσ3⟩ : ∃ z, z = up2 σ2 (5 * h + 4) 6 (nI (q + 1)) := ⟨_, rfl⟩
    rw [← hσ3] at hW
    refine lv_iconst (v := 1) hx hb dX0_noteSeen_41 (by decide) ?_
    exact W.zret (v := 1) (ty := .boolean) hx hb hr rfl (fun t9 ht9 hW9 => ⟨⟨_, σ3, rfl, ⟨fun _ => ⟨rfl, by subst hσ3; subst hσ2; subst hσ1; rfl⟩, fun z => absurd q_6 z⟩, (by have h8 := hW.1; rw [← ht9] at h8; exact h8)⟩, hS.F ht9⟩) hS.2.2 dX0_noteSeen_42
  · skip
    have q_6 := tN_nlt q 8 c_6 rfl rfl (by omega) (by omega)
    refine lv_iconst (v := 0) hx hb dX0_noteSeen_9 (by decide) ?_
    exact W.zret (v := 0) (ty := .boolean) hx hb hr rfl (fun t9 ht9 hW9 => ⟨⟨_, σ, rfl, ⟨fun z => absurd z (by omega), fun _ => ⟨rfl, rfl⟩⟩, (by have h8 := hW.1; rw [← ht9] at h8; exact h8)⟩, hS.F ht9⟩) hS.2.2 dX0_noteSeen_10
set_option maxHeartbeats 4000000 in
set_option maxRecDepth 100000 in
theorem c_X0_wasWhereSeen (l : Launch) (G : Gam) (σ : St) (h : Nat) (hh : h < 2) (n : Nat) (S : Nat → Sk) (q : Nat) (V : Nat → Nat) (ch : Int32) (hg : GH σ h n S q V ch) (k : Nat) (hk : k < n) : Met l yX0_wasWhereSeen (w1 yX0_wasWhereSeen cX0_wasWhereSeen 3 (some .boolean)) ({ frames := 2, cells := 0, slots := 0, locals := 45 }) (PcX G σ [.ref (ga G (5 * h + 4)), .int (nI k)]) (vp_Si (fun r => r = bI (okN (atN (S k)) V q))) 0 0 (fun _ => False) := by
  refine met_of [.ref (ga G (5 * h + 4)), .int (nI k)] [(0, .ref (ga G (5 * h + 4))), (1, .int (nI k))] (by decide) (Nat.le_of_ble_eq_true rfl) rfl ?_
  intro p e s m below meth c hx hb hr hown hml hlocks hW ls hl
  have hG : GW s := hW.2.2.2.1
  have hn6 := hg.1.2
  have hq8 := hg.2.2.1.2
  refine lv_iconst (v := 0) hx hb dX0_wasWhereSeen_0 (by decide) ?_
  refine lv_istore_n (lv' := [(2, .int 0), (0, .ref (ga G (5 * h + 4))), (1, .int (nI k))]) hx hb dX0_wasWhereSeen_1 rfl hl (by decide) rfl (fun ls hl => ?_)
  have loop_2 : ∀ (N9 : Nat) (i : Nat) (io : Int32), q - i < N9 → io = nI i → i ≤ q → okN (atN (S k)) V i = true → ∀ ls : Array Slot, lv_has ls 3 [(2, .int io), (0, .ref (ga G (5 * h + 4))), (1, .int (nI k))] → W p l e (headSpec (w1 yX0_wasWhereSeen cX0_wasWhereSeen 3 (some .boolean)) ({ frames := 2, cells := 0, slots := 0, locals := 45 })).room s m [.ref (ga G (5 * h + 4)), .int (nI k)].toArray below meth c s.heap [] 0 0 (MQ below (vp_Si (fun r => r = bI (okN (atN (S k)) V q))) [.ref (ga G (5 * h + 4)), .int (nI k)].toArray s 0 0 (fun _ => False)) (F0 m 2 ls []) := by
    intro N9
    induction N9 with
    | zero => intro i io hN; exact absurd hN (Nat.not_lt_zero _)
    | succ N9 ih =>
      intro i io hN e_io hi0_2 hi1_2 ls hl
      subst e_io
      have ih_2 := ih
      refine lv_iload_n hx hb dX0_wasWhereSeen_2 rfl (lv_at hl 0 rfl) ?_
      refine lv_aload_n hx hb dX0_wasWhereSeen_3 rfl (lv_at hl 1 rfl) ?_
      refine rd_X0_38 hx hb hown hW hh dX0_wasWhereSeen_4 ?_
      refine lv_eqi (y := nI q) hg.2.2.1.1 ?_
      refine lv_icmp_ge (tgt := 38) hx hb dX0_wasWhereSeen_7 (by decide) (fun c_7 => ?_) (fun c_7 => ?_)
      · skip
        have q_7 := tN_le q i c_7 rfl rfl (by omega) (by omega)
        refine lv_iconst (v := 1) hx hb dX0_wasWhereSeen_38 (by decide) ?_
        exact W.zret (v := 1) (ty := .boolean) hx hb hr rfl (fun t9 ht9 hW9 => ⟨_, rfl, (by have h9 : i = q := (by omega); rw [← h9, hi1_2]; rfl), ht9⟩) (fun q h => by cases h) dX0_wasWhereSeen_39
      · skip
        have q_7 := tN_nle q i c_7 rfl rfl (by omega) (by omega)
        have hVi := hg.2.2.2.2 i (by omega)
        have hV1 := hVi.2.2.1
        have hV2 := hVi.2.2.2
        have hpl := posN_lt (hg.2.2.2.1 k hk).1 (V (2 * i + 1) - S k 2)
        refine lv_aload_n hx hb dX0_wasWhereSeen_10 rfl (lv_at hl 1 rfl) ?_
        refine lv_iload_n hx hb dX0_wasWhereSeen_11 rfl (lv_at hl 2 rfl) ?_
        refine lv_aload_n hx hb dX0_wasWhereSeen_12 rfl (lv_at hl 1 rfl) ?_
        refine rd_X0_25 hx hb hown hW hh dX0_wasWhereSeen_13 ?_
        refine lv_iload_n hx hb dX0_wasWhereSeen_16 rfl (lv_at hl 0 rfl) ?_
        refine al_seenH (k := i) hx hb hW hh rfl (by omega) dX0_wasWhereSeen_17 ?_
        refine lv_eqi (y := nI (V (2 * i + 1))) (hg.2.2.2.2 i (by omega)).2.1 ?_
        refine cr_i (q := 446) [.int (nI k), .int (nI (V (2 * i + 1)))] hx hb hml hown hG v_X0_placeAt (by decide +kernel) (c_X0_placeAt l G σ h hh n S q V ch hg k (V (2 * i + 1)) hk hV2) (preH hW hh _) rfl hl.1 (Nat.le_of_ble_eq_true rfl) dX0_wasWhereSeen_18 ⟨rfl, rfl, Nat.le_of_ble_eq_true rfl, Nat.le_of_ble_eq_true rfl⟩ ⟨Nat.le_of_ble_eq_true rfl, Nat.le_of_ble_eq_true rfl⟩ ?_
        refine lv_aload_n hx hb dX0_wasWhereSeen_21 rfl (lv_at hl 1 rfl) ?_
        refine rd_X0_22 hx hb hown hW hh dX0_wasWhereSeen_22 ?_
        refine lv_iload_n hx hb dX0_wasWhereSeen_25 rfl (lv_at hl 0 rfl) ?_
        refine al_seenP (k := i) hx hb hW hh rfl (by omega) dX0_wasWhereSeen_26 ?_
        refine lv_eqi (y := nI (V (2 * i))) (hg.2.2.2.2 i (by omega)).1 ?_
        refine lv_icmp_eq (tgt := 32) hx hb dX0_wasWhereSeen_27 (by decide) (fun c_27 => ?_) (fun c_27 => ?_)
        · skip
          have q_27 := tN_eq (posN (S k) (V (2 * i + 1) - S k 2)) (V (2 * i)) c_27 rfl rfl (by omega) (by omega)
          refine lv_iinc (v := nI (i + 1)) (lv' := [(2, .int (nI (i + 1))), (0, .ref (ga G (5 * h + 4))), (1, .int (nI k))]) hx hb dX0_wasWhereSeen_32 hl (k := 0) rfl (inc1 i) (by decide) rfl (fun ls hl => ?_)
          refine lv_goto (tgt := 2) hx hb dX0_wasWhereSeen_35 (by decide) ?_
          exact ih_2 (i + 1) _ (by omega) rfl (by omega) (okN_t hi1_2 q_27) ls (lv_sub hl [0, 1, 2] rfl)
        · skip
          have q_27 := tN_ne (posN (S k) (V (2 * i + 1) - S k 2)) (V (2 * i)) c_27 rfl rfl (by omega) (by omega)
          refine lv_iconst (v := 0) hx hb dX0_wasWhereSeen_30 (by decide) ?_
          exact W.zret (v := 0) (ty := .boolean) hx hb hr rfl (fun t9 ht9 hW9 => ⟨_, rfl, (by rw [okN_f (f := atN (S k)) (V := V) (i := i) q_27 (by omega)]; rfl), ht9⟩) (fun q h => by cases h) dX0_wasWhereSeen_31
  exact loop_2 _ 0 _ (Nat.lt_succ_self _) rfl (by omega) rfl ls (lv_sub hl [0, 1, 2] rfl)
set_option maxHeartbeats 4000000 in
set_option maxRecDepth 100000 in
theorem c_X0_possible (l : Launch) (G : Gam) (σ : St) (h : Nat) (hh : h < 2) (n : Nat) (S : Nat → Sk) (q : Nat) (V : Nat → Nat) (ch : Int32) (hg : GH σ h n S q V ch) : Met l yX0_possible (w1 yX0_possible cX0_possible 3 (some .int)) ({ frames := 3, cells := 0, slots := 0, locals := 67 }) (PcX G σ [.ref (ga G (5 * h + 4))]) (vp_Si (fun r => r = nI (whN (fun i => okN (atN (S i)) V q) n))) 0 0 (fun _ => False) := by
  refine met_of [.ref (ga G (5 * h + 4))] [(0, .ref (ga G (5 * h + 4)))] (by decide) (Nat.le_of_ble_eq_true rfl) rfl ?_
  intro p e s m below meth c hx hb hr hown hml hlocks hW ls hl
  have hG : GW s := hW.2.2.2.1
  have hn6 := hg.1.2
  have hq8 := hg.2.2.1.2
  refine lv_iconst (v := 0) hx hb dX0_possible_0 (by decide) ?_
  refine lv_istore_n (lv' := [(1, .int 0), (0, .ref (ga G (5 * h + 4)))]) hx hb dX0_possible_1 rfl hl (by decide) rfl (fun ls hl => ?_)
  refine lv_iconst (v := 0) hx hb dX0_possible_2 (by decide) ?_
  refine lv_istore_n (lv' := [(2, .int 0), (1, .int 0), (0, .ref (ga G (5 * h + 4)))]) hx hb dX0_possible_3 rfl hl (by decide) rfl (fun ls hl => ?_)
  have loop_4 : ∀ (N9 : Nat) (i : Nat) (bb : Int32) (io : Int32), n - i < N9 → bb = nI (whN (fun i => okN (atN (S i)) V q) i) → io = nI i → i ≤ n → ∀ ls : Array Slot, lv_has ls 3 [(1, .int bb), (2, .int io), (0, .ref (ga G (5 * h + 4)))] → W p l e (headSpec (w1 yX0_possible cX0_possible 3 (some .int)) ({ frames := 3, cells := 0, slots := 0, locals := 67 })).room s m [.ref (ga G (5 * h + 4))].toArray below meth c s.heap [] 0 0 (MQ below (vp_Si (fun r => r = nI (whN (fun i => okN (atN (S i)) V q) n))) [.ref (ga G (5 * h + 4))].toArray s 0 0 (fun _ => False)) (F0 m 4 ls []) := by
    intro N9
    induction N9 with
    | zero => intro i bb io hN; exact absurd hN (Nat.not_lt_zero _)
    | succ N9 ih =>
      intro i bb io hN e_bb e_io hi0_4 ls hl
      subst e_bb
      subst e_io
      have ih_4 := ih
      refine lv_iload_n hx hb dX0_possible_4 rfl (lv_at hl 1 rfl) ?_
      refine lv_aload_n hx hb dX0_possible_5 rfl (lv_at hl 2 rfl) ?_
      refine rd_X0_31 hx hb hown hW hh dX0_possible_6 ?_
      refine lv_eqi (y := nI n) hg.1.1 ?_
      refine lv_icmp_ge (tgt := 32) hx hb dX0_possible_9 (by decide) (fun c_9 => ?_) (fun c_9 => ?_)
      · skip
        have q_9 := tN_le n i c_9 rfl rfl (by omega) (by omega)
        refine lv_iload_n hx hb dX0_possible_32 rfl (lv_at hl 0 rfl) ?_
        exact W.iret (v := nI (whN (fun i => okN (atN (S i)) V q) i)) hx hb hr (fun t9 ht9 hW9 => ⟨_, rfl, (by have h9 : i = n := (by omega); subst h9; rfl), ht9⟩) (fun q h => by cases h) dX0_possible_33
      · skip
        have q_9 := tN_nle n i c_9 rfl rfl (by omega) (by omega)
        refine lv_aload_n hx hb dX0_possible_12 rfl (lv_at hl 2 rfl) ?_
        refine lv_iload_n hx hb dX0_possible_13 rfl (lv_at hl 1 rfl) ?_
        refine cr_i (q := 473) [.int (nI i)] hx hb hml hown hG v_X0_wasWhereSeen (by decide +kernel) (c_X0_wasWhereSeen l G σ h hh n S q V ch hg i (by omega)) (preH hW hh _) rfl hl.1 (Nat.le_of_ble_eq_true rfl) dX0_possible_14 ⟨rfl, rfl, Nat.le_of_ble_eq_true rfl, Nat.le_of_ble_eq_true rfl⟩ ⟨Nat.le_of_ble_eq_true rfl, Nat.le_of_ble_eq_true rfl⟩ ?_
        refine lv_if_eq (tgt := 26) hx hb dX0_possible_17 (by decide) (fun c_17 => ?_) (fun c_17 => ?_)
        · skip
          have b_17 := bI_0 c_17
          refine lv_iinc (v := nI (i + 1)) (lv' := [(2, .int (nI (i + 1))), (1, .int (nI (whN (fun i => okN (atN (S i)) V q) i))), (0, .ref (ga G (5 * h + 4)))]) hx hb dX0_possible_26 hl (k := 1) rfl (inc1 i) (by decide) rfl (fun ls hl => ?_)
          refine lv_goto (tgt := 4) hx hb dX0_possible_29 (by decide) ?_
          exact ih_4 (i + 1) _ _ (by omega) (by first | exact congrArg nI (wh_y b_17) | exact congrArg nI (wh_n b_17)) rfl (by omega) ls (lv_sub hl [1, 0, 2] rfl)
        · skip
          have b_17 := bI_1 c_17
          refine lv_iload_n hx hb dX0_possible_20 rfl (lv_at hl 0 rfl) ?_
          refine lv_iconst (v := 1) hx hb dX0_possible_21 (by decide) ?_
          refine lv_iload_n hx hb dX0_possible_22 rfl (lv_at hl 1 rfl) ?_
          refine lv_ishl hx hb dX0_possible_23 ?_
          refine lv_eqi (y := nI (2 ^ i)) (bitI i (by omega)) ?_
          refine lv_ior hx hb dX0_possible_24 ?_
          refine lv_eqi (y := nI ((whN (fun i => okN (atN (S i)) V q) i) ||| (2 ^ i))) (nI_or (whN (fun i => okN (atN (S i)) V q) i) (2 ^ i)) ?_
          refine lv_istore_n (lv' := [(1, .int (nI ((whN (fun i => okN (atN (S i)) V q) i) ||| (2 ^ i)))), (2, .int (nI i)), (0, .ref (ga G (5 * h + 4)))]) hx hb dX0_possible_25 rfl hl (by decide) rfl (fun ls hl => ?_)
          refine lv_iinc (v := nI (i + 1)) (lv' := [(2, .int (nI (i + 1))), (1, .int (nI ((whN (fun i => okN (atN (S i)) V q) i) ||| (2 ^ i)))), (0, .ref (ga G (5 * h + 4)))]) hx hb dX0_possible_26 hl (k := 1) rfl (inc1 i) (by decide) rfl (fun ls hl => ?_)
          refine lv_goto (tgt := 4) hx hb dX0_possible_29 (by decide) ?_
          exact ih_4 (i + 1) _ _ (by omega) (by first | exact congrArg nI (wh_y b_17) | exact congrArg nI (wh_n b_17)) rfl (by omega) ls (lv_sub hl [1, 0, 2] rfl)
  exact loop_4 _ 0 _ _ (Nat.lt_succ_self _) rfl rfl (by omega) ls (lv_sub hl [1, 0, 2] rfl)
set_option maxHeartbeats 4000000 in
set_option maxRecDepth 100000 in
theorem c_X0_togetherWith (l : Launch) (G : Gam) (σ : St) (h : Nat) (hh : h < 2) (n : Nat) (S : Nat → Sk) (q : Nat) (V : Nat → Nat) (ch : Int32) (hg : GH σ h n S q V ch) (k C t : Nat) (hk : k < n) (h6 : C < 64) (ht : t ≤ 30) : Met l yX0_togetherWith (w1 yX0_togetherWith cX0_togetherWith 7 (some .int)) ({ frames := 2, cells := 0, slots := 0, locals := 45 }) (PcX G σ [.ref (ga G (5 * h + 4)), .int (nI k), .int (nI C), .int (nI t)]) (vp_Si (fun r => r = nI (tgN C (fun i => atN (S i) t) k n))) 0 0 (fun _ => False) := by
  refine met_of [.ref (ga G (5 * h + 4)), .int (nI k), .int (nI C), .int (nI t)] [(0, .ref (ga G (5 * h + 4))), (1, .int (nI k)), (2, .int (nI C)), (3, .int (nI t))] (by decide) (Nat.le_of_ble_eq_true rfl) rfl ?_
  intro p e s m below meth c hx hb hr hown hml hlocks hW ls hl
  have hG : GW s := hW.2.2.2.1
  have hn6 := hg.1.2
  have hq8 := hg.2.2.1.2
  refine lv_iconst (v := 0) hx hb dX0_togetherWith_0 (by decide) ?_
  refine lv_istore (lv' := [(4, .int 0), (0, .ref (ga G (5 * h + 4))), (1, .int (nI k)), (2, .int (nI C)), (3, .int (nI t))]) hx hb dX0_togetherWith_1 hl (by decide) rfl (fun ls hl => ?_)
  refine lv_iconst (v := 0) hx hb dX0_togetherWith_3 (by decide) ?_
  refine lv_istore (lv' := [(5, .int 0), (4, .int 0), (0, .ref (ga G (5 * h + 4))), (1, .int (nI k)), (2, .int (nI C)), (3, .int (nI t))]) hx hb dX0_togetherWith_4 hl (by decide) rfl (fun ls hl => ?_)
  have loop_6 : ∀ (N9 : Nat) (i : Nat) (tt : Int32) (io : Int32), n - i < N9 → tt = nI (tgN C (fun i => atN (S i) t) k i) → io = nI i → i ≤ n → ∀ ls : Array Slot, lv_has ls 7 [(4, .int tt), (5, .int io), (0, .ref (ga G (5 * h + 4))), (1, .int (nI k)), (2, .int (nI C)), (3, .int (nI t))] → W p l e (headSpec (w1 yX0_togetherWith cX0_togetherWith 7 (some .int)) ({ frames := 2, cells := 0, slots := 0, locals := 45 })).room s m [.ref (ga G (5 * h + 4)), .int (nI k), .int (nI C), .int (nI t)].toArray below meth c s.heap [] 0 0 (MQ below (vp_Si (fun r => r = nI (tgN C (fun i => atN (S i) t) k n))) [.ref (ga G (5 * h + 4)), .int (nI k), .int (nI C), .int (nI t)].toArray s 0 0 (fun _ => False)) (F0 m 6 ls []) := by
    intro N9
    induction N9 with
    | zero => intro i tt io hN; exact absurd hN (Nat.not_lt_zero _)
    | succ N9 ih =>
      intro i tt io hN e_tt e_io hi0_6 ls hl
      subst e_tt
      subst e_io
      have ih_6 := ih
      refine lv_iload hx hb dX0_togetherWith_6 (lv_at hl 1 rfl) ?_
      refine lv_aload_n hx hb dX0_togetherWith_8 rfl (lv_at hl 2 rfl) ?_
      refine rd_X0_31 hx hb hown hW hh dX0_togetherWith_9 ?_
      refine lv_eqi (y := nI n) hg.1.1 ?_
      refine lv_icmp_ge (tgt := 62) hx hb dX0_togetherWith_12 (by decide) (fun c_12 => ?_) (fun c_12 => ?_)
      · skip
        have q_12 := tN_le n i c_12 rfl rfl (by omega) (by omega)
        refine lv_iload hx hb dX0_togetherWith_62 (lv_at hl 0 rfl) ?_
        exact W.iret (v := nI (tgN C (fun i => atN (S i) t) k i)) hx hb hr (fun t9 ht9 hW9 => ⟨_, rfl, (by have h9 : i = n := (by omega); rw [← h9]), ht9⟩) (fun q h => by cases h) dX0_togetherWith_64
      · skip
        have q_12 := tN_nle n i c_12 rfl rfl (by omega) (by omega)
        refine lv_iload_n hx hb dX0_togetherWith_15 rfl (lv_at hl 4 rfl) ?_
        refine lv_iload hx hb dX0_togetherWith_16 (lv_at hl 1 rfl) ?_
        refine lv_ishr hx hb dX0_togetherWith_18 ?_
        refine lv_iconst (v := 1) hx hb dX0_togetherWith_19 (by decide) ?_
        refine lv_iand hx hb dX0_togetherWith_20 ?_
        refine lv_eqi (y := nI (C / 2 ^ i % 2)) (bitT (by omega) (by omega)) ?_
        refine lv_iconst (v := 1) hx hb dX0_togetherWith_21 (by decide) ?_
        refine lv_icmp_ne (tgt := 29) hx hb dX0_togetherWith_22 (by decide) (fun c_22 => ?_) (fun c_22 => ?_)
        · skip
          have q_22 := tN_ne (C / 2 ^ i % 2) 1 c_22 rfl rfl (by omega) (by omega)
          refine lv_iconst (v := 0) hx hb dX0_togetherWith_29 (by decide) ?_
          refine lv_istore (lv' := [(6, .int 0), (4, .int (nI (tgN C (fun i => atN (S i) t) k i))), (5, .int (nI i)), (0, .ref (ga G (5 * h + 4))), (1, .int (nI k)), (2, .int (nI C)), (3, .int (nI t))]) hx hb dX0_togetherWith_30 hl (by decide) rfl (fun ls hl => ?_)
          refine lv_iload hx hb dX0_togetherWith_32 (lv_at hl 0 rfl) ?_
          refine lv_if_eq (tgt := 56) hx hb dX0_togetherWith_34 (by decide) (fun c_34 => ?_) (fun c_34 => ?_)
          · skip
            refine lv_iinc (v := nI (i + 1)) (lv' := [(5, .int (nI (i + 1))), (6, .int 0), (4, .int (nI (tgN C (fun i => atN (S i) t) k i))), (0, .ref (ga G (5 * h + 4))), (1, .int (nI k)), (2, .int (nI C)), (3, .int (nI t))]) hx hb dX0_togetherWith_56 hl (k := 2) rfl (inc1 i) (by decide) rfl (fun ls hl => ?_)
            refine lv_goto (tgt := 6) hx hb dX0_togetherWith_59 (by decide) ?_
            exact ih_6 (i + 1) _ _ (by omega) (by first | exact congrArg nI (tg_y q_22 q_50) | exact congrArg nI (tg_n2 q_50) | exact congrArg nI (tg_n1 q_22)) rfl (by omega) ls (lv_sub hl [2, 0, 3, 4, 5, 6] rfl)
          · skip
            exact absurd (by decide) c_34
        · skip
          have q_22 := tN_eq (C / 2 ^ i % 2) 1 c_22 rfl rfl (by omega) (by omega)
          refine lv_iconst (v := 1) hx hb dX0_togetherWith_25 (by decide) ?_
          refine lv_goto (tgt := 30) hx hb dX0_togetherWith_26 (by decide) ?_
          refine lv_istore (lv' := [(6, .int 1), (4, .int (nI (tgN C (fun i => atN (S i) t) k i))), (5, .int (nI i)), (0, .ref (ga G (5 * h + 4))), (1, .int (nI k)), (2, .int (nI C)), (3, .int (nI t))]) hx hb dX0_togetherWith_30 hl (by decide) rfl (fun ls hl => ?_)
          refine lv_iload hx hb dX0_togetherWith_32 (lv_at hl 0 rfl) ?_
          refine lv_if_eq (tgt := 56) hx hb dX0_togetherWith_34 (by decide) (fun c_34 => ?_) (fun c_34 => ?_)
          · skip
            exact absurd c_34 (by decide)
          · skip
            refine lv_aload_n hx hb dX0_togetherWith_37 rfl (lv_at hl 3 rfl) ?_
            refine lv_iload hx hb dX0_togetherWith_38 (lv_at hl 2 rfl) ?_
            refine lv_iload_n hx hb dX0_togetherWith_40 rfl (lv_at hl 6 rfl) ?_
            refine cr_i (q := 446) [.int (nI i), .int (nI t)] hx hb hml hown hG v_X0_placeAt (by decide +kernel) (c_X0_placeAt l G σ h hh n S q V ch hg i t (by omega) ht) (preH hW hh _) rfl hl.1 (Nat.le_of_ble_eq_true rfl) dX0_togetherWith_41 ⟨rfl, rfl, Nat.le_of_ble_eq_true rfl, Nat.le_of_ble_eq_true rfl⟩ ⟨Nat.le_of_ble_eq_true rfl, Nat.le_of_ble_eq_true rfl⟩ ?_
            refine lv_aload_n hx hb dX0_togetherWith_44 rfl (lv_at hl 3 rfl) ?_
            refine lv_iload_n hx hb dX0_togetherWith_45 rfl (lv_at hl 4 rfl) ?_
            refine lv_iload_n hx hb dX0_togetherWith_46 rfl (lv_at hl 6 rfl) ?_
            refine cr_i (q := 446) [.int (nI k), .int (nI t)] hx hb hml hown hG v_X0_placeAt (by decide +kernel) (c_X0_placeAt l G σ h hh n S q V ch hg k t hk ht) (preH hW hh _) rfl hl.1 (Nat.le_of_ble_eq_true rfl) dX0_togetherWith_47 ⟨rfl, rfl, Nat.le_of_ble_eq_true rfl, Nat.le_of_ble_eq_true rfl⟩ ⟨Nat.le_of_ble_eq_true rfl, Nat.le_of_ble_eq_true rfl⟩ ?_
            refine lv_icmp_ne (tgt := 56) hx hb dX0_togetherWith_50 (by decide) (fun c_50 => ?_) (fun c_50 => ?_)
            · skip
              have q_50 := tN_ne (posN (S i) (t - S i 2)) (posN (S k) (t - S k 2)) c_50 rfl rfl (by have := posN_lt (hg.2.2.2.1 i (by omega)).1 (t - S i 2); omega) (by have := posN_lt (hg.2.2.2.1 k hk).1 (t - S k 2); omega)
              refine lv_iinc (v := nI (i + 1)) (lv' := [(5, .int (nI (i + 1))), (6, .int 1), (4, .int (nI (tgN C (fun i => atN (S i) t) k i))), (0, .ref (ga G (5 * h + 4))), (1, .int (nI k)), (2, .int (nI C)), (3, .int (nI t))]) hx hb dX0_togetherWith_56 hl (k := 2) rfl (inc1 i) (by decide) rfl (fun ls hl => ?_)
              refine lv_goto (tgt := 6) hx hb dX0_togetherWith_59 (by decide) ?_
              exact ih_6 (i + 1) _ _ (by omega) (by first | exact congrArg nI (tg_y q_22 q_50) | exact congrArg nI (tg_n2 q_50) | exact congrArg nI (tg_n1 q_22)) rfl (by omega) ls (lv_sub hl [2, 0, 3, 4, 5, 6] rfl)
            · skip
              have q_50 := tN_eq (posN (S i) (t - S i 2)) (posN (S k) (t - S k 2)) c_50 rfl rfl (by have := posN_lt (hg.2.2.2.1 i (by omega)).1 (t - S i 2); omega) (by have := posN_lt (hg.2.2.2.1 k hk).1 (t - S k 2); omega)
              refine lv_iinc (v := nI (tgN C (fun i => atN (S i) t) k i + 1)) (lv' := [(4, .int (nI (tgN C (fun i => atN (S i) t) k i + 1))), (6, .int 1), (5, .int (nI i)), (0, .ref (ga G (5 * h + 4))), (1, .int (nI k)), (2, .int (nI C)), (3, .int (nI t))]) hx hb dX0_togetherWith_53 hl (k := 1) rfl (inc1 (tgN C (fun i => atN (S i) t) k i)) (by decide) rfl (fun ls hl => ?_)
              refine lv_iinc (v := nI (i + 1)) (lv' := [(5, .int (nI (i + 1))), (4, .int (nI (tgN C (fun i => atN (S i) t) k i + 1))), (6, .int 1), (0, .ref (ga G (5 * h + 4))), (1, .int (nI k)), (2, .int (nI C)), (3, .int (nI t))]) hx hb dX0_togetherWith_56 hl (k := 2) rfl (inc1 i) (by decide) rfl (fun ls hl => ?_)
              refine lv_goto (tgt := 6) hx hb dX0_togetherWith_59 (by decide) ?_
              exact ih_6 (i + 1) _ _ (by omega) (by first | exact congrArg nI (tg_y q_22 q_50) | exact congrArg nI (tg_n2 q_50) | exact congrArg nI (tg_n1 q_22)) rfl (by omega) ls (lv_sub hl [1, 0, 3, 4, 5, 6] rfl)
  exact loop_6 _ 0 _ _ (Nat.lt_succ_self _) rfl rfl (by omega) ls (lv_sub hl [1, 0, 2, 3, 4, 5] rfl)
set_option maxHeartbeats 4000000 in
set_option maxRecDepth 100000 in
theorem c_X0_mostLeft (l : Launch) (G : Gam) (σ : St) (h : Nat) (hh : h < 2) (n : Nat) (S : Nat → Sk) (q : Nat) (V : Nat → Nat) (ch : Int32) (hg : GH σ h n S q V ch) (C t : Nat) (h6 : C < 64) (ht : t ≤ 30) : Met l yX0_mostLeft (w1 yX0_mostLeft cX0_mostLeft 5 (some .int)) ({ frames := 3, cells := 0, slots := 0, locals := 71 }) (PcX G σ [.ref (ga G (5 * h + 4)), .int (nI C), .int (nI t)]) (vp_Si (fun r => r = nI (mlN C (fun i => atN (S i) t) n n))) 0 0 (fun _ => False) := by
  refine met_of [.ref (ga G (5 * h + 4)), .int (nI C), .int (nI t)] [(0, .ref (ga G (5 * h + 4))), (1, .int (nI C)), (2, .int (nI t))] (by decide) (Nat.le_of_ble_eq_true rfl) rfl ?_
  intro p e s m below meth c hx hb hr hown hml hlocks hW ls hl
  have hG : GW s := hW.2.2.2.1
  have hn6 := hg.1.2
  have hq8 := hg.2.2.1.2
  refine lv_iconst (v := 0) hx hb dX0_mostLeft_0 (by decide) ?_
  refine lv_istore_n (lv' := [(3, .int 0), (0, .ref (ga G (5 * h + 4))), (1, .int (nI C)), (2, .int (nI t))]) hx hb dX0_mostLeft_1 rfl hl (by decide) rfl (fun ls hl => ?_)
  refine lv_iconst (v := 0) hx hb dX0_mostLeft_2 (by decide) ?_
  refine lv_istore (lv' := [(4, .int 0), (3, .int 0), (0, .ref (ga G (5 * h + 4))), (1, .int (nI C)), (2, .int (nI t))]) hx hb dX0_mostLeft_3 hl (by decide) rfl (fun ls hl => ?_)
  have loop_5 : ∀ (N9 : Nat) (i : Nat) (mm : Int32) (io : Int32), n - i < N9 → mm = nI (mlN C (fun i => atN (S i) t) n i) → io = nI i → i ≤ n → ∀ ls : Array Slot, lv_has ls 5 [(3, .int mm), (4, .int io), (0, .ref (ga G (5 * h + 4))), (1, .int (nI C)), (2, .int (nI t))] → W p l e (headSpec (w1 yX0_mostLeft cX0_mostLeft 5 (some .int)) ({ frames := 3, cells := 0, slots := 0, locals := 71 })).room s m [.ref (ga G (5 * h + 4)), .int (nI C), .int (nI t)].toArray below meth c s.heap [] 0 0 (MQ below (vp_Si (fun r => r = nI (mlN C (fun i => atN (S i) t) n n))) [.ref (ga G (5 * h + 4)), .int (nI C), .int (nI t)].toArray s 0 0 (fun _ => False)) (F0 m 5 ls []) := by
    intro N9
    induction N9 with
    | zero => intro i mm io hN; exact absurd hN (Nat.not_lt_zero _)
    | succ N9 ih =>
      intro i mm io hN e_mm e_io hi0_5 ls hl
      subst e_mm
      subst e_io
      have ih_5 := ih
      refine lv_iload hx hb dX0_mostLeft_5 (lv_at hl 1 rfl) ?_
      refine lv_aload_n hx hb dX0_mostLeft_7 rfl (lv_at hl 2 rfl) ?_
      refine rd_X0_31 hx hb hown hW hh dX0_mostLeft_8 ?_
      refine lv_eqi (y := nI n) hg.1.1 ?_
      refine lv_icmp_ge (tgt := 43) hx hb dX0_mostLeft_11 (by decide) (fun c_11 => ?_) (fun c_11 => ?_)
      · skip
        have q_11 := tN_le n i c_11 rfl rfl (by omega) (by omega)
        refine lv_iload_n hx hb dX0_mostLeft_43 rfl (lv_at hl 0 rfl) ?_
        exact W.iret (v := nI (mlN C (fun i => atN (S i) t) n i)) hx hb hr (fun t9 ht9 hW9 => ⟨_, rfl, (by have h9 : i = n := (by omega); rw [h9]), ht9⟩) (fun q h => by cases h) dX0_mostLeft_44
      · skip
        have q_11 := tN_nle n i c_11 rfl rfl (by omega) (by omega)
        refine lv_iload_n hx hb dX0_mostLeft_14 rfl (lv_at hl 3 rfl) ?_
        refine lv_iload hx hb dX0_mostLeft_15 (lv_at hl 1 rfl) ?_
        refine lv_ishr hx hb dX0_mostLeft_17 ?_
        refine lv_iconst (v := 1) hx hb dX0_mostLeft_18 (by decide) ?_
        refine lv_iand hx hb dX0_mostLeft_19 ?_
        refine lv_eqi (y := nI (C / 2 ^ i % 2)) (bitT (by omega) (by omega)) ?_
        refine lv_iconst (v := 1) hx hb dX0_mostLeft_20 (by decide) ?_
        refine lv_icmp_ne (tgt := 37) hx hb dX0_mostLeft_21 (by decide) (fun c_21 => ?_) (fun c_21 => ?_)
        · skip
          have q_21 := tN_ne (C / 2 ^ i % 2) 1 c_21 rfl rfl (by omega) (by omega)
          refine lv_iinc (v := nI (i + 1)) (lv' := [(4, .int (nI (i + 1))), (3, .int (nI (mlN C (fun i => atN (S i) t) n i))), (0, .ref (ga G (5 * h + 4))), (1, .int (nI C)), (2, .int (nI t))]) hx hb dX0_mostLeft_37 hl (k := 1) rfl (inc1 i) (by decide) rfl (fun ls hl => ?_)
          refine lv_goto (tgt := 5) hx hb dX0_mostLeft_40 (by decide) ?_
          exact ih_5 (i + 1) _ _ (by omega) (by first | exact congrArg nI (ml_y q_21) | exact congrArg nI (ml_n q_21)) rfl (by omega) ls (lv_sub hl [1, 0, 2, 3, 4] rfl)
        · skip
          have q_21 := tN_eq (C / 2 ^ i % 2) 1 c_21 rfl rfl (by omega) (by omega)
          have hm1 := mlN_le (C := C) (f := (fun i => atN (S i) t)) (n := n) i
          have hm2 := tgN_le (C := C) (f := (fun i => atN (S i) t)) (k := i) n
          refine lv_iload_n hx hb dX0_mostLeft_24 rfl (lv_at hl 0 rfl) ?_
          refine lv_aload_n hx hb dX0_mostLeft_25 rfl (lv_at hl 2 rfl) ?_
          refine lv_iload hx hb dX0_mostLeft_26 (lv_at hl 1 rfl) ?_
          refine lv_iload_n hx hb dX0_mostLeft_28 rfl (lv_at hl 3 rfl) ?_
          refine lv_iload_n hx hb dX0_mostLeft_29 rfl (lv_at hl 4 rfl) ?_
          refine cr_i (q := 490) [.int (nI i), .int (nI C), .int (nI t)] hx hb hml hown hG v_X0_togetherWith (by decide +kernel) (c_X0_togetherWith l G σ h hh n S q V ch hg i C t (by omega) h6 ht) (preH hW hh _) rfl hl.1 (Nat.le_of_ble_eq_true rfl) dX0_mostLeft_30 ⟨rfl, rfl, Nat.le_of_ble_eq_true rfl, Nat.le_of_ble_eq_true rfl⟩ ⟨Nat.le_of_ble_eq_true rfl, Nat.le_of_ble_eq_true rfl⟩ ?_
          refine va_mmax (own := RX0) hx hb (hml.trans hl.1.symm) hown (hG.use (i := 494) (by decide +kernel) rfl _) (hG _ mt_max.1 rfl _) (hG _ mt_max.2.1 rfl _) (hG _ mt_max.2.2 rfl _) (Nat.le_of_ble_eq_true rfl) (Nat.le_of_ble_eq_true rfl) (Nat.le_of_ble_eq_true rfl) (Nat.le_of_ble_eq_true rfl) dX0_mostLeft_33 ?_
          refine lv_eqi (y := nI (max (mlN C (fun i => atN (S i) t) n i) (tgN C (fun i => atN (S i) t) i n))) (max_nI (mlN C (fun i => atN (S i) t) n i) (tgN C (fun i => atN (S i) t) i n) (by omega) (by omega)) ?_
          refine lv_istore_n (lv' := [(3, .int (nI (max (mlN C (fun i => atN (S i) t) n i) (tgN C (fun i => atN (S i) t) i n)))), (4, .int (nI i)), (0, .ref (ga G (5 * h + 4))), (1, .int (nI C)), (2, .int (nI t))]) hx hb dX0_mostLeft_36 rfl hl (by decide) rfl (fun ls hl => ?_)
          refine lv_iinc (v := nI (i + 1)) (lv' := [(4, .int (nI (i + 1))), (3, .int (nI (max (mlN C (fun i => atN (S i) t) n i) (tgN C (fun i => atN (S i) t) i n)))), (0, .ref (ga G (5 * h + 4))), (1, .int (nI C)), (2, .int (nI t))]) hx hb dX0_mostLeft_37 hl (k := 1) rfl (inc1 i) (by decide) rfl (fun ls hl => ?_)
          refine lv_goto (tgt := 5) hx hb dX0_mostLeft_40 (by decide) ?_
          exact ih_5 (i + 1) _ _ (by omega) (by first | exact congrArg nI (ml_y q_21) | exact congrArg nI (ml_n q_21)) rfl (by omega) ls (lv_sub hl [1, 0, 2, 3, 4] rfl)
  exact loop_5 _ 0 _ _ (Nat.lt_succ_self _) rfl rfl (by omega) ls (lv_sub hl [1, 0, 2, 3, 4] rfl)
set_option maxHeartbeats 4000000 in
set_option maxRecDepth 100000 in
theorem c_X0_bestHourToLook (l : Launch) (G : Gam) (σ : St) (h : Nat) (hh : h < 2) (n : Nat) (S : Nat → Sk) (q : Nat) (V : Nat → Nat) (ch : Int32) (hg : GH σ h n S q V ch) : Met l yX0_bestHourToLook (w1 yX0_bestHourToLook cX0_bestHourToLook 6 (some .int)) ({ frames := 4, cells := 0, slots := 0, locals := 95 }) (PcX G σ [.ref (ga G (5 * h + 4))]) (vp_Si (fun r => r = (if whN (fun i => okN (atN (S i)) V q) n = 0 then -1 else nI (lkN (fun t => mlN (whN (fun i => okN (atN (S i)) V q) n) (fun i => atN (S i) t) n n) 30).1))) 0 0 (fun _ => False) := by
  refine met_of [.ref (ga G (5 * h + 4))] [(0, .ref (ga G (5 * h + 4)))] (by decide) (Nat.le_of_ble_eq_true rfl) rfl ?_
  intro p e s m below meth c hx hb hr hown hml hlocks hW ls hl
  have hG : GW s := hW.2.2.2.1
  have hn6 := hg.1.2
  have hq8 := hg.2.2.1.2
  obtain ⟨C, hC⟩ : ∃ C, whN (fun i => okN (atN (S i)) V q) n = C := ⟨_, rfl⟩
  have hC6 : C < 64 := Nat.lt_of_lt_of_le (hC ▸ whN_lt n) (p2_64 hn6)
  refine lv_aload_n hx hb dX0_bestHourToLook_0 rfl (lv_at hl 0 rfl) ?_
  refine cr_i (q := 485) [] hx hb hml hown hG v_X0_possible (by decide +kernel) (c_X0_possible l G σ h hh n S q V ch hg) (preH hW hh _) rfl hl.1 (Nat.le_of_ble_eq_true rfl) dX0_bestHourToLook_1 ⟨rfl, rfl, Nat.le_of_ble_eq_true rfl, Nat.le_of_ble_eq_true rfl⟩ ⟨Nat.le_of_ble_eq_true rfl, Nat.le_of_ble_eq_true rfl⟩ ?_
  refine lv_eqi (y := nI C) (by rw [hC]) ?_
  refine lv_istore_n (lv' := [(1, .int (nI C)), (0, .ref (ga G (5 * h + 4)))]) hx hb dX0_bestHourToLook_4 rfl hl (by decide) rfl (fun ls hl => ?_)
  refine lv_iload_n hx hb dX0_bestHourToLook_5 rfl (lv_at hl 0 rfl) ?_
  refine lv_if_ne (tgt := 11) hx hb dX0_bestHourToLook_6 (by decide) (fun c_6 => ?_) (fun c_6 => ?_)
  · skip
    have q_6 := tN_ne C 0 c_6 rfl rfl (by omega) (by omega)
    refine lv_iconst (v := 0) hx hb dX0_bestHourToLook_11 (by decide) ?_
    refine lv_istore_n (lv' := [(2, .int 0), (1, .int (nI C)), (0, .ref (ga G (5 * h + 4)))]) hx hb dX0_bestHourToLook_12 rfl hl (by decide) rfl (fun ls hl => ?_)
    refine lv_aload_n hx hb dX0_bestHourToLook_13 rfl (lv_at hl 2 rfl) ?_
    refine lv_iload_n hx hb dX0_bestHourToLook_14 rfl (lv_at hl 1 rfl) ?_
    refine lv_iconst (v := 0) hx hb dX0_bestHourToLook_15 (by decide) ?_
    refine cr_i (q := 486) [.int (nI C), .int 0] hx hb hml hown hG v_X0_mostLeft (by decide +kernel) (c_X0_mostLeft l G σ h hh n S q V ch hg C 0 hC6 (by omega)) (preH hW hh _) rfl hl.1 (Nat.le_of_ble_eq_true rfl) dX0_bestHourToLook_16 ⟨rfl, rfl, Nat.le_of_ble_eq_true rfl, Nat.le_of_ble_eq_true rfl⟩ ⟨Nat.le_of_ble_eq_true rfl, Nat.le_of_ble_eq_true rfl⟩ ?_
    refine lv_istore_n (lv' := [(3, .int (nI (mlN C (fun i => atN (S i) (0)) n n))), (2, .int 0), (1, .int (nI C)), (0, .ref (ga G (5 * h + 4)))]) hx hb dX0_bestHourToLook_19 rfl hl (by decide) rfl (fun ls hl => ?_)
    refine lv_iconst (v := 1) hx hb dX0_bestHourToLook_20 (by decide) ?_
    refine lv_istore (lv' := [(4, .int 1), (3, .int (nI (mlN C (fun i => atN (S i) (0)) n n))), (2, .int 0), (1, .int (nI C)), (0, .ref (ga G (5 * h + 4)))]) hx hb dX0_bestHourToLook_21 hl (by decide) rfl (fun ls hl => ?_)
    have loop_23 : ∀ (N9 : Nat) (t : Nat) (be : Int32) (fe : Int32) (ho : Int32), 30 - t < N9 → be = nI ((lkN (fun t => mlN C (fun i => atN (S i) t) n n) t).1) → fe = nI ((lkN (fun t => mlN C (fun i => atN (S i) t) n n) t).2) → ho = nI (t + 1) → t ≤ 30 → ∀ ls : Array Slot, lv_has ls 6 [(2, .int be), (3, .int fe), (4, .int ho), (1, .int (nI C)), (0, .ref (ga G (5 * h + 4)))] → W p l e (headSpec (w1 yX0_bestHourToLook cX0_bestHourToLook 6 (some .int)) ({ frames := 4, cells := 0, slots := 0, locals := 95 })).room s m [.ref (ga G (5 * h + 4))].toArray below meth c s.heap [] 0 0 (MQ below (vp_Si (fun r => r = (if whN (fun i => okN (atN (S i)) V q) n = 0 then -1 else nI (lkN (fun t => mlN (whN (fun i => okN (atN (S i)) V q) n) (fun i => atN (S i) t) n n) 30).1))) [.ref (ga G (5 * h + 4))].toArray s 0 0 (fun _ => False)) (F0 m 23 ls []) := by
      intro N9
      induction N9 with
      | zero => intro t be fe ho hN; exact absurd hN (Nat.not_lt_zero _)
      | succ N9 ih =>
        intro t be fe ho hN e_be e_fe e_ho hi0_23 ls hl
        subst e_be
        subst e_fe
        subst e_ho
        have ih_23 := ih
        have hl2 := lk_le (w := (fun t => mlN C (fun i => atN (S i) t) n n)) (n := n) (fun t => mlN_le n) t
        have hl1 : mlN C (fun i => atN (S i) (t + 1)) n n ≤ n := mlN_le n
        refine lv_iload hx hb dX0_bestHourToLook_23 (lv_at hl 2 rfl) ?_
        refine lv_bipush (v := 30) hx hb dX0_bestHourToLook_25 (by decide) ?_
        refine lv_icmp_gt (tgt := 57) hx hb dX0_bestHourToLook_27 (by decide) (fun c_27 => ?_) (fun c_27 => ?_)
        · skip
          have q_27 := tN_lt 30 (t + 1) c_27 rfl rfl (by omega) (by omega)
          refine lv_iload_n hx hb dX0_bestHourToLook_57 rfl (lv_at hl 0 rfl) ?_
          exact W.iret (v := nI ((lkN (fun t => mlN C (fun i => atN (S i) t) n n) t).1)) hx hb hr (fun t9 ht9 hW9 => ⟨_, rfl, (by have h9 : t = 30 := (by omega); subst h9; show _ = (if _ = 0 then _ else _); rw [hC, if_neg q_6]), ht9⟩) (fun q h => by cases h) dX0_bestHourToLook_58
        · skip
          have q_27 := tN_nlt 30 (t + 1) c_27 rfl rfl (by omega) (by omega)
          refine lv_aload_n hx hb dX0_bestHourToLook_30 rfl (lv_at hl 4 rfl) ?_
          refine lv_iload_n hx hb dX0_bestHourToLook_31 rfl (lv_at hl 3 rfl) ?_
          refine lv_iload hx hb dX0_bestHourToLook_32 (lv_at hl 2 rfl) ?_
          refine cr_i (q := 486) [.int (nI C), .int (nI (t + 1))] hx hb hml hown hG v_X0_mostLeft (by decide +kernel) (c_X0_mostLeft l G σ h hh n S q V ch hg C (t + 1) hC6 (by omega)) (preH hW hh _) rfl hl.1 (Nat.le_of_ble_eq_true rfl) dX0_bestHourToLook_34 ⟨rfl, rfl, Nat.le_of_ble_eq_true rfl, Nat.le_of_ble_eq_true rfl⟩ ⟨Nat.le_of_ble_eq_true rfl, Nat.le_of_ble_eq_true rfl⟩ ?_
          refine lv_istore (lv' := [(5, .int (nI (mlN C (fun i => atN (S i) (t + 1)) n n))), (2, .int (nI ((lkN (fun t => mlN C (fun i => atN (S i) t) n n) t).1))), (3, .int (nI ((lkN (fun t => mlN C (fun i => atN (S i) t) n n) t).2))), (4, .int (nI (t + 1))), (1, .int (nI C)), (0, .ref (ga G (5 * h + 4)))]) hx hb dX0_bestHourToLook_37 hl (by decide) rfl (fun ls hl => ?_)
          refine lv_iload hx hb dX0_bestHourToLook_39 (lv_at hl 0 rfl) ?_
          refine lv_iload_n hx hb dX0_bestHourToLook_41 rfl (lv_at hl 2 rfl) ?_
          refine lv_icmp_ge (tgt := 51) hx hb dX0_bestHourToLook_42 (by decide) (fun c_42 => ?_) (fun c_42 => ?_)
          · skip
            have q_42 := tN_le ((lkN (fun t => mlN C (fun i => atN (S i) t) n n) t).2) (mlN C (fun i => atN (S i) (t + 1)) n n) c_42 rfl rfl (by omega) (by omega)
            refine lv_iinc (v := nI (t + 1 + 1)) (lv' := [(4, .int (nI (t + 1 + 1))), (5, .int (nI (mlN C (fun i => atN (S i) (t + 1)) n n))), (2, .int (nI ((lkN (fun t => mlN C (fun i => atN (S i) t) n n) t).1))), (3, .int (nI ((lkN (fun t => mlN C (fun i => atN (S i) t) n n) t).2))), (1, .int (nI C)), (0, .ref (ga G (5 * h + 4)))]) hx hb dX0_bestHourToLook_51 hl (k := 3) rfl (inc1 (t + 1)) (by decide) rfl (fun ls hl => ?_)
            refine lv_goto (tgt := 23) hx hb dX0_bestHourToLook_54 (by decide) ?_
            exact ih_23 (t + 1) _ _ _ (by omega) (by first | exact congrArg (fun z => nI z.1) (lk_y (w := (fun t => mlN C (fun i => atN (S i) t) n n)) q_42).symm | exact congrArg (fun z => nI z.1) (lk_n (w := (fun t => mlN C (fun i => atN (S i) t) n n)) q_42).symm) (by first | exact congrArg (fun z => nI z.2) (lk_y (w := (fun t => mlN C (fun i => atN (S i) t) n n)) q_42).symm | exact congrArg (fun z => nI z.2) (lk_n (w := (fun t => mlN C (fun i => atN (S i) t) n n)) q_42).symm) rfl (by omega) ls (lv_sub hl [2, 3, 0, 4, 5] rfl)
          · skip
            have q_42 := tN_nle ((lkN (fun t => mlN C (fun i => atN (S i) t) n n) t).2) (mlN C (fun i => atN (S i) (t + 1)) n n) c_42 rfl rfl (by omega) (by omega)
            refine lv_iload hx hb dX0_bestHourToLook_45 (lv_at hl 3 rfl) ?_
            refine lv_istore_n (lv' := [(2, .int (nI (t + 1))), (5, .int (nI (mlN C (fun i => atN (S i) (t + 1)) n n))), (3, .int (nI ((lkN (fun t => mlN C (fun i => atN (S i) t) n n) t).2))), (4, .int (nI (t + 1))), (1, .int (nI C)), (0, .ref (ga G (5 * h + 4)))]) hx hb dX0_bestHourToLook_47 rfl hl (by decide) rfl (fun ls hl => ?_)
            refine lv_iload hx hb dX0_bestHourToLook_48 (lv_at hl 1 rfl) ?_
            refine lv_istore_n (lv' := [(3, .int (nI (mlN C (fun i => atN (S i) (t + 1)) n n))), (2, .int (nI (t + 1))), (5, .int (nI (mlN C (fun i => atN (S i) (t + 1)) n n))), (4, .int (nI (t + 1))), (1, .int (nI C)), (0, .ref (ga G (5 * h + 4)))]) hx hb dX0_bestHourToLook_50 rfl hl (by decide) rfl (fun ls hl => ?_)
            refine lv_iinc (v := nI (t + 1 + 1)) (lv' := [(4, .int (nI (t + 1 + 1))), (3, .int (nI (mlN C (fun i => atN (S i) (t + 1)) n n))), (2, .int (nI (t + 1))), (5, .int (nI (mlN C (fun i => atN (S i) (t + 1)) n n))), (1, .int (nI C)), (0, .ref (ga G (5 * h + 4)))]) hx hb dX0_bestHourToLook_51 hl (k := 3) rfl (inc1 (t + 1)) (by decide) rfl (fun ls hl => ?_)
            refine lv_goto (tgt := 23) hx hb dX0_bestHourToLook_54 (by decide) ?_
            exact ih_23 (t + 1) _ _ _ (by omega) (by first | exact congrArg (fun z => nI z.1) (lk_y (w := (fun t => mlN C (fun i => atN (S i) t) n n)) q_42).symm | exact congrArg (fun z => nI z.1) (lk_n (w := (fun t => mlN C (fun i => atN (S i) t) n n)) q_42).symm) (by first | exact congrArg (fun z => nI z.2) (lk_y (w := (fun t => mlN C (fun i => atN (S i) t) n n)) q_42).symm | exact congrArg (fun z => nI z.2) (lk_n (w := (fun t => mlN C (fun i => atN (S i) t) n n)) q_42).symm) rfl (by omega) ls (lv_sub hl [2, 1, 0, 4, 5] rfl)
    exact loop_23 _ 0 _ _ _ (Nat.lt_succ_self _) rfl rfl rfl (by omega) ls (lv_sub hl [2, 1, 0, 3, 4] rfl)
  · skip
    have q_6 := tN_eq C 0 c_6 rfl rfl (by omega) (by omega)
    refine lv_iconst (v := (-1)) hx hb dX0_bestHourToLook_9 (by decide) ?_
    exact W.iret (v := (-1)) hx hb hr (fun t9 ht9 hW9 => ⟨_, rfl, (by show _ = (if _ = 0 then _ else _); rw [hC, if_pos q_6]), ht9⟩) (fun q h => by cases h) dX0_bestHourToLook_10
