theorem dlN_le (m k : Nat) : dlN m k ≤ 9 := by unfold dlN; omega
theorem aStick_k {n k i : Nat} {S : Nat → Sk} (hk : k < n) (hn : n ≤ 6) (hi : i < 15) : aStick n S (nI k) (nI i) = tellN (S k) i := by
  rw [aStick, wK_k hk (by omega)]; exact wK_k (f := tellN (S k)) hi (by omega)
theorem aAt_k {n k t : Nat} {S : Nat → Sk} (hk : k < n) (hn : n ≤ 6) (ht : t < 31) : aAt n S (nI k) (nI t) = nI (atN (S k) t) := by
  rw [aAt, wK_k hk (by omega), wK_k ht (by omega)]
theorem aCatch_k {n k t : Nat} {S : Nat → Sk} (hk : k < n) (hn : n ≤ 6) (ht : t < 16) : aCatch n S (nI t) (nI k) = nI (catN (atN (S k)) t) := by
  rw [aCatch, wK_k hk (by omega), wK_k ht (by omega)]
def sayL (h : Int64) (v : Int32) : Int64 := 31 * h + v.toInt64
def f7 (T : Nat → Int32) (h : Int64) : Nat → Int64
  | 0 => h
  | i + 1 => sayL (f7 T h i) (T i)
def wsH (S : Sk) (h : Int64) : Int64 := sayL (sayL (sayL (sayL (f7 (fun j => tellN S (10 + j)) (f7 (tellN S) h 7) 5) (nI (atN S 1))) (nI (atN S 5))) (nI (atN S 30))) (nI (catN (atN S) 0))
def dgS (S : Nat → Sk) : Nat → Int64
  | 0 => 1049
  | i + 1 => wsH (S i) (dgS S i)
def dgB (n : Nat) (S : Nat → Sk) (q : Nat) (V : Nat → Nat) : Int64 := if n = 0 then dgS S n else sayL (sayL (sayL (sayL (dgS S n) (aWhose n S q V)) (aLook n S q V)) (aCover n S 33 0)) (aCover n S 33 1)
def dgA (n : Nat) (S : Nat → Sk) (q : Nat) (V : Nat → Nat) (ch : Int32) (pn : Nat) (P : Nat → Nat) (rd : Int32) : Int64 := f7 (cntN n S q ch pn rd) (f7 (fun i => nI (P i)) (dgB n S q V) pn) 8
theorem aCount_k {n : Nat} {S : Nat → Sk} {q : Nat} {ch : Int32} {pn : Nat} {rd : Int32} {i : Nat} (hi : i < 8) : aCount n S q ch pn rd (nI i) = cntN n S q ch pn rd i := by
  rw [aCount]; exact wK_k (f := cntN n S q ch pn rd) hi (by omega)
set_option maxHeartbeats 4000000 in
set_option maxRecDepth 100000 in
theorem c_X3_mornings (l : Launch) (G : Gam) (σ : St) (n : Nat) (S : Nat → Sk) (q : Nat) (V : Nat → Nat) (ch : Int32) (hg : GH σ 0 n S q V ch) (x y w9 : Int32) : Met l yX3_mornings (w1 yX3_mornings cX3_mornings 7 (some .int)) ({ frames := 3, cells := 0, slots := 0, locals := 73 }) (PcX G σ [.ref (ga G 0), .int x, .int y, .int w9]) (QiX G (fun r σ9 => r = aMorn n S x y w9 ∧ ∀ a, a ≠ 3 → σ9 a = σ a)) 0 0 (aX G) := by
  have hn6 := hg.1.2
  have hq8 := hg.2.2.1.2
  rcases hasB_c x (n := 21) (by omega) with hx0 | ⟨k, hk, rfl⟩
  · skip
    refine met_of [.ref (ga G 0), .int x, .int y, .int w9] [(0, .ref (ga G 0)), (1, .int x), (2, .int y), (3, .int w9)] (by decide) (Nat.le_of_ble_eq_true rfl) rfl ?_
    intro p e s m below meth c hx hb hr hown hml hlocks hW ls hl
    have hG : GW s := hW.2.2.2.1
    have hS : va_S (aX G) s.heap s.heap [] := va_S.rf
    refine lv_iload_n hx hb dX3_mornings_0 rfl (lv_at hl 1 rfl) ?_
    refine lv_iconst (v := 1) hx hb dX3_mornings_1 (by decide) ?_
    refine lv_icmp_lt (tgt := 24) hx hb dX3_mornings_2 (by decide) (fun c_2 => ?_) (fun c_2 => ?_)
    · skip
      refine lv_bipush (v := (-102)) hx hb dX3_mornings_24 (by decide) ?_
      exact W.iret (v := (-102)) hx hb hr (fun t9 ht9 hW9 => ⟨⟨_, σ, rfl, ⟨(wK_f hx0).symm, fun _ _ => rfl⟩, (by have h8 := hW.1; rw [← ht9] at h8; exact h8)⟩, hS.F ht9⟩) hS.2.2 dX3_mornings_26
    · skip
      refine lv_iload_n hx hb dX3_mornings_5 rfl (lv_at hl 1 rfl) ?_
      refine lv_bipush (v := 20) hx hb dX3_mornings_6 (by decide) ?_
      refine lv_icmp_gt (tgt := 24) hx hb dX3_mornings_8 (by decide) (fun c_8 => ?_) (fun c_8 => ?_)
      · skip
        refine lv_bipush (v := (-102)) hx hb dX3_mornings_24 (by decide) ?_
        exact W.iret (v := (-102)) hx hb hr (fun t9 ht9 hW9 => ⟨⟨_, σ, rfl, ⟨(wK_f hx0).symm, fun _ _ => rfl⟩, (by have h8 := hW.1; rw [← ht9] at h8; exact h8)⟩, hS.F ht9⟩) hS.2.2 dX3_mornings_26
      · skip
        exact absurd (hB_nle 20 (by omega) (nlt_mono 1 (by omega) c_2) c_8) (by rw [hx0]; decide)
  · skip
    rcases hasB_c w9 (n := 3) (by omega) with hw0 | ⟨t, ht, rfl⟩
    · skip
      refine met_of [.ref (ga G 0), .int (nI k), .int y, .int w9] [(0, .ref (ga G 0)), (1, .int (nI k)), (2, .int y), (3, .int w9)] (by decide) (Nat.le_of_ble_eq_true rfl) rfl ?_
      intro p e s m below meth c hx hb hr hown hml hlocks hW ls hl
      have hG : GW s := hW.2.2.2.1
      have hS : va_S (aX G) s.heap s.heap [] := va_S.rf
      refine lv_iload_n hx hb dX3_mornings_0 rfl (lv_at hl 1 rfl) ?_
      refine lv_iconst (v := 1) hx hb dX3_mornings_1 (by decide) ?_
      refine lv_icmp_lt (tgt := 24) hx hb dX3_mornings_2 (by decide) (fun c_2 => ?_) (fun c_2 => ?_)
      · skip
        have q_2 := tN_lt k 1 c_2 rfl rfl (by omega) (by omega)
        refine lv_bipush (v := (-102)) hx hb dX3_mornings_24 (by decide) ?_
        exact W.iret (v := (-102)) hx hb hr (fun t9 ht9 hW9 => ⟨⟨_, σ, rfl, ⟨by rw [aMorn, wK_k hk (by omega), if_pos (by omega)], fun _ _ => rfl⟩, (by have h8 := hW.1; rw [← ht9] at h8; exact h8)⟩, hS.F ht9⟩) hS.2.2 dX3_mornings_26
      · skip
        have q_2 := tN_nlt k 1 c_2 rfl rfl (by omega) (by omega)
        refine lv_iload_n hx hb dX3_mornings_5 rfl (lv_at hl 1 rfl) ?_
        refine lv_bipush (v := 20) hx hb dX3_mornings_6 (by decide) ?_
        refine lv_icmp_gt (tgt := 24) hx hb dX3_mornings_8 (by decide) (fun c_8 => ?_) (fun c_8 => ?_)
        · skip
          exact absurd (tN_lt 20 k c_8 rfl rfl (by omega) (by omega)) (by omega)
        · skip
          have q_8 := tN_nlt 20 k c_8 rfl rfl (by omega) (by omega)
          refine lv_iload_n hx hb dX3_mornings_11 rfl (lv_at hl 2 rfl) ?_
          refine lv_if_lt (tgt := 24) hx hb dX3_mornings_12 (by decide) (fun c_12 => ?_) (fun c_12 => ?_)
          · skip
            refine lv_bipush (v := (-102)) hx hb dX3_mornings_24 (by decide) ?_
            exact W.iret (v := (-102)) hx hb hr (fun t9 ht9 hW9 => ⟨⟨_, σ, rfl, ⟨by rw [aMorn, wK_k hk (by omega), if_neg (by omega), if_pos c_12], fun _ _ => rfl⟩, (by have h8 := hW.1; rw [← ht9] at h8; exact h8)⟩, hS.F ht9⟩) hS.2.2 dX3_mornings_26
          · skip
            obtain ⟨m9, hm9, rfl⟩ := nneg c_12
            · skip
              have hl : lv_has ls 7 [(0, .ref (ga G 0)), (1, .int (nI k)), (2, .int (nI m9)), (3, .int w9)] := hl
              refine lv_iload_n hx hb dX3_mornings_15 rfl (lv_at hl 3 rfl) ?_
              refine lv_if_lt (tgt := 24) hx hb dX3_mornings_16 (by decide) (fun c_16 => ?_) (fun c_16 => ?_)
              · skip
                refine lv_bipush (v := (-102)) hx hb dX3_mornings_24 (by decide) ?_
                exact W.iret (v := (-102)) hx hb hr (fun t9 ht9 hW9 => ⟨⟨_, σ, rfl, ⟨by rw [aMorn, wK_k hk (by omega), if_neg (by omega), if_neg c_12, wK_f hw0], fun _ _ => rfl⟩, (by have h8 := hW.1; rw [← ht9] at h8; exact h8)⟩, hS.F ht9⟩) hS.2.2 dX3_mornings_26
              · skip
                refine lv_iload_n hx hb dX3_mornings_19 rfl (lv_at hl 3 rfl) ?_
                refine lv_iconst (v := 2) hx hb dX3_mornings_20 (by decide) ?_
                refine lv_icmp_le (tgt := 27) hx hb dX3_mornings_21 (by decide) (fun c_21 => ?_) (fun c_21 => ?_)
                · skip
                  exact absurd (hB_le 2 (by omega) c_16 c_21) (by rw [hw0]; decide)
                · skip
                  refine lv_bipush (v := (-102)) hx hb dX3_mornings_24 (by decide) ?_
                  exact W.iret (v := (-102)) hx hb hr (fun t9 ht9 hW9 => ⟨⟨_, σ, rfl, ⟨by rw [aMorn, wK_k hk (by omega), if_neg (by omega), if_neg c_12, wK_f hw0], fun _ _ => rfl⟩, (by have h8 := hW.1; rw [← ht9] at h8; exact h8)⟩, hS.F ht9⟩) hS.2.2 dX3_mornings_26
    · skip
      rcases sw3 ht with rfl | rfl | rfl
      · skip
        refine met_of [.ref (ga G 0), .int (nI k), .int y, .int 0] [(0, .ref (ga G 0)), (1, .int (nI k)), (2, .int y), (3, .int 0)] (by decide) (Nat.le_of_ble_eq_true rfl) rfl ?_
        intro p e s m below meth c hx hb hr hown hml hlocks hW ls hl
        have hG : GW s := hW.2.2.2.1
        have hS : va_S (aX G) s.heap s.heap [] := va_S.rf
        refine lv_iload_n hx hb dX3_mornings_0 rfl (lv_at hl 1 rfl) ?_
        refine lv_iconst (v := 1) hx hb dX3_mornings_1 (by decide) ?_
        refine lv_icmp_lt (tgt := 24) hx hb dX3_mornings_2 (by decide) (fun c_2 => ?_) (fun c_2 => ?_)
        · skip
          have q_2 := tN_lt k 1 c_2 rfl rfl (by omega) (by omega)
          refine lv_bipush (v := (-102)) hx hb dX3_mornings_24 (by decide) ?_
          exact W.iret (v := (-102)) hx hb hr (fun t9 ht9 hW9 => ⟨⟨_, σ, rfl, ⟨by rw [aMorn, wK_k hk (by omega), if_pos (by omega)], fun _ _ => rfl⟩, (by have h8 := hW.1; rw [← ht9] at h8; exact h8)⟩, hS.F ht9⟩) hS.2.2 dX3_mornings_26
        · skip
          have q_2 := tN_nlt k 1 c_2 rfl rfl (by omega) (by omega)
          refine lv_iload_n hx hb dX3_mornings_5 rfl (lv_at hl 1 rfl) ?_
          refine lv_bipush (v := 20) hx hb dX3_mornings_6 (by decide) ?_
          refine lv_icmp_gt (tgt := 24) hx hb dX3_mornings_8 (by decide) (fun c_8 => ?_) (fun c_8 => ?_)
          · skip
            exact absurd (tN_lt 20 k c_8 rfl rfl (by omega) (by omega)) (by omega)
          · skip
            have q_8 := tN_nlt 20 k c_8 rfl rfl (by omega) (by omega)
            refine lv_iload_n hx hb dX3_mornings_11 rfl (lv_at hl 2 rfl) ?_
            refine lv_if_lt (tgt := 24) hx hb dX3_mornings_12 (by decide) (fun c_12 => ?_) (fun c_12 => ?_)
            · skip
              refine lv_bipush (v := (-102)) hx hb dX3_mornings_24 (by decide) ?_
              exact W.iret (v := (-102)) hx hb hr (fun t9 ht9 hW9 => ⟨⟨_, σ, rfl, ⟨by rw [aMorn, wK_k hk (by omega), if_neg (by omega), if_pos c_12], fun _ _ => rfl⟩, (by have h8 := hW.1; rw [← ht9] at h8; exact h8)⟩, hS.F ht9⟩) hS.2.2 dX3_mornings_26
            · skip
              obtain ⟨m9, hm9, rfl⟩ := nneg c_12
              · skip
                have hl : lv_has ls 7 [(0, .ref (ga G 0)), (1, .int (nI k)), (2, .int (nI m9)), (3, .int 0)] := hl
                refine lv_iload_n hx hb dX3_mornings_15 rfl (lv_at hl 3 rfl) ?_
                refine lv_if_lt (tgt := 24) hx hb dX3_mornings_16 (by decide) (fun c_16 => ?_) (fun c_16 => ?_)
                · skip
                  exact absurd c_16 (by decide)
                · skip
                  refine lv_iload_n hx hb dX3_mornings_19 rfl (lv_at hl 3 rfl) ?_
                  refine lv_iconst (v := 2) hx hb dX3_mornings_20 (by decide) ?_
                  refine lv_icmp_le (tgt := 27) hx hb dX3_mornings_21 (by decide) (fun c_21 => ?_) (fun c_21 => ?_)
                  · skip
                    refine lv_aload_n hx hb dX3_mornings_27 rfl (lv_at hl 0 rfl) ?_
                    refine rd_X3_19 hx hb hown hW dX3_mornings_28 ?_
                    refine rd_X3_57 hx hb hown hW (show 0 < 2 by omega) dX3_mornings_31 ?_
                    refine lv_eqi (y := nI n) hg.1.1 ?_
                    refine lv_if_ne (tgt := 40) hx hb dX3_mornings_34 (by decide) (fun c_34 => ?_) (fun c_34 => ?_)
                    · skip
                      have q_34 := tN_ne n 0 c_34 rfl rfl (by omega) (by omega)
                      refine lv_iconst (v := 0) hx hb dX3_mornings_40 (by decide) ?_
                      refine lv_istore (lv' := [(4, .int 0), (0, .ref (ga G 0)), (1, .int (nI k)), (2, .int (nI m9)), (3, .int 0)]) hx hb dX3_mornings_41 hl (by decide) rfl (fun ls hl => ?_)
                      refine lv_iload_n hx hb dX3_mornings_43 rfl (lv_at hl 3 rfl) ?_
                      refine lv_istore (lv' := [(5, .int (nI m9)), (4, .int 0), (0, .ref (ga G 0)), (1, .int (nI k)), (2, .int (nI m9)), (3, .int 0)]) hx hb dX3_mornings_44 hl (by decide) rfl (fun ls hl => ?_)
                      refine lv_iconst (v := 0) hx hb dX3_mornings_46 (by decide) ?_
                      refine lv_istore (lv' := [(6, .int 0), (5, .int (nI m9)), (4, .int 0), (0, .ref (ga G 0)), (1, .int (nI k)), (2, .int (nI m9)), (3, .int 0)]) hx hb dX3_mornings_47 hl (by decide) rfl (fun ls hl => ?_)
                      have loop_49 : ∀ (N9 : Nat) (j : Nat) (to : Int32) (se : Int32) (mo : Int32) (σw : St) (H : Heap) (locs : List Loc), k - j < N9 → to = nI (mtN S n m9 j) → se = nI (msN n m9 j) → mo = nI j → j ≤ k → WX G σw s H → va_S (aX G) s.heap H locs → ((∀ a, a ≠ 3 → σw a = σ a)) → ∀ ls : Array Slot, lv_has ls 7 [(4, .int to), (5, .int se), (6, .int mo), (0, .ref (ga G 0)), (1, .int (nI k)), (2, .int (nI m9)), (3, .int 0)] → W p l e (headSpec (w1 yX3_mornings cX3_mornings 7 (some .int)) ({ frames := 3, cells := 0, slots := 0, locals := 73 })).room s m [.ref (ga G 0), .int (nI k), .int (nI m9), .int 0].toArray below meth c H locs 0 0 (MQ below (QiX G (fun r σ9 => r = aMorn n S (nI k) (nI m9) (nI 0) ∧ ∀ a, a ≠ 3 → σ9 a = σ a)) [.ref (ga G 0), .int (nI k), .int (nI m9), .int 0].toArray s 0 0 (aX G)) (F0 m 49 ls []) := by
                        intro N9
                        induction N9 with
                        | zero => intro j to se mo σw H locs hN; exact absurd hN (Nat.not_lt_zero _)
                        | succ N9 ih =>
                          intro j to se mo σw H locs hN e_to e_se e_mo hi0_49 hW hS hw0_49 ls hl
                          subst e_to
                          subst e_se
                          subst e_mo
                          have ih_49 := ih
                          have hgw := hg.keep1 (by omega) (fun a ha => hw0_49 a (by unfold OutH at ha; omega))
                          refine lv_iload hx hb dX3_mornings_49 (lv_at hl 2 rfl) ?_
                          refine lv_iload_n hx hb dX3_mornings_51 rfl (lv_at hl 4 rfl) ?_
                          refine lv_icmp_ge (tgt := 85) hx hb dX3_mornings_52 (by decide) (fun c_52 => ?_) (fun c_52 => ?_)
                          · skip
                            have q_52 := tN_le k j c_52 rfl rfl (by omega) (by omega)
                            refine lv_iload_n hx hb dX3_mornings_85 rfl (lv_at hl 6 rfl) ?_
                            refine lv_lookup (off := 26) (tgt := 112) hx hb dX3_mornings_86 rfl rfl (by decide) ?_
                            refine lv_iload hx hb dX3_mornings_112 (lv_at hl 0 rfl) ?_
                            exact W.iret (v := nI (mtN S n m9 j)) hx hb hr (fun t9 ht9 hW9 => ⟨⟨_, σw, rfl, ⟨(by have h9 : j = k := (by omega); subst h9; rw [aMorn, wK_k hk (by omega), if_neg (by omega), if_neg c_12, wK_k (by omega) (by omega), nI_clamp hm9, moA, if_neg q_34, if_pos rfl]), hw0_49⟩, (by have h8 := hW.1; rw [← ht9] at h8; exact h8)⟩, hS.F ht9⟩) hS.2.2 dX3_mornings_114
                          · skip
                            have q_52 := tN_nle k j c_52 rfl rfl (by omega) (by omega)
                            refine lv_aload_n hx hb dX3_mornings_55 rfl (lv_at hl 3 rfl) ?_
                            refine lv_iload hx hb dX3_mornings_56 (lv_at hl 1 rfl) ?_
                            refine cw_i (q := 499) [.int (nI (msN n m9 j))] hx hb hml hown hW.2 hS v_X3_drawLateness (by decide +kernel) (c_X3_drawLateness l G σw n S q V ch hgw (msN n m9 j) (msN_lt hm9 j)) (preX hW _) rfl hl.1 (Nat.le_of_ble_eq_true rfl) dX3_mornings_58 ⟨rfl, rfl, Nat.le_of_ble_eq_true rfl, Nat.le_of_ble_eq_true rfl⟩ ⟨Nat.le_of_ble_eq_true rfl, Nat.le_of_ble_eq_true rfl⟩ (fun r_58 σ1 H locs hσ1 hW hS => ?_)
                            obtain ⟨hr1, hd1, hf1⟩ := hσ1
                            subst hr1
                            have hg1 := hgw.keep1 (by omega) (fun a ha => hf1 a (by unfold OutH at ha; omega))
                            refine lv_istore (lv' := [(5, .int (nI (sdN (msN n m9 j) n))), (4, .int (nI (mtN S n m9 j))), (6, .int (nI j)), (0, .ref (ga G 0)), (1, .int (nI k)), (2, .int (nI m9)), (3, .int 0)]) hx hb dX3_mornings_61 hl (by decide) rfl (fun ls hl => ?_)
                            refine lv_iload hx hb dX3_mornings_63 (lv_at hl 1 rfl) ?_
                            refine lv_aload_n hx hb dX3_mornings_65 rfl (lv_at hl 3 rfl) ?_
                            refine rd_X3_19 hx hb hown hW dX3_mornings_66 ?_
                            refine lv_aload_n hx hb dX3_mornings_69 rfl (lv_at hl 3 rfl) ?_
                            refine rd_X3_26 hx hb hown hW dX3_mornings_70 ?_
                            refine cr_i (q := 506) [.ref (ga G 3)] hx hb hml hown hG v_X0_meetings (by decide +kernel) (c_X0_meetings l G σ1 0 (by omega) n S q V ch hg1 3 ⟨by omega, fun r => rfl⟩ (dlN (msN n m9 j)) (fun k9 hk9 => ⟨hd1 k9 hk9, dlN_le _ _⟩)) (preH hW (show 0 < 2 by omega) _) rfl hl.1 (Nat.le_of_ble_eq_true rfl) dX3_mornings_73 ⟨rfl, rfl, Nat.le_of_ble_eq_true rfl, Nat.le_of_ble_eq_true rfl⟩ ⟨Nat.le_of_ble_eq_true rfl, Nat.le_of_ble_eq_true rfl⟩ ?_
                            refine ln_add (mtN S n m9 j) (ouN (meL S (dlN (msN n m9 j))) n n) hx hb rfl rfl dX3_mornings_76 ?_
                            refine lv_istore (lv' := [(4, .int (nI ((mtN S n m9 j) + (ouN (meL S (dlN (msN n m9 j))) n n)))), (5, .int (nI (sdN (msN n m9 j) n))), (6, .int (nI j)), (0, .ref (ga G 0)), (1, .int (nI k)), (2, .int (nI m9)), (3, .int 0)]) hx hb dX3_mornings_77 hl (by decide) rfl (fun ls hl => ?_)
                            refine lv_iinc (v := nI (j + 1)) (lv' := [(6, .int (nI (j + 1))), (4, .int (nI ((mtN S n m9 j) + (ouN (meL S (dlN (msN n m9 j))) n n)))), (5, .int (nI (sdN (msN n m9 j) n))), (0, .ref (ga G 0)), (1, .int (nI k)), (2, .int (nI m9)), (3, .int 0)]) hx hb dX3_mornings_79 hl (k := 2) rfl (inc1 j) (by decide) rfl (fun ls hl => ?_)
                            refine lv_goto (tgt := 49) hx hb dX3_mornings_82 (by decide) ?_
                            exact ih_49 (j + 1) _ _ _ _ _ _ (by omega) rfl rfl rfl (by omega) hW hS (fun a ha => (hf1 a ha).trans (hw0_49 a ha)) ls (lv_sub hl [1, 2, 0, 3, 4, 5, 6] rfl)
                      exact loop_49 _ 0 _ _ _ _ _ _ (Nat.lt_succ_self _) rfl rfl rfl (by omega) hW hS (fun _ _ => rfl) ls (lv_sub hl [2, 1, 0, 3, 4, 5, 6] rfl)
                    · skip
                      have q_34 := tN_eq n 0 c_34 rfl rfl (by omega) (by omega)
                      refine lv_bipush (v := (-103)) hx hb dX3_mornings_37 (by decide) ?_
                      exact W.iret (v := (-103)) hx hb hr (fun t9 ht9 hW9 => ⟨⟨_, σ, rfl, ⟨by rw [aMorn, wK_k hk (by omega), if_neg (by omega), if_neg c_12, wK_k (by omega) (by omega), nI_clamp hm9, moA, if_pos q_34], fun _ _ => rfl⟩, (by have h8 := hW.1; rw [← ht9] at h8; exact h8)⟩, hS.F ht9⟩) hS.2.2 dX3_mornings_39
                  · skip
                    exact absurd (by decide) c_21
      · skip
        refine met_of [.ref (ga G 0), .int (nI k), .int y, .int 1] [(0, .ref (ga G 0)), (1, .int (nI k)), (2, .int y), (3, .int 1)] (by decide) (Nat.le_of_ble_eq_true rfl) rfl ?_
        intro p e s m below meth c hx hb hr hown hml hlocks hW ls hl
        have hG : GW s := hW.2.2.2.1
        have hS : va_S (aX G) s.heap s.heap [] := va_S.rf
        refine lv_iload_n hx hb dX3_mornings_0 rfl (lv_at hl 1 rfl) ?_
        refine lv_iconst (v := 1) hx hb dX3_mornings_1 (by decide) ?_
        refine lv_icmp_lt (tgt := 24) hx hb dX3_mornings_2 (by decide) (fun c_2 => ?_) (fun c_2 => ?_)
        · skip
          have q_2 := tN_lt k 1 c_2 rfl rfl (by omega) (by omega)
          refine lv_bipush (v := (-102)) hx hb dX3_mornings_24 (by decide) ?_
          exact W.iret (v := (-102)) hx hb hr (fun t9 ht9 hW9 => ⟨⟨_, σ, rfl, ⟨by rw [aMorn, wK_k hk (by omega), if_pos (by omega)], fun _ _ => rfl⟩, (by have h8 := hW.1; rw [← ht9] at h8; exact h8)⟩, hS.F ht9⟩) hS.2.2 dX3_mornings_26
        · skip
          have q_2 := tN_nlt k 1 c_2 rfl rfl (by omega) (by omega)
          refine lv_iload_n hx hb dX3_mornings_5 rfl (lv_at hl 1 rfl) ?_
          refine lv_bipush (v := 20) hx hb dX3_mornings_6 (by decide) ?_
          refine lv_icmp_gt (tgt := 24) hx hb dX3_mornings_8 (by decide) (fun c_8 => ?_) (fun c_8 => ?_)
          · skip
            exact absurd (tN_lt 20 k c_8 rfl rfl (by omega) (by omega)) (by omega)
          · skip
            have q_8 := tN_nlt 20 k c_8 rfl rfl (by omega) (by omega)
            refine lv_iload_n hx hb dX3_mornings_11 rfl (lv_at hl 2 rfl) ?_
            refine lv_if_lt (tgt := 24) hx hb dX3_mornings_12 (by decide) (fun c_12 => ?_) (fun c_12 => ?_)
            · skip
              refine lv_bipush (v := (-102)) hx hb dX3_mornings_24 (by decide) ?_
              exact W.iret (v := (-102)) hx hb hr (fun t9 ht9 hW9 => ⟨⟨_, σ, rfl, ⟨by rw [aMorn, wK_k hk (by omega), if_neg (by omega), if_pos c_12], fun _ _ => rfl⟩, (by have h8 := hW.1; rw [← ht9] at h8; exact h8)⟩, hS.F ht9⟩) hS.2.2 dX3_mornings_26
            · skip
              obtain ⟨m9, hm9, rfl⟩ := nneg c_12
              · skip
                have hl : lv_has ls 7 [(0, .ref (ga G 0)), (1, .int (nI k)), (2, .int (nI m9)), (3, .int 1)] := hl
                refine lv_iload_n hx hb dX3_mornings_15 rfl (lv_at hl 3 rfl) ?_
                refine lv_if_lt (tgt := 24) hx hb dX3_mornings_16 (by decide) (fun c_16 => ?_) (fun c_16 => ?_)
                · skip
                  exact absurd c_16 (by decide)
                · skip
                  refine lv_iload_n hx hb dX3_mornings_19 rfl (lv_at hl 3 rfl) ?_
                  refine lv_iconst (v := 2) hx hb dX3_mornings_20 (by decide) ?_
                  refine lv_icmp_le (tgt := 27) hx hb dX3_mornings_21 (by decide) (fun c_21 => ?_) (fun c_21 => ?_)
                  · skip
                    refine lv_aload_n hx hb dX3_mornings_27 rfl (lv_at hl 0 rfl) ?_
                    refine rd_X3_19 hx hb hown hW dX3_mornings_28 ?_
                    refine rd_X3_57 hx hb hown hW (show 0 < 2 by omega) dX3_mornings_31 ?_
                    refine lv_eqi (y := nI n) hg.1.1 ?_
                    refine lv_if_ne (tgt := 40) hx hb dX3_mornings_34 (by decide) (fun c_34 => ?_) (fun c_34 => ?_)
                    · skip
                      have q_34 := tN_ne n 0 c_34 rfl rfl (by omega) (by omega)
                      refine lv_iconst (v := 0) hx hb dX3_mornings_40 (by decide) ?_
                      refine lv_istore (lv' := [(4, .int 0), (0, .ref (ga G 0)), (1, .int (nI k)), (2, .int (nI m9)), (3, .int 1)]) hx hb dX3_mornings_41 hl (by decide) rfl (fun ls hl => ?_)
                      refine lv_iload_n hx hb dX3_mornings_43 rfl (lv_at hl 3 rfl) ?_
                      refine lv_istore (lv' := [(5, .int (nI m9)), (4, .int 0), (0, .ref (ga G 0)), (1, .int (nI k)), (2, .int (nI m9)), (3, .int 1)]) hx hb dX3_mornings_44 hl (by decide) rfl (fun ls hl => ?_)
                      refine lv_iconst (v := 0) hx hb dX3_mornings_46 (by decide) ?_
                      refine lv_istore (lv' := [(6, .int 0), (5, .int (nI m9)), (4, .int 0), (0, .ref (ga G 0)), (1, .int (nI k)), (2, .int (nI m9)), (3, .int 1)]) hx hb dX3_mornings_47 hl (by decide) rfl (fun ls hl => ?_)
                      have loop_49 : ∀ (N9 : Nat) (j : Nat) (to : Int32) (se : Int32) (mo : Int32) (σw : St) (H : Heap) (locs : List Loc), k - j < N9 → to = nI (mtN S n m9 j) → se = nI (msN n m9 j) → mo = nI j → j ≤ k → WX G σw s H → va_S (aX G) s.heap H locs → ((∀ a, a ≠ 3 → σw a = σ a)) → ∀ ls : Array Slot, lv_has ls 7 [(4, .int to), (5, .int se), (6, .int mo), (0, .ref (ga G 0)), (1, .int (nI k)), (2, .int (nI m9)), (3, .int 1)] → W p l e (headSpec (w1 yX3_mornings cX3_mornings 7 (some .int)) ({ frames := 3, cells := 0, slots := 0, locals := 73 })).room s m [.ref (ga G 0), .int (nI k), .int (nI m9), .int 1].toArray below meth c H locs 0 0 (MQ below (QiX G (fun r σ9 => r = aMorn n S (nI k) (nI m9) (nI 1) ∧ ∀ a, a ≠ 3 → σ9 a = σ a)) [.ref (ga G 0), .int (nI k), .int (nI m9), .int 1].toArray s 0 0 (aX G)) (F0 m 49 ls []) := by
                        intro N9
                        induction N9 with
                        | zero => intro j to se mo σw H locs hN; exact absurd hN (Nat.not_lt_zero _)
                        | succ N9 ih =>
                          intro j to se mo σw H locs hN e_to e_se e_mo hi0_49 hW hS hw0_49 ls hl
                          subst e_to
                          subst e_se
                          subst e_mo
                          have ih_49 := ih
                          have hgw := hg.keep1 (by omega) (fun a ha => hw0_49 a (by unfold OutH at ha; omega))
                          refine lv_iload hx hb dX3_mornings_49 (lv_at hl 2 rfl) ?_
                          refine lv_iload_n hx hb dX3_mornings_51 rfl (lv_at hl 4 rfl) ?_
                          refine lv_icmp_ge (tgt := 85) hx hb dX3_mornings_52 (by decide) (fun c_52 => ?_) (fun c_52 => ?_)
                          · skip
                            have q_52 := tN_le k j c_52 rfl rfl (by omega) (by omega)
                            refine lv_iload_n hx hb dX3_mornings_85 rfl (lv_at hl 6 rfl) ?_
                            refine lv_lookup (off := 29) (tgt := 115) hx hb dX3_mornings_86 rfl rfl (by decide) ?_
                            refine lv_aload_n hx hb dX3_mornings_115 rfl (lv_at hl 3 rfl) ?_
                            refine rd_X3_19 hx hb hown hW dX3_mornings_116 ?_
                            refine cr_i (q := 511) [] hx hb hml hown hG v_X0_placesSeen (by decide +kernel) (c_X0_placesSeen l G σw 0 (by omega) n S q V ch hgw) (preH hW (show 0 < 2 by omega) _) rfl hl.1 (Nat.le_of_ble_eq_true rfl) dX3_mornings_119 ⟨rfl, rfl, Nat.le_of_ble_eq_true rfl, Nat.le_of_ble_eq_true rfl⟩ ⟨Nat.le_of_ble_eq_true rfl, Nat.le_of_ble_eq_true rfl⟩ ?_
                            refine cs_i (q := 346) [.int (nI (grN (PL S) (2 ^ n - 1) n))] hx hb hml hown hG v_J6_bitCount_0f7a4 (by decide +kernel) (c_J6_bitCount l (grN (PL S) (2 ^ n - 1) n) (PL_lt hg)) (preG hG _) rfl hl.1 (Nat.le_of_ble_eq_true rfl) dX3_mornings_122 ⟨rfl, rfl, Nat.le_of_ble_eq_true rfl, Nat.le_of_ble_eq_true rfl⟩ ⟨Nat.le_of_ble_eq_true rfl, Nat.le_of_ble_eq_true rfl⟩ ?_
                            exact W.iret (v := nI (allP S n)) hx hb hr (fun t9 ht9 hW9 => ⟨⟨_, σw, rfl, ⟨(by have h9 : j = k := (by omega); subst h9; rw [aMorn, wK_k hk (by omega), if_neg (by omega), if_neg c_12, wK_k (by omega) (by omega), nI_clamp hm9, moA, if_neg q_34, if_neg (by omega), if_pos rfl]), hw0_49⟩, (by have h8 := hW.1; rw [← ht9] at h8; exact h8)⟩, hS.F ht9⟩) hS.2.2 dX3_mornings_125
                          · skip
                            have q_52 := tN_nle k j c_52 rfl rfl (by omega) (by omega)
                            refine lv_aload_n hx hb dX3_mornings_55 rfl (lv_at hl 3 rfl) ?_
                            refine lv_iload hx hb dX3_mornings_56 (lv_at hl 1 rfl) ?_
                            refine cw_i (q := 499) [.int (nI (msN n m9 j))] hx hb hml hown hW.2 hS v_X3_drawLateness (by decide +kernel) (c_X3_drawLateness l G σw n S q V ch hgw (msN n m9 j) (msN_lt hm9 j)) (preX hW _) rfl hl.1 (Nat.le_of_ble_eq_true rfl) dX3_mornings_58 ⟨rfl, rfl, Nat.le_of_ble_eq_true rfl, Nat.le_of_ble_eq_true rfl⟩ ⟨Nat.le_of_ble_eq_true rfl, Nat.le_of_ble_eq_true rfl⟩ (fun r_58 σ2 H locs hσ2 hW hS => ?_)
                            obtain ⟨hr1, hd1, hf1⟩ := hσ2
                            subst hr1
                            have hg1 := hgw.keep1 (by omega) (fun a ha => hf1 a (by unfold OutH at ha; omega))
                            refine lv_istore (lv' := [(5, .int (nI (sdN (msN n m9 j) n))), (4, .int (nI (mtN S n m9 j))), (6, .int (nI j)), (0, .ref (ga G 0)), (1, .int (nI k)), (2, .int (nI m9)), (3, .int 1)]) hx hb dX3_mornings_61 hl (by decide) rfl (fun ls hl => ?_)
                            refine lv_iload hx hb dX3_mornings_63 (lv_at hl 1 rfl) ?_
                            refine lv_aload_n hx hb dX3_mornings_65 rfl (lv_at hl 3 rfl) ?_
                            refine rd_X3_19 hx hb hown hW dX3_mornings_66 ?_
                            refine lv_aload_n hx hb dX3_mornings_69 rfl (lv_at hl 3 rfl) ?_
                            refine rd_X3_26 hx hb hown hW dX3_mornings_70 ?_
                            refine cr_i (q := 506) [.ref (ga G 3)] hx hb hml hown hG v_X0_meetings (by decide +kernel) (c_X0_meetings l G σ2 0 (by omega) n S q V ch hg1 3 ⟨by omega, fun r => rfl⟩ (dlN (msN n m9 j)) (fun k9 hk9 => ⟨hd1 k9 hk9, dlN_le _ _⟩)) (preH hW (show 0 < 2 by omega) _) rfl hl.1 (Nat.le_of_ble_eq_true rfl) dX3_mornings_73 ⟨rfl, rfl, Nat.le_of_ble_eq_true rfl, Nat.le_of_ble_eq_true rfl⟩ ⟨Nat.le_of_ble_eq_true rfl, Nat.le_of_ble_eq_true rfl⟩ ?_
                            refine ln_add (mtN S n m9 j) (ouN (meL S (dlN (msN n m9 j))) n n) hx hb rfl rfl dX3_mornings_76 ?_
                            refine lv_istore (lv' := [(4, .int (nI ((mtN S n m9 j) + (ouN (meL S (dlN (msN n m9 j))) n n)))), (5, .int (nI (sdN (msN n m9 j) n))), (6, .int (nI j)), (0, .ref (ga G 0)), (1, .int (nI k)), (2, .int (nI m9)), (3, .int 1)]) hx hb dX3_mornings_77 hl (by decide) rfl (fun ls hl => ?_)
                            refine lv_iinc (v := nI (j + 1)) (lv' := [(6, .int (nI (j + 1))), (4, .int (nI ((mtN S n m9 j) + (ouN (meL S (dlN (msN n m9 j))) n n)))), (5, .int (nI (sdN (msN n m9 j) n))), (0, .ref (ga G 0)), (1, .int (nI k)), (2, .int (nI m9)), (3, .int 1)]) hx hb dX3_mornings_79 hl (k := 2) rfl (inc1 j) (by decide) rfl (fun ls hl => ?_)
                            refine lv_goto (tgt := 49) hx hb dX3_mornings_82 (by decide) ?_
                            exact ih_49 (j + 1) _ _ _ _ _ _ (by omega) rfl rfl rfl (by omega) hW hS (fun a ha => (hf1 a ha).trans (hw0_49 a ha)) ls (lv_sub hl [1, 2, 0, 3, 4, 5, 6] rfl)
                      exact loop_49 _ 0 _ _ _ _ _ _ (Nat.lt_succ_self _) rfl rfl rfl (by omega) hW hS (fun _ _ => rfl) ls (lv_sub hl [2, 1, 0, 3, 4, 5, 6] rfl)
                    · skip
                      have q_34 := tN_eq n 0 c_34 rfl rfl (by omega) (by omega)
                      refine lv_bipush (v := (-103)) hx hb dX3_mornings_37 (by decide) ?_
                      exact W.iret (v := (-103)) hx hb hr (fun t9 ht9 hW9 => ⟨⟨_, σ, rfl, ⟨by rw [aMorn, wK_k hk (by omega), if_neg (by omega), if_neg c_12, wK_k (by omega) (by omega), nI_clamp hm9, moA, if_pos q_34], fun _ _ => rfl⟩, (by have h8 := hW.1; rw [← ht9] at h8; exact h8)⟩, hS.F ht9⟩) hS.2.2 dX3_mornings_39
                  · skip
                    exact absurd (by decide) c_21
      · skip
        refine met_of [.ref (ga G 0), .int (nI k), .int y, .int 2] [(0, .ref (ga G 0)), (1, .int (nI k)), (2, .int y), (3, .int 2)] (by decide) (Nat.le_of_ble_eq_true rfl) rfl ?_
        intro p e s m below meth c hx hb hr hown hml hlocks hW ls hl
        have hG : GW s := hW.2.2.2.1
        have hS : va_S (aX G) s.heap s.heap [] := va_S.rf
        refine lv_iload_n hx hb dX3_mornings_0 rfl (lv_at hl 1 rfl) ?_
        refine lv_iconst (v := 1) hx hb dX3_mornings_1 (by decide) ?_
        refine lv_icmp_lt (tgt := 24) hx hb dX3_mornings_2 (by decide) (fun c_2 => ?_) (fun c_2 => ?_)
        · skip
          have q_2 := tN_lt k 1 c_2 rfl rfl (by omega) (by omega)
          refine lv_bipush (v := (-102)) hx hb dX3_mornings_24 (by decide) ?_
          exact W.iret (v := (-102)) hx hb hr (fun t9 ht9 hW9 => ⟨⟨_, σ, rfl, ⟨by rw [aMorn, wK_k hk (by omega), if_pos (by omega)], fun _ _ => rfl⟩, (by have h8 := hW.1; rw [← ht9] at h8; exact h8)⟩, hS.F ht9⟩) hS.2.2 dX3_mornings_26
        · skip
          have q_2 := tN_nlt k 1 c_2 rfl rfl (by omega) (by omega)
          refine lv_iload_n hx hb dX3_mornings_5 rfl (lv_at hl 1 rfl) ?_
          refine lv_bipush (v := 20) hx hb dX3_mornings_6 (by decide) ?_
          refine lv_icmp_gt (tgt := 24) hx hb dX3_mornings_8 (by decide) (fun c_8 => ?_) (fun c_8 => ?_)
          · skip
            exact absurd (tN_lt 20 k c_8 rfl rfl (by omega) (by omega)) (by omega)
          · skip
            have q_8 := tN_nlt 20 k c_8 rfl rfl (by omega) (by omega)
            refine lv_iload_n hx hb dX3_mornings_11 rfl (lv_at hl 2 rfl) ?_
            refine lv_if_lt (tgt := 24) hx hb dX3_mornings_12 (by decide) (fun c_12 => ?_) (fun c_12 => ?_)
            · skip
              refine lv_bipush (v := (-102)) hx hb dX3_mornings_24 (by decide) ?_
              exact W.iret (v := (-102)) hx hb hr (fun t9 ht9 hW9 => ⟨⟨_, σ, rfl, ⟨by rw [aMorn, wK_k hk (by omega), if_neg (by omega), if_pos c_12], fun _ _ => rfl⟩, (by have h8 := hW.1; rw [← ht9] at h8; exact h8)⟩, hS.F ht9⟩) hS.2.2 dX3_mornings_26
            · skip
              obtain ⟨m9, hm9, rfl⟩ := nneg c_12
              · skip
                have hl : lv_has ls 7 [(0, .ref (ga G 0)), (1, .int (nI k)), (2, .int (nI m9)), (3, .int 2)] := hl
                refine lv_iload_n hx hb dX3_mornings_15 rfl (lv_at hl 3 rfl) ?_
                refine lv_if_lt (tgt := 24) hx hb dX3_mornings_16 (by decide) (fun c_16 => ?_) (fun c_16 => ?_)
                · skip
                  exact absurd c_16 (by decide)
                · skip
                  refine lv_iload_n hx hb dX3_mornings_19 rfl (lv_at hl 3 rfl) ?_
                  refine lv_iconst (v := 2) hx hb dX3_mornings_20 (by decide) ?_
                  refine lv_icmp_le (tgt := 27) hx hb dX3_mornings_21 (by decide) (fun c_21 => ?_) (fun c_21 => ?_)
                  · skip
                    refine lv_aload_n hx hb dX3_mornings_27 rfl (lv_at hl 0 rfl) ?_
                    refine rd_X3_19 hx hb hown hW dX3_mornings_28 ?_
                    refine rd_X3_57 hx hb hown hW (show 0 < 2 by omega) dX3_mornings_31 ?_
                    refine lv_eqi (y := nI n) hg.1.1 ?_
                    refine lv_if_ne (tgt := 40) hx hb dX3_mornings_34 (by decide) (fun c_34 => ?_) (fun c_34 => ?_)
                    · skip
                      have q_34 := tN_ne n 0 c_34 rfl rfl (by omega) (by omega)
                      refine lv_iconst (v := 0) hx hb dX3_mornings_40 (by decide) ?_
                      refine lv_istore (lv' := [(4, .int 0), (0, .ref (ga G 0)), (1, .int (nI k)), (2, .int (nI m9)), (3, .int 2)]) hx hb dX3_mornings_41 hl (by decide) rfl (fun ls hl => ?_)
                      refine lv_iload_n hx hb dX3_mornings_43 rfl (lv_at hl 3 rfl) ?_
                      refine lv_istore (lv' := [(5, .int (nI m9)), (4, .int 0), (0, .ref (ga G 0)), (1, .int (nI k)), (2, .int (nI m9)), (3, .int 2)]) hx hb dX3_mornings_44 hl (by decide) rfl (fun ls hl => ?_)
                      refine lv_iconst (v := 0) hx hb dX3_mornings_46 (by decide) ?_
                      refine lv_istore (lv' := [(6, .int 0), (5, .int (nI m9)), (4, .int 0), (0, .ref (ga G 0)), (1, .int (nI k)), (2, .int (nI m9)), (3, .int 2)]) hx hb dX3_mornings_47 hl (by decide) rfl (fun ls hl => ?_)
                      have loop_49 : ∀ (N9 : Nat) (j : Nat) (to : Int32) (se : Int32) (mo : Int32) (σw : St) (H : Heap) (locs : List Loc), k - j < N9 → to = nI (mtN S n m9 j) → se = nI (msN n m9 j) → mo = nI j → j ≤ k → WX G σw s H → va_S (aX G) s.heap H locs → ((∀ a, a ≠ 3 → σw a = σ a)) → ∀ ls : Array Slot, lv_has ls 7 [(4, .int to), (5, .int se), (6, .int mo), (0, .ref (ga G 0)), (1, .int (nI k)), (2, .int (nI m9)), (3, .int 2)] → W p l e (headSpec (w1 yX3_mornings cX3_mornings 7 (some .int)) ({ frames := 3, cells := 0, slots := 0, locals := 73 })).room s m [.ref (ga G 0), .int (nI k), .int (nI m9), .int 2].toArray below meth c H locs 0 0 (MQ below (QiX G (fun r σ9 => r = aMorn n S (nI k) (nI m9) (nI 2) ∧ ∀ a, a ≠ 3 → σ9 a = σ a)) [.ref (ga G 0), .int (nI k), .int (nI m9), .int 2].toArray s 0 0 (aX G)) (F0 m 49 ls []) := by
                        intro N9
                        induction N9 with
                        | zero => intro j to se mo σw H locs hN; exact absurd hN (Nat.not_lt_zero _)
                        | succ N9 ih =>
                          intro j to se mo σw H locs hN e_to e_se e_mo hi0_49 hW hS hw0_49 ls hl
                          subst e_to
                          subst e_se
                          subst e_mo
                          have ih_49 := ih
                          have hgw := hg.keep1 (by omega) (fun a ha => hw0_49 a (by unfold OutH at ha; omega))
                          refine lv_iload hx hb dX3_mornings_49 (lv_at hl 2 rfl) ?_
                          refine lv_iload_n hx hb dX3_mornings_51 rfl (lv_at hl 4 rfl) ?_
                          refine lv_icmp_ge (tgt := 85) hx hb dX3_mornings_52 (by decide) (fun c_52 => ?_) (fun c_52 => ?_)
                          · skip
                            have q_52 := tN_le k j c_52 rfl rfl (by omega) (by omega)
                            refine lv_iload_n hx hb dX3_mornings_85 rfl (lv_at hl 6 rfl) ?_
                            refine lv_lookup (off := 40) (tgt := 126) hx hb dX3_mornings_86 rfl rfl (by decide) ?_
                            refine lv_iload hx hb dX3_mornings_126 (lv_at hl 1 rfl) ?_
                            exact W.iret (v := nI (msN n m9 j)) hx hb hr (fun t9 ht9 hW9 => ⟨⟨_, σw, rfl, ⟨(by have h9 : j = k := (by omega); subst h9; rw [aMorn, wK_k hk (by omega), if_neg (by omega), if_neg c_12, wK_k (by omega) (by omega), nI_clamp hm9, moA, if_neg q_34, if_neg (by omega), if_neg (by omega)]), hw0_49⟩, (by have h8 := hW.1; rw [← ht9] at h8; exact h8)⟩, hS.F ht9⟩) hS.2.2 dX3_mornings_128
                          · skip
                            have q_52 := tN_nle k j c_52 rfl rfl (by omega) (by omega)
                            refine lv_aload_n hx hb dX3_mornings_55 rfl (lv_at hl 3 rfl) ?_
                            refine lv_iload hx hb dX3_mornings_56 (lv_at hl 1 rfl) ?_
                            refine cw_i (q := 499) [.int (nI (msN n m9 j))] hx hb hml hown hW.2 hS v_X3_drawLateness (by decide +kernel) (c_X3_drawLateness l G σw n S q V ch hgw (msN n m9 j) (msN_lt hm9 j)) (preX hW _) rfl hl.1 (Nat.le_of_ble_eq_true rfl) dX3_mornings_58 ⟨rfl, rfl, Nat.le_of_ble_eq_true rfl, Nat.le_of_ble_eq_true rfl⟩ ⟨Nat.le_of_ble_eq_true rfl, Nat.le_of_ble_eq_true rfl⟩ (fun r_58 σ3 H locs hσ3 hW hS => ?_)
                            obtain ⟨hr1, hd1, hf1⟩ := hσ3
                            subst hr1
                            have hg1 := hgw.keep1 (by omega) (fun a ha => hf1 a (by unfold OutH at ha; omega))
                            refine lv_istore (lv' := [(5, .int (nI (sdN (msN n m9 j) n))), (4, .int (nI (mtN S n m9 j))), (6, .int (nI j)), (0, .ref (ga G 0)), (1, .int (nI k)), (2, .int (nI m9)), (3, .int 2)]) hx hb dX3_mornings_61 hl (by decide) rfl (fun ls hl => ?_)
                            refine lv_iload hx hb dX3_mornings_63 (lv_at hl 1 rfl) ?_
                            refine lv_aload_n hx hb dX3_mornings_65 rfl (lv_at hl 3 rfl) ?_
                            refine rd_X3_19 hx hb hown hW dX3_mornings_66 ?_
                            refine lv_aload_n hx hb dX3_mornings_69 rfl (lv_at hl 3 rfl) ?_
                            refine rd_X3_26 hx hb hown hW dX3_mornings_70 ?_
                            refine cr_i (q := 506) [.ref (ga G 3)] hx hb hml hown hG v_X0_meetings (by decide +kernel) (c_X0_meetings l G σ3 0 (by omega) n S q V ch hg1 3 ⟨by omega, fun r => rfl⟩ (dlN (msN n m9 j)) (fun k9 hk9 => ⟨hd1 k9 hk9, dlN_le _ _⟩)) (preH hW (show 0 < 2 by omega) _) rfl hl.1 (Nat.le_of_ble_eq_true rfl) dX3_mornings_73 ⟨rfl, rfl, Nat.le_of_ble_eq_true rfl, Nat.le_of_ble_eq_true rfl⟩ ⟨Nat.le_of_ble_eq_true rfl, Nat.le_of_ble_eq_true rfl⟩ ?_
                            refine ln_add (mtN S n m9 j) (ouN (meL S (dlN (msN n m9 j))) n n) hx hb rfl rfl dX3_mornings_76 ?_
                            refine lv_istore (lv' := [(4, .int (nI ((mtN S n m9 j) + (ouN (meL S (dlN (msN n m9 j))) n n)))), (5, .int (nI (sdN (msN n m9 j) n))), (6, .int (nI j)), (0, .ref (ga G 0)), (1, .int (nI k)), (2, .int (nI m9)), (3, .int 2)]) hx hb dX3_mornings_77 hl (by decide) rfl (fun ls hl => ?_)
                            refine lv_iinc (v := nI (j + 1)) (lv' := [(6, .int (nI (j + 1))), (4, .int (nI ((mtN S n m9 j) + (ouN (meL S (dlN (msN n m9 j))) n n)))), (5, .int (nI (sdN (msN n m9 j) n))), (0, .ref (ga G 0)), (1, .int (nI k)), (2, .int (nI m9)), (3, .int 2)]) hx hb dX3_mornings_79 hl (k := 2) rfl (inc1 j) (by decide) rfl (fun ls hl => ?_)
                            refine lv_goto (tgt := 49) hx hb dX3_mornings_82 (by decide) ?_
                            exact ih_49 (j + 1) _ _ _ _ _ _ (by omega) rfl rfl rfl (by omega) hW hS (fun a ha => (hf1 a ha).trans (hw0_49 a ha)) ls (lv_sub hl [1, 2, 0, 3, 4, 5, 6] rfl)
                      exact loop_49 _ 0 _ _ _ _ _ _ (Nat.lt_succ_self _) rfl rfl rfl (by omega) hW hS (fun _ _ => rfl) ls (lv_sub hl [2, 1, 0, 3, 4, 5, 6] rfl)
                    · skip
                      have q_34 := tN_eq n 0 c_34 rfl rfl (by omega) (by omega)
                      refine lv_bipush (v := (-103)) hx hb dX3_mornings_37 (by decide) ?_
                      exact W.iret (v := (-103)) hx hb hr (fun t9 ht9 hW9 => ⟨⟨_, σ, rfl, ⟨by rw [aMorn, wK_k hk (by omega), if_neg (by omega), if_neg c_12, wK_k (by omega) (by omega), nI_clamp hm9, moA, if_pos q_34], fun _ _ => rfl⟩, (by have h8 := hW.1; rw [← ht9] at h8; exact h8)⟩, hS.F ht9⟩) hS.2.2 dX3_mornings_39
                  · skip
                    exact absurd (by decide) c_21
set_option maxHeartbeats 4000000 in
set_option maxRecDepth 100000 in
theorem c_X3_withStick (l : Launch) (G : Gam) (σ : St) (n : Nat) (S : Nat → Sk) (q : Nat) (V : Nat → Nat) (ch : Int32) (hg : GH σ 0 n S q V ch) (h0 : Int64) (k : Nat) (hk : k < n) : Met l yX3_withStick (w1 yX3_withStick cX3_withStick 7 (some .long)) ({ frames := 4, cells := 0, slots := 0, locals := 90 }) (PcX G σ [.ref (ga G 0), .long h0, .int (nI k)]) (vp_Sl (fun r => r = wsH (S k) h0)) 0 0 (fun _ => False) := by
  refine met_of [.ref (ga G 0), .long h0, .int (nI k)] [(0, .ref (ga G 0)), (1, .long h0), (3, .int (nI k))] (by decide) (Nat.le_of_ble_eq_true rfl) rfl ?_
  intro p e s m below meth c hx hb hr hown hml hlocks hW ls hl
  have hG : GW s := hW.2.2.2.1
  have hn6 := hg.1.2
  have hq8 := hg.2.2.1.2
  refine lv_lload_n hx hb dX3_withStick_0 rfl (lv_at hl 1 rfl) ?_
  refine lv_lstore (lv' := [(4, .long h0), (0, .ref (ga G 0)), (1, .long h0), (3, .int (nI k))]) hx hb dX3_withStick_1 hl (by decide) rfl (fun ls hl => ?_)
  refine lv_iconst (v := 0) hx hb dX3_withStick_3 (by decide) ?_
  refine lv_istore (lv' := [(6, .int 0), (4, .long h0), (0, .ref (ga G 0)), (1, .long h0), (3, .int (nI k))]) hx hb dX3_withStick_4 hl (by decide) rfl (fun ls hl => ?_)
  have loop_6 : ∀ (N9 : Nat) (i : Nat) (h4 : Int64) (io : Int32), 7 - i < N9 → h4 = f7 (tellN (S k)) h0 i → io = nI i → i ≤ 7 → ∀ ls : Array Slot, lv_has ls 7 [(4, .long h4), (6, .int io), (0, .ref (ga G 0)), (1, .long h0), (3, .int (nI k))] → W p l e (headSpec (w1 yX3_withStick cX3_withStick 7 (some .long)) ({ frames := 4, cells := 0, slots := 0, locals := 90 })).room s m [.ref (ga G 0), .long h0, .int (nI k)].toArray below meth c s.heap [] 0 0 (MQ below (vp_Sl (fun r => r = wsH (S k) h0)) [.ref (ga G 0), .long h0, .int (nI k)].toArray s 0 0 (fun _ => False)) (F0 m 6 ls []) := by
    intro N9
    induction N9 with
    | zero => intro i h4 io hN; exact absurd hN (Nat.not_lt_zero _)
    | succ N9 ih =>
      intro i h4 io hN e_h4 e_io hi0_6 ls hl
      subst e_h4
      subst e_io
      have ih_6 := ih
      refine lv_iload hx hb dX3_withStick_6 (lv_at hl 1 rfl) ?_
      refine lv_bipush (v := 6) hx hb dX3_withStick_8 (by decide) ?_
      refine lv_icmp_gt (tgt := 34) hx hb dX3_withStick_10 (by decide) (fun c_10 => ?_) (fun c_10 => ?_)
      · skip
        have q_10 := tN_lt 6 i c_10 rfl rfl (by omega) (by omega)
        refine lv_iconst (v := 0) hx hb dX3_withStick_34 (by decide) ?_
        refine lv_istore (lv' := [(6, .int 0), (4, .long (f7 (tellN (S k)) h0 i)), (0, .ref (ga G 0)), (1, .long h0), (3, .int (nI k))]) hx hb dX3_withStick_35 hl (by decide) rfl (fun ls hl => ?_)
        have loop_37 : ∀ (N9 : Nat) (j : Nat) (h4 : Int64) (jo : Int32), 5 - j < N9 → h4 = f7 (fun j => tellN (S k) (10 + j)) (f7 (tellN (S k)) h0 7) j → jo = nI j → j ≤ 5 → ∀ ls : Array Slot, lv_has ls 7 [(4, .long h4), (6, .int jo), (0, .ref (ga G 0)), (1, .long h0), (3, .int (nI k))] → W p l e (headSpec (w1 yX3_withStick cX3_withStick 7 (some .long)) ({ frames := 4, cells := 0, slots := 0, locals := 90 })).room s m [.ref (ga G 0), .long h0, .int (nI k)].toArray below meth c s.heap [] 0 0 (MQ below (vp_Sl (fun r => r = wsH (S k) h0)) [.ref (ga G 0), .long h0, .int (nI k)].toArray s 0 0 (fun _ => False)) (F0 m 37 ls []) := by
          intro N9
          induction N9 with
          | zero => intro j h4 jo hN; exact absurd hN (Nat.not_lt_zero _)
          | succ N9 ih =>
            intro j h4 jo hN e_h4 e_jo hi0_37 ls hl
            subst e_h4
            subst e_jo
            have ih_37 := ih
            refine lv_iload hx hb dX3_withStick_37 (lv_at hl 1 rfl) ?_
            refine lv_iconst (v := 5) hx hb dX3_withStick_39 (by decide) ?_
            refine lv_icmp_ge (tgt := 67) hx hb dX3_withStick_40 (by decide) (fun c_40 => ?_) (fun c_40 => ?_)
            · skip
              have q_40 := tN_le 5 j c_40 rfl rfl (by omega) (by omega)
              refine lv_lload hx hb dX3_withStick_67 (lv_at hl 0 rfl) ?_
              refine lv_aload_n hx hb dX3_withStick_69 rfl (lv_at hl 2 rfl) ?_
              refine lv_iload_n hx hb dX3_withStick_70 rfl (lv_at hl 4 rfl) ?_
              refine lv_iconst (v := 1) hx hb dX3_withStick_71 (by decide) ?_
              refine cr_i (q := 557) [.int (nI k), .int 1] hx hb hml hown hG v_X3_at (by decide +kernel) (c_X3_at l G σ n S q V ch hg (nI k) (nI 1)) (preX hW _) rfl hl.1 (Nat.le_of_ble_eq_true rfl) dX3_withStick_72 ⟨rfl, rfl, Nat.le_of_ble_eq_true rfl, Nat.le_of_ble_eq_true rfl⟩ ⟨Nat.le_of_ble_eq_true rfl, Nat.le_of_ble_eq_true rfl⟩ ?_
              refine lv_eqi (y := nI (atN (S k) 1)) (aAt_k hk hn6 (by omega)) ?_
              refine lv_i2l hx hb dX3_withStick_75 rfl ?_
              refine cs_l (q := 553) [.long (f7 (fun j => tellN (S k) (10 + j)) (f7 (tellN (S k)) h0 7) j), .long ((nI (atN (S k) 1) : Int32).toInt64)] hx hb hml hown hG v_X3_with (by decide +kernel) (c_X3_with l (f7 (fun j => tellN (S k) (10 + j)) (f7 (tellN (S k)) h0 7) j) ((nI (atN (S k) 1)).toInt64)) (preG hG _) rfl hl.1 (Nat.le_of_ble_eq_true rfl) dX3_withStick_76 ⟨rfl, rfl, Nat.le_of_ble_eq_true rfl, Nat.le_of_ble_eq_true rfl⟩ ⟨Nat.le_of_ble_eq_true rfl, Nat.le_of_ble_eq_true rfl⟩ ?_
              refine lv_lstore (lv' := [(4, .long (sayL (f7 (fun j => tellN (S k) (10 + j)) (f7 (tellN (S k)) h0 7) j) (nI (atN (S k) 1)))), (6, .int (nI j)), (0, .ref (ga G 0)), (1, .long h0), (3, .int (nI k))]) hx hb dX3_withStick_79 hl (by decide) rfl (fun ls hl => ?_)
              refine lv_lload hx hb dX3_withStick_81 (lv_at hl 0 rfl) ?_
              refine lv_aload_n hx hb dX3_withStick_83 rfl (lv_at hl 2 rfl) ?_
              refine lv_iload_n hx hb dX3_withStick_84 rfl (lv_at hl 4 rfl) ?_
              refine lv_iconst (v := 5) hx hb dX3_withStick_85 (by decide) ?_
              refine cr_i (q := 557) [.int (nI k), .int 5] hx hb hml hown hG v_X3_at (by decide +kernel) (c_X3_at l G σ n S q V ch hg (nI k) (nI 5)) (preX hW _) rfl hl.1 (Nat.le_of_ble_eq_true rfl) dX3_withStick_86 ⟨rfl, rfl, Nat.le_of_ble_eq_true rfl, Nat.le_of_ble_eq_true rfl⟩ ⟨Nat.le_of_ble_eq_true rfl, Nat.le_of_ble_eq_true rfl⟩ ?_
              refine lv_eqi (y := nI (atN (S k) 5)) (aAt_k hk hn6 (by omega)) ?_
              refine lv_i2l hx hb dX3_withStick_89 rfl ?_
              refine cs_l (q := 553) [.long (sayL (f7 (fun j => tellN (S k) (10 + j)) (f7 (tellN (S k)) h0 7) j) (nI (atN (S k) 1))), .long ((nI (atN (S k) 5) : Int32).toInt64)] hx hb hml hown hG v_X3_with (by decide +kernel) (c_X3_with l (sayL (f7 (fun j => tellN (S k) (10 + j)) (f7 (tellN (S k)) h0 7) j) (nI (atN (S k) 1))) ((nI (atN (S k) 5)).toInt64)) (preG hG _) rfl hl.1 (Nat.le_of_ble_eq_true rfl) dX3_withStick_90 ⟨rfl, rfl, Nat.le_of_ble_eq_true rfl, Nat.le_of_ble_eq_true rfl⟩ ⟨Nat.le_of_ble_eq_true rfl, Nat.le_of_ble_eq_true rfl⟩ ?_
              refine lv_lstore (lv' := [(4, .long (sayL (sayL (f7 (fun j => tellN (S k) (10 + j)) (f7 (tellN (S k)) h0 7) j) (nI (atN (S k) 1))) (nI (atN (S k) 5)))), (6, .int (nI j)), (0, .ref (ga G 0)), (1, .long h0), (3, .int (nI k))]) hx hb dX3_withStick_93 hl (by decide) rfl (fun ls hl => ?_)
              refine lv_lload hx hb dX3_withStick_95 (lv_at hl 0 rfl) ?_
              refine lv_aload_n hx hb dX3_withStick_97 rfl (lv_at hl 2 rfl) ?_
              refine lv_iload_n hx hb dX3_withStick_98 rfl (lv_at hl 4 rfl) ?_
              refine lv_bipush (v := 30) hx hb dX3_withStick_99 (by decide) ?_
              refine cr_i (q := 557) [.int (nI k), .int 30] hx hb hml hown hG v_X3_at (by decide +kernel) (c_X3_at l G σ n S q V ch hg (nI k) (nI 30)) (preX hW _) rfl hl.1 (Nat.le_of_ble_eq_true rfl) dX3_withStick_101 ⟨rfl, rfl, Nat.le_of_ble_eq_true rfl, Nat.le_of_ble_eq_true rfl⟩ ⟨Nat.le_of_ble_eq_true rfl, Nat.le_of_ble_eq_true rfl⟩ ?_
              refine lv_eqi (y := nI (atN (S k) 30)) (aAt_k hk hn6 (by omega)) ?_
              refine lv_i2l hx hb dX3_withStick_104 rfl ?_
              refine cs_l (q := 553) [.long (sayL (sayL (f7 (fun j => tellN (S k) (10 + j)) (f7 (tellN (S k)) h0 7) j) (nI (atN (S k) 1))) (nI (atN (S k) 5))), .long ((nI (atN (S k) 30) : Int32).toInt64)] hx hb hml hown hG v_X3_with (by decide +kernel) (c_X3_with l (sayL (sayL (f7 (fun j => tellN (S k) (10 + j)) (f7 (tellN (S k)) h0 7) j) (nI (atN (S k) 1))) (nI (atN (S k) 5))) ((nI (atN (S k) 30)).toInt64)) (preG hG _) rfl hl.1 (Nat.le_of_ble_eq_true rfl) dX3_withStick_105 ⟨rfl, rfl, Nat.le_of_ble_eq_true rfl, Nat.le_of_ble_eq_true rfl⟩ ⟨Nat.le_of_ble_eq_true rfl, Nat.le_of_ble_eq_true rfl⟩ ?_
              refine lv_lstore (lv' := [(4, .long (sayL (sayL (sayL (f7 (fun j => tellN (S k) (10 + j)) (f7 (tellN (S k)) h0 7) j) (nI (atN (S k) 1))) (nI (atN (S k) 5))) (nI (atN (S k) 30)))), (6, .int (nI j)), (0, .ref (ga G 0)), (1, .long h0), (3, .int (nI k))]) hx hb dX3_withStick_108 hl (by decide) rfl (fun ls hl => ?_)
              refine lv_lload hx hb dX3_withStick_110 (lv_at hl 0 rfl) ?_
              refine lv_aload_n hx hb dX3_withStick_112 rfl (lv_at hl 2 rfl) ?_
              refine lv_iconst (v := 0) hx hb dX3_withStick_113 (by decide) ?_
              refine lv_iload_n hx hb dX3_withStick_114 rfl (lv_at hl 4 rfl) ?_
              refine cr_i (q := 558) [.int 0, .int (nI k)] hx hb hml hown hG v_X3_catches (by decide +kernel) (c_X3_catches l G σ n S q V ch hg (nI 0) (nI k)) (preX hW _) rfl hl.1 (Nat.le_of_ble_eq_true rfl) dX3_withStick_115 ⟨rfl, rfl, Nat.le_of_ble_eq_true rfl, Nat.le_of_ble_eq_true rfl⟩ ⟨Nat.le_of_ble_eq_true rfl, Nat.le_of_ble_eq_true rfl⟩ ?_
              refine lv_eqi (y := nI (catN (atN (S k)) 0)) (aCatch_k hk hn6 (by omega)) ?_
              refine lv_i2l hx hb dX3_withStick_118 rfl ?_
              refine cs_l (q := 553) [.long (sayL (sayL (sayL (f7 (fun j => tellN (S k) (10 + j)) (f7 (tellN (S k)) h0 7) j) (nI (atN (S k) 1))) (nI (atN (S k) 5))) (nI (atN (S k) 30))), .long ((nI (catN (atN (S k)) 0) : Int32).toInt64)] hx hb hml hown hG v_X3_with (by decide +kernel) (c_X3_with l (sayL (sayL (sayL (f7 (fun j => tellN (S k) (10 + j)) (f7 (tellN (S k)) h0 7) j) (nI (atN (S k) 1))) (nI (atN (S k) 5))) (nI (atN (S k) 30))) ((nI (catN (atN (S k)) 0)).toInt64)) (preG hG _) rfl hl.1 (Nat.le_of_ble_eq_true rfl) dX3_withStick_119 ⟨rfl, rfl, Nat.le_of_ble_eq_true rfl, Nat.le_of_ble_eq_true rfl⟩ ⟨Nat.le_of_ble_eq_true rfl, Nat.le_of_ble_eq_true rfl⟩ ?_
              exact W.lret (v := sayL (sayL (sayL (sayL (f7 (fun j => tellN (S k) (10 + j)) (f7 (tellN (S k)) h0 7) j) (nI (atN (S k) 1))) (nI (atN (S k) 5))) (nI (atN (S k) 30))) (nI (catN (atN (S k)) 0))) hx hb hr (fun t9 ht9 hW9 => ⟨_, rfl, (by have h9 : j = 5 := (by omega); subst h9; rfl), ht9⟩) (fun q h => by cases h) dX3_withStick_122
            · skip
              have q_40 := tN_nle 5 j c_40 rfl rfl (by omega) (by omega)
              refine lv_lload hx hb dX3_withStick_43 (lv_at hl 0 rfl) ?_
              refine lv_aload_n hx hb dX3_withStick_45 rfl (lv_at hl 2 rfl) ?_
              refine lv_iload_n hx hb dX3_withStick_46 rfl (lv_at hl 4 rfl) ?_
              refine lv_bipush (v := 10) hx hb dX3_withStick_47 (by decide) ?_
              refine lv_iload hx hb dX3_withStick_49 (lv_at hl 1 rfl) ?_
              refine ln_add 10 j hx hb rfl rfl dX3_withStick_51 ?_
              refine cr_i (q := 552) [.int (nI k), .int (nI (10 + j))] hx hb hml hown hG v_X3_stick (by decide +kernel) (c_X3_stick l G σ n S q V ch hg (nI k) (nI (10 + j))) (preX hW _) rfl hl.1 (Nat.le_of_ble_eq_true rfl) dX3_withStick_52 ⟨rfl, rfl, Nat.le_of_ble_eq_true rfl, Nat.le_of_ble_eq_true rfl⟩ ⟨Nat.le_of_ble_eq_true rfl, Nat.le_of_ble_eq_true rfl⟩ ?_
              refine lv_eqi (y := tellN (S k) (10 + j)) (aStick_k hk hn6 (by omega)) ?_
              refine lv_i2l hx hb dX3_withStick_55 rfl ?_
              refine cs_l (q := 553) [.long (f7 (fun j => tellN (S k) (10 + j)) (f7 (tellN (S k)) h0 7) j), .long ((tellN (S k) (10 + j) : Int32).toInt64)] hx hb hml hown hG v_X3_with (by decide +kernel) (c_X3_with l (f7 (fun j => tellN (S k) (10 + j)) (f7 (tellN (S k)) h0 7) j) ((tellN (S k) (10 + j)).toInt64)) (preG hG _) rfl hl.1 (Nat.le_of_ble_eq_true rfl) dX3_withStick_56 ⟨rfl, rfl, Nat.le_of_ble_eq_true rfl, Nat.le_of_ble_eq_true rfl⟩ ⟨Nat.le_of_ble_eq_true rfl, Nat.le_of_ble_eq_true rfl⟩ ?_
              refine lv_lstore (lv' := [(4, .long (sayL (f7 (fun j => tellN (S k) (10 + j)) (f7 (tellN (S k)) h0 7) j) (tellN (S k) (10 + j)))), (6, .int (nI j)), (0, .ref (ga G 0)), (1, .long h0), (3, .int (nI k))]) hx hb dX3_withStick_59 hl (by decide) rfl (fun ls hl => ?_)
              refine lv_iinc (v := nI (j + 1)) (lv' := [(6, .int (nI (j + 1))), (4, .long (sayL (f7 (fun j => tellN (S k) (10 + j)) (f7 (tellN (S k)) h0 7) j) (tellN (S k) (10 + j)))), (0, .ref (ga G 0)), (1, .long h0), (3, .int (nI k))]) hx hb dX3_withStick_61 hl (k := 1) rfl (inc1 j) (by decide) rfl (fun ls hl => ?_)
              refine lv_goto (tgt := 37) hx hb dX3_withStick_64 (by decide) ?_
              exact ih_37 (j + 1) _ _ (by omega) rfl rfl (by omega) ls (lv_sub hl [1, 0, 2, 3, 4] rfl)
        exact loop_37 _ 0 _ _ (Nat.lt_succ_self _) (by have h9 : i = 7 := (by omega); subst h9; rfl) rfl (by omega) ls (lv_sub hl [1, 0, 2, 3, 4] rfl)
      · skip
        have q_10 := tN_nlt 6 i c_10 rfl rfl (by omega) (by omega)
        refine lv_lload hx hb dX3_withStick_13 (lv_at hl 0 rfl) ?_
        refine lv_aload_n hx hb dX3_withStick_15 rfl (lv_at hl 2 rfl) ?_
        refine lv_iload_n hx hb dX3_withStick_16 rfl (lv_at hl 4 rfl) ?_
        refine lv_iload hx hb dX3_withStick_17 (lv_at hl 1 rfl) ?_
        refine cr_i (q := 552) [.int (nI k), .int (nI i)] hx hb hml hown hG v_X3_stick (by decide +kernel) (c_X3_stick l G σ n S q V ch hg (nI k) (nI (i))) (preX hW _) rfl hl.1 (Nat.le_of_ble_eq_true rfl) dX3_withStick_19 ⟨rfl, rfl, Nat.le_of_ble_eq_true rfl, Nat.le_of_ble_eq_true rfl⟩ ⟨Nat.le_of_ble_eq_true rfl, Nat.le_of_ble_eq_true rfl⟩ ?_
        refine lv_eqi (y := tellN (S k) i) (aStick_k hk hn6 (by omega)) ?_
        refine lv_i2l hx hb dX3_withStick_22 rfl ?_
        refine cs_l (q := 553) [.long (f7 (tellN (S k)) h0 i), .long ((tellN (S k) i : Int32).toInt64)] hx hb hml hown hG v_X3_with (by decide +kernel) (c_X3_with l (f7 (tellN (S k)) h0 i) ((tellN (S k) i).toInt64)) (preG hG _) rfl hl.1 (Nat.le_of_ble_eq_true rfl) dX3_withStick_23 ⟨rfl, rfl, Nat.le_of_ble_eq_true rfl, Nat.le_of_ble_eq_true rfl⟩ ⟨Nat.le_of_ble_eq_true rfl, Nat.le_of_ble_eq_true rfl⟩ ?_
        refine lv_lstore (lv' := [(4, .long (sayL (f7 (tellN (S k)) h0 i) (tellN (S k) i))), (6, .int (nI i)), (0, .ref (ga G 0)), (1, .long h0), (3, .int (nI k))]) hx hb dX3_withStick_26 hl (by decide) rfl (fun ls hl => ?_)
        refine lv_iinc (v := nI (i + 1)) (lv' := [(6, .int (nI (i + 1))), (4, .long (sayL (f7 (tellN (S k)) h0 i) (tellN (S k) i))), (0, .ref (ga G 0)), (1, .long h0), (3, .int (nI k))]) hx hb dX3_withStick_28 hl (k := 1) rfl (inc1 i) (by decide) rfl (fun ls hl => ?_)
        refine lv_goto (tgt := 6) hx hb dX3_withStick_31 (by decide) ?_
        exact ih_6 (i + 1) _ _ (by omega) rfl rfl (by omega) ls (lv_sub hl [1, 0, 2, 3, 4] rfl)
  exact loop_6 _ 0 _ _ (Nat.lt_succ_self _) rfl rfl (by omega) ls (lv_sub hl [1, 0, 2, 3, 4] rfl)
set_option maxHeartbeats 4000000 in
set_option maxRecDepth 100000 in
theorem c_X3_digest (l : Launch) (G : Gam) (σ : St) (n : Nat) (S : Nat → Sk) (q : Nat) (V : Nat → Nat) (ch : Int32) (hg : GH σ 0 n S q V ch) (pn : Nat) (P : Nat → Nat) (hp : PG σ pn P) (rd : Int32) (hrd : σ 0 5 = rd) : Met l yX3_digest (w1 yX3_digest cX3_digest 4 (some .long)) ({ frames := 6, cells := 0, slots := 0, locals := 140 }) (PcX G σ [.ref (ga G 0)]) (vp_Sl (fun r => r = dgA n S q V ch pn P rd)) 0 0 (fun _ => False) := by
  refine met_of [.ref (ga G 0)] [(0, .ref (ga G 0))] (by decide) (Nat.le_of_ble_eq_true rfl) rfl ?_
  intro p e s m below meth c hx hb hr hown hml hlocks hW ls hl
  have hG : GW s := hW.2.2.2.1
  have hn6 := hg.1.2
  have hq8 := hg.2.2.1.2
  have hp32 := hp.1.2
  refine lv_ldc2 (v := 1049) hx hb hown (hG.use (i := 547) (by decide +kernel) rfl _) dX3_digest_0 ?_
  refine lv_lstore_n (lv' := [(1, .long 1049), (0, .ref (ga G 0))]) hx hb dX3_digest_3 rfl hl (by decide) rfl (fun ls hl => ?_)
  refine lv_iconst (v := 0) hx hb dX3_digest_4 (by decide) ?_
  refine lv_istore_n (lv' := [(3, .int 0), (1, .long 1049), (0, .ref (ga G 0))]) hx hb dX3_digest_5 rfl hl (by decide) rfl (fun ls hl => ?_)
  have loop_6 : ∀ (N9 : Nat) (i : Nat) (h4 : Int64) (io : Int32), n - i < N9 → h4 = dgS S i → io = nI i → i ≤ n → ∀ ls : Array Slot, lv_has ls 4 [(1, .long h4), (3, .int io), (0, .ref (ga G 0))] → W p l e (headSpec (w1 yX3_digest cX3_digest 4 (some .long)) ({ frames := 6, cells := 0, slots := 0, locals := 140 })).room s m [.ref (ga G 0)].toArray below meth c s.heap [] 0 0 (MQ below (vp_Sl (fun r => r = dgA n S q V ch pn P rd)) [.ref (ga G 0)].toArray s 0 0 (fun _ => False)) (F0 m 6 ls []) := by
    intro N9
    induction N9 with
    | zero => intro i h4 io hN; exact absurd hN (Nat.not_lt_zero _)
    | succ N9 ih =>
      intro i h4 io hN e_h4 e_io hi0_6 ls hl
      subst e_h4
      subst e_io
      have ih_6 := ih
      refine lv_iload_n hx hb dX3_digest_6 rfl (lv_at hl 1 rfl) ?_
      refine lv_aload_n hx hb dX3_digest_7 rfl (lv_at hl 2 rfl) ?_
      refine rd_X3_19 hx hb hown hW dX3_digest_8 ?_
      refine rd_X3_57 hx hb hown hW (show 0 < 2 by omega) dX3_digest_11 ?_
      refine lv_eqi (y := nI n) hg.1.1 ?_
      refine lv_icmp_ge (tgt := 30) hx hb dX3_digest_14 (by decide) (fun c_14 => ?_) (fun c_14 => ?_)
      · skip
        have q_14 := tN_le n i c_14 rfl rfl (by omega) (by omega)
        refine lv_aload_n hx hb dX3_digest_30 rfl (lv_at hl 2 rfl) ?_
        refine rd_X3_19 hx hb hown hW dX3_digest_31 ?_
        refine rd_X3_57 hx hb hown hW (show 0 < 2 by omega) dX3_digest_34 ?_
        refine lv_eqi (y := nI n) hg.1.1 ?_
        refine lv_if_le (tgt := 87) hx hb dX3_digest_37 (by decide) (fun c_37 => ?_) (fun c_37 => ?_)
        · skip
          have q_37 := tN_le n 0 c_37 rfl rfl (by omega) (by omega)
          refine lv_iconst (v := 0) hx hb dX3_digest_87 (by decide) ?_
          refine lv_istore_n (lv' := [(3, .int 0), (1, .long (dgS S i)), (0, .ref (ga G 0))]) hx hb dX3_digest_88 rfl hl (by decide) rfl (fun ls hl => ?_)
          have loop_89 : ∀ (N9 : Nat) (j : Nat) (h4 : Int64) (jo : Int32), pn - j < N9 → h4 = f7 (fun i => nI (P i)) (dgB n S q V) j → jo = nI j → j ≤ pn → ∀ ls : Array Slot, lv_has ls 4 [(1, .long h4), (3, .int jo), (0, .ref (ga G 0))] → W p l e (headSpec (w1 yX3_digest cX3_digest 4 (some .long)) ({ frames := 6, cells := 0, slots := 0, locals := 140 })).room s m [.ref (ga G 0)].toArray below meth c s.heap [] 0 0 (MQ below (vp_Sl (fun r => r = dgA n S q V ch pn P rd)) [.ref (ga G 0)].toArray s 0 0 (fun _ => False)) (F0 m 89 ls []) := by
            intro N9
            induction N9 with
            | zero => intro j h4 jo hN; exact absurd hN (Nat.not_lt_zero _)
            | succ N9 ih =>
              intro j h4 jo hN e_h4 e_jo hi0_89 ls hl
              subst e_h4
              subst e_jo
              have ih_89 := ih
              refine lv_iload_n hx hb dX3_digest_89 rfl (lv_at hl 1 rfl) ?_
              refine lv_aload_n hx hb dX3_digest_90 rfl (lv_at hl 2 rfl) ?_
              refine rd_X3_10 hx hb hown hW dX3_digest_91 ?_
              refine rd_X3_42 hx hb hown hW dX3_digest_94 ?_
              refine lv_eqi (y := nI pn) hp.1.1 ?_
              refine lv_icmp_ge (tgt := 121) hx hb dX3_digest_97 (by decide) (fun c_97 => ?_) (fun c_97 => ?_)
              · skip
                have q_97 := tN_le pn j c_97 rfl rfl (by omega) (by omega)
                refine lv_iconst (v := 0) hx hb dX3_digest_121 (by decide) ?_
                refine lv_istore_n (lv' := [(3, .int 0), (1, .long (f7 (fun i => nI (P i)) (dgB n S q V) j)), (0, .ref (ga G 0))]) hx hb dX3_digest_122 rfl hl (by decide) rfl (fun ls hl => ?_)
                have loop_123 : ∀ (N9 : Nat) (u : Nat) (h4 : Int64) (uo : Int32), 8 - u < N9 → h4 = f7 (cntN n S q ch pn rd) (f7 (fun i => nI (P i)) (dgB n S q V) pn) u → uo = nI u → u ≤ 8 → ∀ ls : Array Slot, lv_has ls 4 [(1, .long h4), (3, .int uo), (0, .ref (ga G 0))] → W p l e (headSpec (w1 yX3_digest cX3_digest 4 (some .long)) ({ frames := 6, cells := 0, slots := 0, locals := 140 })).room s m [.ref (ga G 0)].toArray below meth c s.heap [] 0 0 (MQ below (vp_Sl (fun r => r = dgA n S q V ch pn P rd)) [.ref (ga G 0)].toArray s 0 0 (fun _ => False)) (F0 m 123 ls []) := by
                  intro N9
                  induction N9 with
                  | zero => intro u h4 uo hN; exact absurd hN (Nat.not_lt_zero _)
                  | succ N9 ih =>
                    intro u h4 uo hN e_h4 e_uo hi0_123 ls hl
                    subst e_h4
                    subst e_uo
                    have ih_123 := ih
                    refine lv_iload_n hx hb dX3_digest_123 rfl (lv_at hl 1 rfl) ?_
                    refine lv_bipush (v := 8) hx hb dX3_digest_124 (by decide) ?_
                    refine lv_icmp_ge (tgt := 146) hx hb dX3_digest_126 (by decide) (fun c_126 => ?_) (fun c_126 => ?_)
                    · skip
                      have q_126 := tN_le 8 u c_126 rfl rfl (by omega) (by omega)
                      refine lv_lload_n hx hb dX3_digest_146 rfl (lv_at hl 0 rfl) ?_
                      exact W.lret (v := f7 (cntN n S q ch pn rd) (f7 (fun i => nI (P i)) (dgB n S q V) pn) u) hx hb hr (fun t9 ht9 hW9 => ⟨_, rfl, (by have h9 : u = 8 := (by omega); subst h9; rfl), ht9⟩) (fun q h => by cases h) dX3_digest_147
                    · skip
                      have q_126 := tN_nle 8 u c_126 rfl rfl (by omega) (by omega)
                      refine lv_lload_n hx hb dX3_digest_129 rfl (lv_at hl 0 rfl) ?_
                      refine lv_aload_n hx hb dX3_digest_130 rfl (lv_at hl 2 rfl) ?_
                      refine lv_iload_n hx hb dX3_digest_131 rfl (lv_at hl 1 rfl) ?_
                      refine cr_i (q := 562) [.int (nI u)] hx hb hml hown hG v_X3_count (by decide +kernel) (c_X3_count l G σ n S q V ch hg pn P hp rd hrd (nI u)) (preX hW _) rfl hl.1 (Nat.le_of_ble_eq_true rfl) dX3_digest_132 ⟨rfl, rfl, Nat.le_of_ble_eq_true rfl, Nat.le_of_ble_eq_true rfl⟩ ⟨Nat.le_of_ble_eq_true rfl, Nat.le_of_ble_eq_true rfl⟩ ?_
                      refine lv_eqi (y := cntN n S q ch pn rd u) (aCount_k (by omega)) ?_
                      refine lv_i2l hx hb dX3_digest_135 rfl ?_
                      refine cs_l (q := 553) [.long (f7 (cntN n S q ch pn rd) (f7 (fun i => nI (P i)) (dgB n S q V) pn) u), .long ((cntN n S q ch pn rd u : Int32).toInt64)] hx hb hml hown hG v_X3_with (by decide +kernel) (c_X3_with l (f7 (cntN n S q ch pn rd) (f7 (fun i => nI (P i)) (dgB n S q V) pn) u) ((cntN n S q ch pn rd u).toInt64)) (preG hG _) rfl hl.1 (Nat.le_of_ble_eq_true rfl) dX3_digest_136 ⟨rfl, rfl, Nat.le_of_ble_eq_true rfl, Nat.le_of_ble_eq_true rfl⟩ ⟨Nat.le_of_ble_eq_true rfl, Nat.le_of_ble_eq_true rfl⟩ ?_
                      refine lv_lstore_n (lv' := [(1, .long (sayL (f7 (cntN n S q ch pn rd) (f7 (fun i => nI (P i)) (dgB n S q V) pn) u) (cntN n S q ch pn rd u))), (3, .int (nI u)), (0, .ref (ga G 0))]) hx hb dX3_digest_139 rfl hl (by decide) rfl (fun ls hl => ?_)
                      refine lv_iinc (v := nI (u + 1)) (lv' := [(3, .int (nI (u + 1))), (1, .long (sayL (f7 (cntN n S q ch pn rd) (f7 (fun i => nI (P i)) (dgB n S q V) pn) u) (cntN n S q ch pn rd u))), (0, .ref (ga G 0))]) hx hb dX3_digest_140 hl (k := 1) rfl (inc1 u) (by decide) rfl (fun ls hl => ?_)
                      refine lv_goto (tgt := 123) hx hb dX3_digest_143 (by decide) ?_
                      exact ih_123 (u + 1) _ _ (by omega) rfl rfl (by omega) ls (lv_sub hl [1, 0, 2] rfl)
                exact loop_123 _ 0 _ _ (Nat.lt_succ_self _) (by have h9 : j = pn := (by omega); subst h9; rfl) rfl (by omega) ls (lv_sub hl [1, 0, 2] rfl)
              · skip
                have q_97 := tN_nle pn j c_97 rfl rfl (by omega) (by omega)
                refine lv_lload_n hx hb dX3_digest_100 rfl (lv_at hl 0 rfl) ?_
                refine lv_aload_n hx hb dX3_digest_101 rfl (lv_at hl 2 rfl) ?_
                refine rd_X3_10 hx hb hown hW dX3_digest_102 ?_
                refine rd_X3_192 hx hb hown hW dX3_digest_105 ?_
                refine lv_iload_n hx hb dX3_digest_108 rfl (lv_at hl 1 rfl) ?_
                refine al_letters (k := j) hx hb hW rfl (by omega) dX3_digest_109 ?_
                refine lv_eqi (y := nI (P j)) (hp.2 j (by omega)).1 ?_
                refine lv_i2l hx hb dX3_digest_110 rfl ?_
                refine cs_l (q := 553) [.long (f7 (fun i => nI (P i)) (dgB n S q V) j), .long ((nI (P j) : Int32).toInt64)] hx hb hml hown hG v_X3_with (by decide +kernel) (c_X3_with l (f7 (fun i => nI (P i)) (dgB n S q V) j) ((nI (P j)).toInt64)) (preG hG _) rfl hl.1 (Nat.le_of_ble_eq_true rfl) dX3_digest_111 ⟨rfl, rfl, Nat.le_of_ble_eq_true rfl, Nat.le_of_ble_eq_true rfl⟩ ⟨Nat.le_of_ble_eq_true rfl, Nat.le_of_ble_eq_true rfl⟩ ?_
                refine lv_lstore_n (lv' := [(1, .long (sayL (f7 (fun i => nI (P i)) (dgB n S q V) j) (nI (P j)))), (3, .int (nI j)), (0, .ref (ga G 0))]) hx hb dX3_digest_114 rfl hl (by decide) rfl (fun ls hl => ?_)
                refine lv_iinc (v := nI (j + 1)) (lv' := [(3, .int (nI (j + 1))), (1, .long (sayL (f7 (fun i => nI (P i)) (dgB n S q V) j) (nI (P j)))), (0, .ref (ga G 0))]) hx hb dX3_digest_115 hl (k := 1) rfl (inc1 j) (by decide) rfl (fun ls hl => ?_)
                refine lv_goto (tgt := 89) hx hb dX3_digest_118 (by decide) ?_
                exact ih_89 (j + 1) _ _ (by omega) rfl rfl (by omega) ls (lv_sub hl [1, 0, 2] rfl)
          exact loop_89 _ 0 _ _ (Nat.lt_succ_self _) (by have h9 : i = n := (by omega); subst h9; first | exact (if_pos (by omega)).symm | exact (if_neg (by omega)).symm) rfl (by omega) ls (lv_sub hl [1, 0, 2] rfl)
        · skip
          have q_37 := tN_nle n 0 c_37 rfl rfl (by omega) (by omega)
          refine lv_bipush (v := 33) hx hb dX3_digest_40 (by decide) ?_
          refine lv_istore_n (lv' := [(3, .int 33), (1, .long (dgS S i)), (0, .ref (ga G 0))]) hx hb dX3_digest_42 rfl hl (by decide) rfl (fun ls hl => ?_)
          refine lv_lload_n hx hb dX3_digest_43 rfl (lv_at hl 1 rfl) ?_
          refine lv_aload_n hx hb dX3_digest_44 rfl (lv_at hl 2 rfl) ?_
          refine cr_i (q := 559) [] hx hb hml hown hG v_X3_whose (by decide +kernel) (c_X3_whose l G σ n S q V ch hg) (preX hW _) rfl hl.1 (Nat.le_of_ble_eq_true rfl) dX3_digest_45 ⟨rfl, rfl, Nat.le_of_ble_eq_true rfl, Nat.le_of_ble_eq_true rfl⟩ ⟨Nat.le_of_ble_eq_true rfl, Nat.le_of_ble_eq_true rfl⟩ ?_
          refine lv_i2l hx hb dX3_digest_48 rfl ?_
          refine cs_l (q := 553) [.long (dgS S i), .long ((aWhose n S q V : Int32).toInt64)] hx hb hml hown hG v_X3_with (by decide +kernel) (c_X3_with l (dgS S i) ((aWhose n S q V).toInt64)) (preG hG _) rfl hl.1 (Nat.le_of_ble_eq_true rfl) dX3_digest_49 ⟨rfl, rfl, Nat.le_of_ble_eq_true rfl, Nat.le_of_ble_eq_true rfl⟩ ⟨Nat.le_of_ble_eq_true rfl, Nat.le_of_ble_eq_true rfl⟩ ?_
          refine lv_lstore_n (lv' := [(1, .long (sayL (dgS S i) (aWhose n S q V))), (3, .int 33), (0, .ref (ga G 0))]) hx hb dX3_digest_52 rfl hl (by decide) rfl (fun ls hl => ?_)
          refine lv_lload_n hx hb dX3_digest_53 rfl (lv_at hl 0 rfl) ?_
          refine lv_aload_n hx hb dX3_digest_54 rfl (lv_at hl 2 rfl) ?_
          refine cr_i (q := 560) [] hx hb hml hown hG v_X3_look (by decide +kernel) (c_X3_look l G σ n S q V ch hg) (preX hW _) rfl hl.1 (Nat.le_of_ble_eq_true rfl) dX3_digest_55 ⟨rfl, rfl, Nat.le_of_ble_eq_true rfl, Nat.le_of_ble_eq_true rfl⟩ ⟨Nat.le_of_ble_eq_true rfl, Nat.le_of_ble_eq_true rfl⟩ ?_
          refine lv_i2l hx hb dX3_digest_58 rfl ?_
          refine cs_l (q := 553) [.long (sayL (dgS S i) (aWhose n S q V)), .long ((aLook n S q V : Int32).toInt64)] hx hb hml hown hG v_X3_with (by decide +kernel) (c_X3_with l (sayL (dgS S i) (aWhose n S q V)) ((aLook n S q V).toInt64)) (preG hG _) rfl hl.1 (Nat.le_of_ble_eq_true rfl) dX3_digest_59 ⟨rfl, rfl, Nat.le_of_ble_eq_true rfl, Nat.le_of_ble_eq_true rfl⟩ ⟨Nat.le_of_ble_eq_true rfl, Nat.le_of_ble_eq_true rfl⟩ ?_
          refine lv_lstore_n (lv' := [(1, .long (sayL (sayL (dgS S i) (aWhose n S q V)) (aLook n S q V))), (3, .int 33), (0, .ref (ga G 0))]) hx hb dX3_digest_62 rfl hl (by decide) rfl (fun ls hl => ?_)
          refine lv_lload_n hx hb dX3_digest_63 rfl (lv_at hl 0 rfl) ?_
          refine lv_aload_n hx hb dX3_digest_64 rfl (lv_at hl 2 rfl) ?_
          refine lv_iload_n hx hb dX3_digest_65 rfl (lv_at hl 1 rfl) ?_
          refine lv_iconst (v := 0) hx hb dX3_digest_66 (by decide) ?_
          refine cr_i (q := 561) [.int 33, .int 0] hx hb hml hown hG v_X3_cover (by decide +kernel) (c_X3_cover l G σ n S q V ch hg 33 0) (preX hW _) rfl hl.1 (Nat.le_of_ble_eq_true rfl) dX3_digest_67 ⟨rfl, rfl, Nat.le_of_ble_eq_true rfl, Nat.le_of_ble_eq_true rfl⟩ ⟨Nat.le_of_ble_eq_true rfl, Nat.le_of_ble_eq_true rfl⟩ ?_
          refine lv_i2l hx hb dX3_digest_70 rfl ?_
          refine cs_l (q := 553) [.long (sayL (sayL (dgS S i) (aWhose n S q V)) (aLook n S q V)), .long ((aCover n S 33 0 : Int32).toInt64)] hx hb hml hown hG v_X3_with (by decide +kernel) (c_X3_with l (sayL (sayL (dgS S i) (aWhose n S q V)) (aLook n S q V)) ((aCover n S 33 0).toInt64)) (preG hG _) rfl hl.1 (Nat.le_of_ble_eq_true rfl) dX3_digest_71 ⟨rfl, rfl, Nat.le_of_ble_eq_true rfl, Nat.le_of_ble_eq_true rfl⟩ ⟨Nat.le_of_ble_eq_true rfl, Nat.le_of_ble_eq_true rfl⟩ ?_
          refine lv_lstore_n (lv' := [(1, .long (sayL (sayL (sayL (dgS S i) (aWhose n S q V)) (aLook n S q V)) (aCover n S 33 0))), (3, .int 33), (0, .ref (ga G 0))]) hx hb dX3_digest_74 rfl hl (by decide) rfl (fun ls hl => ?_)
          refine lv_lload_n hx hb dX3_digest_75 rfl (lv_at hl 0 rfl) ?_
          refine lv_aload_n hx hb dX3_digest_76 rfl (lv_at hl 2 rfl) ?_
          refine lv_iload_n hx hb dX3_digest_77 rfl (lv_at hl 1 rfl) ?_
          refine lv_iconst (v := 1) hx hb dX3_digest_78 (by decide) ?_
          refine cr_i (q := 561) [.int 33, .int 1] hx hb hml hown hG v_X3_cover (by decide +kernel) (c_X3_cover l G σ n S q V ch hg 33 1) (preX hW _) rfl hl.1 (Nat.le_of_ble_eq_true rfl) dX3_digest_79 ⟨rfl, rfl, Nat.le_of_ble_eq_true rfl, Nat.le_of_ble_eq_true rfl⟩ ⟨Nat.le_of_ble_eq_true rfl, Nat.le_of_ble_eq_true rfl⟩ ?_
          refine lv_i2l hx hb dX3_digest_82 rfl ?_
          refine cs_l (q := 553) [.long (sayL (sayL (sayL (dgS S i) (aWhose n S q V)) (aLook n S q V)) (aCover n S 33 0)), .long ((aCover n S 33 1 : Int32).toInt64)] hx hb hml hown hG v_X3_with (by decide +kernel) (c_X3_with l (sayL (sayL (sayL (dgS S i) (aWhose n S q V)) (aLook n S q V)) (aCover n S 33 0)) ((aCover n S 33 1).toInt64)) (preG hG _) rfl hl.1 (Nat.le_of_ble_eq_true rfl) dX3_digest_83 ⟨rfl, rfl, Nat.le_of_ble_eq_true rfl, Nat.le_of_ble_eq_true rfl⟩ ⟨Nat.le_of_ble_eq_true rfl, Nat.le_of_ble_eq_true rfl⟩ ?_
          refine lv_lstore_n (lv' := [(1, .long (sayL (sayL (sayL (sayL (dgS S i) (aWhose n S q V)) (aLook n S q V)) (aCover n S 33 0)) (aCover n S 33 1))), (3, .int 33), (0, .ref (ga G 0))]) hx hb dX3_digest_86 rfl hl (by decide) rfl (fun ls hl => ?_)
          refine lv_iconst (v := 0) hx hb dX3_digest_87 (by decide) ?_
          refine lv_istore_n (lv' := [(3, .int 0), (1, .long (sayL (sayL (sayL (sayL (dgS S i) (aWhose n S q V)) (aLook n S q V)) (aCover n S 33 0)) (aCover n S 33 1))), (0, .ref (ga G 0))]) hx hb dX3_digest_88 rfl hl (by decide) rfl (fun ls hl => ?_)
          have loop_89 : ∀ (N9 : Nat) (j : Nat) (h4 : Int64) (jo : Int32), pn - j < N9 → h4 = f7 (fun i => nI (P i)) (dgB n S q V) j → jo = nI j → j ≤ pn → ∀ ls : Array Slot, lv_has ls 4 [(1, .long h4), (3, .int jo), (0, .ref (ga G 0))] → W p l e (headSpec (w1 yX3_digest cX3_digest 4 (some .long)) ({ frames := 6, cells := 0, slots := 0, locals := 140 })).room s m [.ref (ga G 0)].toArray below meth c s.heap [] 0 0 (MQ below (vp_Sl (fun r => r = dgA n S q V ch pn P rd)) [.ref (ga G 0)].toArray s 0 0 (fun _ => False)) (F0 m 89 ls []) := by
            intro N9
            induction N9 with
            | zero => intro j h4 jo hN; exact absurd hN (Nat.not_lt_zero _)
            | succ N9 ih =>
              intro j h4 jo hN e_h4 e_jo hi0_89 ls hl
              subst e_h4
              subst e_jo
              have ih_89 := ih
              refine lv_iload_n hx hb dX3_digest_89 rfl (lv_at hl 1 rfl) ?_
              refine lv_aload_n hx hb dX3_digest_90 rfl (lv_at hl 2 rfl) ?_
              refine rd_X3_10 hx hb hown hW dX3_digest_91 ?_
              refine rd_X3_42 hx hb hown hW dX3_digest_94 ?_
              refine lv_eqi (y := nI pn) hp.1.1 ?_
              refine lv_icmp_ge (tgt := 121) hx hb dX3_digest_97 (by decide) (fun c_97 => ?_) (fun c_97 => ?_)
              · skip
                have q_97 := tN_le pn j c_97 rfl rfl (by omega) (by omega)
                refine lv_iconst (v := 0) hx hb dX3_digest_121 (by decide) ?_
                refine lv_istore_n (lv' := [(3, .int 0), (1, .long (f7 (fun i => nI (P i)) (dgB n S q V) j)), (0, .ref (ga G 0))]) hx hb dX3_digest_122 rfl hl (by decide) rfl (fun ls hl => ?_)
                have loop_123 : ∀ (N9 : Nat) (u : Nat) (h4 : Int64) (uo : Int32), 8 - u < N9 → h4 = f7 (cntN n S q ch pn rd) (f7 (fun i => nI (P i)) (dgB n S q V) pn) u → uo = nI u → u ≤ 8 → ∀ ls : Array Slot, lv_has ls 4 [(1, .long h4), (3, .int uo), (0, .ref (ga G 0))] → W p l e (headSpec (w1 yX3_digest cX3_digest 4 (some .long)) ({ frames := 6, cells := 0, slots := 0, locals := 140 })).room s m [.ref (ga G 0)].toArray below meth c s.heap [] 0 0 (MQ below (vp_Sl (fun r => r = dgA n S q V ch pn P rd)) [.ref (ga G 0)].toArray s 0 0 (fun _ => False)) (F0 m 123 ls []) := by
                  intro N9
                  induction N9 with
                  | zero => intro u h4 uo hN; exact absurd hN (Nat.not_lt_zero _)
                  | succ N9 ih =>
                    intro u h4 uo hN e_h4 e_uo hi0_123 ls hl
                    subst e_h4
                    subst e_uo
                    have ih_123 := ih
                    refine lv_iload_n hx hb dX3_digest_123 rfl (lv_at hl 1 rfl) ?_
                    refine lv_bipush (v := 8) hx hb dX3_digest_124 (by decide) ?_
                    refine lv_icmp_ge (tgt := 146) hx hb dX3_digest_126 (by decide) (fun c_126 => ?_) (fun c_126 => ?_)
                    · skip
                      have q_126 := tN_le 8 u c_126 rfl rfl (by omega) (by omega)
                      refine lv_lload_n hx hb dX3_digest_146 rfl (lv_at hl 0 rfl) ?_
                      exact W.lret (v := f7 (cntN n S q ch pn rd) (f7 (fun i => nI (P i)) (dgB n S q V) pn) u) hx hb hr (fun t9 ht9 hW9 => ⟨_, rfl, (by have h9 : u = 8 := (by omega); subst h9; rfl), ht9⟩) (fun q h => by cases h) dX3_digest_147
                    · skip
                      have q_126 := tN_nle 8 u c_126 rfl rfl (by omega) (by omega)
                      refine lv_lload_n hx hb dX3_digest_129 rfl (lv_at hl 0 rfl) ?_
                      refine lv_aload_n hx hb dX3_digest_130 rfl (lv_at hl 2 rfl) ?_
                      refine lv_iload_n hx hb dX3_digest_131 rfl (lv_at hl 1 rfl) ?_
                      refine cr_i (q := 562) [.int (nI u)] hx hb hml hown hG v_X3_count (by decide +kernel) (c_X3_count l G σ n S q V ch hg pn P hp rd hrd (nI u)) (preX hW _) rfl hl.1 (Nat.le_of_ble_eq_true rfl) dX3_digest_132 ⟨rfl, rfl, Nat.le_of_ble_eq_true rfl, Nat.le_of_ble_eq_true rfl⟩ ⟨Nat.le_of_ble_eq_true rfl, Nat.le_of_ble_eq_true rfl⟩ ?_
                      refine lv_eqi (y := cntN n S q ch pn rd u) (aCount_k (by omega)) ?_
                      refine lv_i2l hx hb dX3_digest_135 rfl ?_
                      refine cs_l (q := 553) [.long (f7 (cntN n S q ch pn rd) (f7 (fun i => nI (P i)) (dgB n S q V) pn) u), .long ((cntN n S q ch pn rd u : Int32).toInt64)] hx hb hml hown hG v_X3_with (by decide +kernel) (c_X3_with l (f7 (cntN n S q ch pn rd) (f7 (fun i => nI (P i)) (dgB n S q V) pn) u) ((cntN n S q ch pn rd u).toInt64)) (preG hG _) rfl hl.1 (Nat.le_of_ble_eq_true rfl) dX3_digest_136 ⟨rfl, rfl, Nat.le_of_ble_eq_true rfl, Nat.le_of_ble_eq_true rfl⟩ ⟨Nat.le_of_ble_eq_true rfl, Nat.le_of_ble_eq_true rfl⟩ ?_
                      refine lv_lstore_n (lv' := [(1, .long (sayL (f7 (cntN n S q ch pn rd) (f7 (fun i => nI (P i)) (dgB n S q V) pn) u) (cntN n S q ch pn rd u))), (3, .int (nI u)), (0, .ref (ga G 0))]) hx hb dX3_digest_139 rfl hl (by decide) rfl (fun ls hl => ?_)
                      refine lv_iinc (v := nI (u + 1)) (lv' := [(3, .int (nI (u + 1))), (1, .long (sayL (f7 (cntN n S q ch pn rd) (f7 (fun i => nI (P i)) (dgB n S q V) pn) u) (cntN n S q ch pn rd u))), (0, .ref (ga G 0))]) hx hb dX3_digest_140 hl (k := 1) rfl (inc1 u) (by decide) rfl (fun ls hl => ?_)
                      refine lv_goto (tgt := 123) hx hb dX3_digest_143 (by decide) ?_
                      exact ih_123 (u + 1) _ _ (by omega) rfl rfl (by omega) ls (lv_sub hl [1, 0, 2] rfl)
                exact loop_123 _ 0 _ _ (Nat.lt_succ_self _) (by have h9 : j = pn := (by omega); subst h9; rfl) rfl (by omega) ls (lv_sub hl [1, 0, 2] rfl)
              · skip
                have q_97 := tN_nle pn j c_97 rfl rfl (by omega) (by omega)
                refine lv_lload_n hx hb dX3_digest_100 rfl (lv_at hl 0 rfl) ?_
                refine lv_aload_n hx hb dX3_digest_101 rfl (lv_at hl 2 rfl) ?_
                refine rd_X3_10 hx hb hown hW dX3_digest_102 ?_
                refine rd_X3_192 hx hb hown hW dX3_digest_105 ?_
                refine lv_iload_n hx hb dX3_digest_108 rfl (lv_at hl 1 rfl) ?_
                refine al_letters (k := j) hx hb hW rfl (by omega) dX3_digest_109 ?_
                refine lv_eqi (y := nI (P j)) (hp.2 j (by omega)).1 ?_
                refine lv_i2l hx hb dX3_digest_110 rfl ?_
                refine cs_l (q := 553) [.long (f7 (fun i => nI (P i)) (dgB n S q V) j), .long ((nI (P j) : Int32).toInt64)] hx hb hml hown hG v_X3_with (by decide +kernel) (c_X3_with l (f7 (fun i => nI (P i)) (dgB n S q V) j) ((nI (P j)).toInt64)) (preG hG _) rfl hl.1 (Nat.le_of_ble_eq_true rfl) dX3_digest_111 ⟨rfl, rfl, Nat.le_of_ble_eq_true rfl, Nat.le_of_ble_eq_true rfl⟩ ⟨Nat.le_of_ble_eq_true rfl, Nat.le_of_ble_eq_true rfl⟩ ?_
                refine lv_lstore_n (lv' := [(1, .long (sayL (f7 (fun i => nI (P i)) (dgB n S q V) j) (nI (P j)))), (3, .int (nI j)), (0, .ref (ga G 0))]) hx hb dX3_digest_114 rfl hl (by decide) rfl (fun ls hl => ?_)
                refine lv_iinc (v := nI (j + 1)) (lv' := [(3, .int (nI (j + 1))), (1, .long (sayL (f7 (fun i => nI (P i)) (dgB n S q V) j) (nI (P j)))), (0, .ref (ga G 0))]) hx hb dX3_digest_115 hl (k := 1) rfl (inc1 j) (by decide) rfl (fun ls hl => ?_)
                refine lv_goto (tgt := 89) hx hb dX3_digest_118 (by decide) ?_
                exact ih_89 (j + 1) _ _ (by omega) rfl rfl (by omega) ls (lv_sub hl [1, 0, 2] rfl)
          exact loop_89 _ 0 _ _ (Nat.lt_succ_self _) (by have h9 : i = n := (by omega); subst h9; first | exact (if_pos (by omega)).symm | exact (if_neg (by omega)).symm) rfl (by omega) ls (lv_sub hl [1, 0, 2] rfl)
      · skip
        have q_14 := tN_nle n i c_14 rfl rfl (by omega) (by omega)
        refine lv_aload_n hx hb dX3_digest_17 rfl (lv_at hl 2 rfl) ?_
        refine lv_lload_n hx hb dX3_digest_18 rfl (lv_at hl 0 rfl) ?_
        refine lv_iload_n hx hb dX3_digest_19 rfl (lv_at hl 1 rfl) ?_
        refine cr_l (q := 548) [.long (dgS S i), .int (nI i)] hx hb hml hown hG v_X3_withStick (by decide +kernel) (c_X3_withStick l G σ n S q V ch hg (dgS S i) i (by omega)) (preX hW _) rfl hl.1 (Nat.le_of_ble_eq_true rfl) dX3_digest_20 ⟨rfl, rfl, Nat.le_of_ble_eq_true rfl, Nat.le_of_ble_eq_true rfl⟩ ⟨Nat.le_of_ble_eq_true rfl, Nat.le_of_ble_eq_true rfl⟩ ?_
        refine lv_lstore_n (lv' := [(1, .long (wsH (S i) (dgS S i))), (3, .int (nI i)), (0, .ref (ga G 0))]) hx hb dX3_digest_23 rfl hl (by decide) rfl (fun ls hl => ?_)
        refine lv_iinc (v := nI (i + 1)) (lv' := [(3, .int (nI (i + 1))), (1, .long (wsH (S i) (dgS S i))), (0, .ref (ga G 0))]) hx hb dX3_digest_24 hl (k := 1) rfl (inc1 i) (by decide) rfl (fun ls hl => ?_)
        refine lv_goto (tgt := 6) hx hb dX3_digest_27 (by decide) ?_
        exact ih_6 (i + 1) _ _ (by omega) rfl rfl (by omega) ls (lv_sub hl [1, 0, 2] rfl)
  exact loop_6 _ 0 _ _ (Nat.lt_succ_self _) rfl rfl (by omega) ls (lv_sub hl [1, 0, 2] rfl)
