set_option maxHeartbeats 4000000 in
set_option maxRecDepth 100000 in
theorem c_X4_coverSet (l : Launch) (G : Gam) (μ : St) (hs : Int64) (n : Nat) (S : Nat → Sk) (q : Nat) (V : Nat → Nat) (ch : Int32) (hg : RM μ n S q V ch) (wd : Nat) (hw6 : wd < 65536) : Met l yX4_coverSet (w1 yX4_coverSet cX4_coverSet 6 (some .int)) ({ frames := 4, cells := 0, slots := 0, locals := 98 }) (PcM G μ hs [.ref (gm G 0), .int (nI wd)]) (QiM G (fun r u9 => r = oI (cvN (fun i => orN (posN (S i)) 31) n wd (2 ^ n)) ∧ KP μ hs u9)) 0 0 (aM G) := by
  refine met_of [.ref (gm G 0), .int (nI wd)] [(0, .ref (gm G 0)), (1, .int (nI wd))] (by decide) (Nat.le_of_ble_eq_true rfl) rfl ?_
  intro p e s m below meth c hx hb hr hown hml hlocks hW ls hl
  have hG : GW s := hW.2.2.2
  have hS : va_S (aM G) s.heap s.heap [] := va_S.rf
  have hn6 := hg.1.2
  have hq8 := hg.2.2.1.2
  have h2n := p2_64 hn6
  refine lv_iconst (v := 0) hx hb dX4_coverSet_0 (by decide) ?_
  refine lv_istore_n (lv' := [(2, .int 0), (0, .ref (gm G 0)), (1, .int (nI wd))]) hx hb dX4_coverSet_1 rfl hl (by decide) rfl (fun ls hl => ?_)
  have loop_2 : ∀ (N9 : Nat) (k : Nat) (ko : Int32) (μw : St) (hw : Int64) (H : Heap) (locs : List Loc), n - k < N9 → ko = nI k → k ≤ n → WM G μw hw s H → va_S (aM G) s.heap H locs → ((∀ i, i < k → μw 4 i = nI (orN (posN (S i)) 31))) → KP μ hs (μw, hw) → ∀ ls : Array Slot, lv_has ls 6 [(2, .int ko), (0, .ref (gm G 0)), (1, .int (nI wd))] → W p l e (headSpec (w1 yX4_coverSet cX4_coverSet 6 (some .int)) ({ frames := 4, cells := 0, slots := 0, locals := 98 })).room s m [.ref (gm G 0), .int (nI wd)].toArray below meth c H locs 0 0 (MQ below (QiM G (fun r u9 => r = oI (cvN (fun i => orN (posN (S i)) 31) n wd (2 ^ n)) ∧ KP μ hs u9)) [.ref (gm G 0), .int (nI wd)].toArray s 0 0 (aM G)) (F0 m 2 ls []) := by
    intro N9
    induction N9 with
    | zero => intro k ko μw hw H locs hN; exact absurd hN (Nat.not_lt_zero _)
    | succ N9 ih =>
      intro k ko μw hw H locs hN e_ko hi0_2 hW hS hw0_2 hw1_2 ls hl
      subst e_ko
      have ih_2 := ih
      have hgw := hw1_2.rm hg
      refine lv_iload_n hx hb dX4_coverSet_2 rfl (lv_at hl 0 rfl) ?_
      refine lv_aload_n hx hb dX4_coverSet_3 rfl (lv_at hl 1 rfl) ?_
      refine rd_X4_75 hx hb hown hW dX4_coverSet_4 ?_
      refine lv_eqi (y := nI n) hgw.1.1 ?_
      refine lv_icmp_ge (tgt := 27) hx hb dX4_coverSet_7 (by decide) (fun c_7 => ?_) (fun c_7 => ?_)
      · skip
        have q_7 := tN_le n k c_7 rfl rfl (by omega) (by omega)
        refine lv_iconst (v := (-1)) hx hb dX4_coverSet_27 (by decide) ?_
        refine lv_istore_n (lv' := [(2, .int ((-1))), (0, .ref (gm G 0)), (1, .int (nI wd))]) hx hb dX4_coverSet_28 rfl hl (by decide) rfl (fun ls hl => ?_)
        refine lv_iconst (v := 0) hx hb dX4_coverSet_29 (by decide) ?_
        refine lv_istore_n (lv' := [(3, .int 0), (2, .int ((-1))), (0, .ref (gm G 0)), (1, .int (nI wd))]) hx hb dX4_coverSet_30 rfl hl (by decide) rfl (fun ls hl => ?_)
        have loop_31 : ∀ (N9 : Nat) (g : Nat) (be : Int32) (go : Int32), 2 ^ n - g < N9 → be = oI (cvN (fun i => orN (posN (S i)) 31) n wd g) → go = nI g → g ≤ 2 ^ n → ∀ ls : Array Slot, lv_has ls 6 [(2, .int be), (3, .int go), (0, .ref (gm G 0)), (1, .int (nI wd))] → W p l e (headSpec (w1 yX4_coverSet cX4_coverSet 6 (some .int)) ({ frames := 4, cells := 0, slots := 0, locals := 98 })).room s m [.ref (gm G 0), .int (nI wd)].toArray below meth c H locs 0 0 (MQ below (QiM G (fun r u9 => r = oI (cvN (fun i => orN (posN (S i)) 31) n wd (2 ^ n)) ∧ KP μ hs u9)) [.ref (gm G 0), .int (nI wd)].toArray s 0 0 (aM G)) (F0 m 31 ls []) := by
          intro N9
          induction N9 with
          | zero => intro g be go hN; exact absurd hN (Nat.not_lt_zero _)
          | succ N9 ih =>
            intro g be go hN e_be e_go hi0_31 ls hl
            subst e_be
            subst e_go
            have ih_31 := ih
            refine lv_iload_n hx hb dX4_coverSet_31 rfl (lv_at hl 1 rfl) ?_
            refine lv_iconst (v := 1) hx hb dX4_coverSet_32 (by decide) ?_
            refine lv_aload_n hx hb dX4_coverSet_33 rfl (lv_at hl 2 rfl) ?_
            refine rd_X4_75 hx hb hown hW dX4_coverSet_34 ?_
            refine lv_eqi (y := nI n) hgw.1.1 ?_
            refine lv_ishl hx hb dX4_coverSet_37 ?_
            refine lv_eqi (y := nI (2 ^ n)) (bitI n (by omega)) ?_
            refine lv_icmp_ge (tgt := 137) hx hb dX4_coverSet_38 (by decide) (fun c_38 => ?_) (fun c_38 => ?_)
            · skip
              have q_38 := tN_le (2 ^ n) g c_38 rfl rfl (by omega) (by omega)
              refine lv_iload_n hx hb dX4_coverSet_137 rfl (lv_at hl 0 rfl) ?_
              exact W.iret (v := oI (cvN (fun i => orN (posN (S i)) 31) n wd g)) hx hb hr (fun t9 ht9 hW9 => ⟨⟨_, (μw, hw), rfl, (by have h9 : g = 2 ^ n := (by omega); rw [h9]; exact ⟨rfl, hw1_2⟩), (by have h8 := hW.1; rw [← ht9] at h8; exact h8)⟩, hS.F ht9⟩) hS.2.2 dX4_coverSet_138
            · skip
              have q_38 := tN_nle (2 ^ n) g c_38 rfl rfl (by omega) (by omega)
              refine lv_iconst (v := 0) hx hb dX4_coverSet_41 (by decide) ?_
              refine lv_istore (lv' := [(4, .int 0), (2, .int (oI (cvN (fun i => orN (posN (S i)) 31) n wd g))), (3, .int (nI g)), (0, .ref (gm G 0)), (1, .int (nI wd))]) hx hb dX4_coverSet_42 hl (by decide) rfl (fun ls hl => ?_)
              refine lv_iconst (v := 0) hx hb dX4_coverSet_44 (by decide) ?_
              refine lv_istore (lv' := [(5, .int 0), (4, .int 0), (2, .int (oI (cvN (fun i => orN (posN (S i)) 31) n wd g))), (3, .int (nI g)), (0, .ref (gm G 0)), (1, .int (nI wd))]) hx hb dX4_coverSet_45 hl (by decide) rfl (fun ls hl => ?_)
              have loop_47 : ∀ (N9 : Nat) (i : Nat) (ao : Int32) (io : Int32), n - i < N9 → ao = nI (grN (fun i => orN (posN (S i)) 31) g i) → io = nI i → i ≤ n → ∀ ls : Array Slot, lv_has ls 6 [(4, .int ao), (5, .int io), (2, .int (oI (cvN (fun i => orN (posN (S i)) 31) n wd g))), (3, .int (nI g)), (0, .ref (gm G 0)), (1, .int (nI wd))] → W p l e (headSpec (w1 yX4_coverSet cX4_coverSet 6 (some .int)) ({ frames := 4, cells := 0, slots := 0, locals := 98 })).room s m [.ref (gm G 0), .int (nI wd)].toArray below meth c H locs 0 0 (MQ below (QiM G (fun r u9 => r = oI (cvN (fun i => orN (posN (S i)) 31) n wd (2 ^ n)) ∧ KP μ hs u9)) [.ref (gm G 0), .int (nI wd)].toArray s 0 0 (aM G)) (F0 m 47 ls []) := by
                intro N9
                induction N9 with
                | zero => intro i ao io hN; exact absurd hN (Nat.not_lt_zero _)
                | succ N9 ih =>
                  intro i ao io hN e_ao e_io hi0_47 ls hl
                  subst e_ao
                  subst e_io
                  have ih_47 := ih
                  refine lv_iload hx hb dX4_coverSet_47 (lv_at hl 1 rfl) ?_
                  refine lv_aload_n hx hb dX4_coverSet_49 rfl (lv_at hl 4 rfl) ?_
                  refine rd_X4_75 hx hb hown hW dX4_coverSet_50 ?_
                  refine lv_eqi (y := nI n) hgw.1.1 ?_
                  refine lv_icmp_ge (tgt := 88) hx hb dX4_coverSet_53 (by decide) (fun c_53 => ?_) (fun c_53 => ?_)
                  · skip
                    have q_53 := tN_le n i c_53 rfl rfl (by omega) (by omega)
                    refine lv_iload_n hx hb dX4_coverSet_88 rfl (lv_at hl 5 rfl) ?_
                    refine lv_iload hx hb dX4_coverSet_89 (lv_at hl 0 rfl) ?_
                    refine lv_iconst (v := (-1)) hx hb dX4_coverSet_91 (by decide) ?_
                    refine lv_ixor hx hb dX4_coverSet_92 ?_
                    refine lv_iand hx hb dX4_coverSet_93 ?_
                    refine lv_if_ne (tgt := 101) hx hb dX4_coverSet_94 (by decide) (fun c_94 => ?_) (fun c_94 => ?_)
                    · skip
                      have k_94 : ¬ wd &&& grN (fun i => orN (posN (S i)) 31) g n = wd := by have h9 : i = n := (by omega); subst h9; exact fun z => c_94 ((nI_xm _ _ (by omega)).mpr z)
                      refine lv_iconst (v := 0) hx hb dX4_coverSet_101 (by decide) ?_
                      refine lv_istore (lv' := [(5, .int 0), (4, .int (nI (grN (fun i => orN (posN (S i)) 31) g i))), (2, .int (oI (cvN (fun i => orN (posN (S i)) 31) n wd g))), (3, .int (nI g)), (0, .ref (gm G 0)), (1, .int (nI wd))]) hx hb dX4_coverSet_102 hl (by decide) rfl (fun ls hl => ?_)
                      rcases ho : cvN (fun i => orN (posN (S i)) 31) n wd g with _ | b
                      · skip
                        rw [ho] at hl
                        have hl : lv_has ls 6 [(5, .int 0), (4, .int (nI (grN (fun i => orN (posN (S i)) 31) g i))), (2, .int ((-1))), (3, .int (nI g)), (0, .ref (gm G 0)), (1, .int (nI wd))] := hl
                        refine lv_iload hx hb dX4_coverSet_104 (lv_at hl 0 rfl) ?_
                        refine lv_if_eq (tgt := 129) hx hb dX4_coverSet_106 (by decide) (fun c_106 => ?_) (fun c_106 => ?_)
                        · skip
                          refine lv_iload_n hx hb dX4_coverSet_129 rfl (lv_at hl 2 rfl) ?_
                          refine lv_istore_n (lv' := [(2, .int ((-1))), (5, .int 0), (4, .int (nI (grN (fun i => orN (posN (S i)) 31) g i))), (3, .int (nI g)), (0, .ref (gm G 0)), (1, .int (nI wd))]) hx hb dX4_coverSet_130 rfl hl (by decide) rfl (fun ls hl => ?_)
                          refine lv_iinc (v := nI (g + 1)) (lv' := [(3, .int (nI (g + 1))), (2, .int ((-1))), (5, .int 0), (4, .int (nI (grN (fun i => orN (posN (S i)) 31) g i))), (0, .ref (gm G 0)), (1, .int (nI wd))]) hx hb dX4_coverSet_131 hl (k := 3) rfl (inc1 g) (by decide) rfl (fun ls hl => ?_)
                          refine lv_goto (tgt := 31) hx hb dX4_coverSet_134 (by decide) ?_
                          exact ih_31 (g + 1) _ _ (by omega) (cv_n4 ho k_94) rfl (by omega) ls (lv_sub hl [1, 0, 4, 5] rfl)
                        · skip
                          exact absurd (by decide) c_106
                      · skip
                        rw [ho] at hl
                        have hbg := cvN_lt ho
                        have hpb := popN_le b
                        have hpg := popN_le g
                        have hl : lv_has ls 6 [(5, .int 0), (4, .int (nI (grN (fun i => orN (posN (S i)) 31) g i))), (2, .int (nI b)), (3, .int (nI g)), (0, .ref (gm G 0)), (1, .int (nI wd))] := hl
                        refine lv_iload hx hb dX4_coverSet_104 (lv_at hl 0 rfl) ?_
                        refine lv_if_eq (tgt := 129) hx hb dX4_coverSet_106 (by decide) (fun c_106 => ?_) (fun c_106 => ?_)
                        · skip
                          refine lv_iload_n hx hb dX4_coverSet_129 rfl (lv_at hl 2 rfl) ?_
                          refine lv_istore_n (lv' := [(2, .int (nI b)), (5, .int 0), (4, .int (nI (grN (fun i => orN (posN (S i)) 31) g i))), (3, .int (nI g)), (0, .ref (gm G 0)), (1, .int (nI wd))]) hx hb dX4_coverSet_130 rfl hl (by decide) rfl (fun ls hl => ?_)
                          refine lv_iinc (v := nI (g + 1)) (lv' := [(3, .int (nI (g + 1))), (2, .int (nI b)), (5, .int 0), (4, .int (nI (grN (fun i => orN (posN (S i)) 31) g i))), (0, .ref (gm G 0)), (1, .int (nI wd))]) hx hb dX4_coverSet_131 hl (k := 3) rfl (inc1 g) (by decide) rfl (fun ls hl => ?_)
                          refine lv_goto (tgt := 31) hx hb dX4_coverSet_134 (by decide) ?_
                          exact ih_31 (g + 1) _ _ (by omega) (cv_n5 ho k_94) rfl (by omega) ls (lv_sub hl [1, 0, 4, 5] rfl)
                        · skip
                          exact absurd (by decide) c_106
                    · skip
                      have k_94 : wd &&& grN (fun i => orN (posN (S i)) 31) g n = wd := by have h9 : i = n := (by omega); subst h9; exact (nI_xm _ _ (by omega)).mp c_94
                      refine lv_iconst (v := 1) hx hb dX4_coverSet_97 (by decide) ?_
                      refine lv_goto (tgt := 102) hx hb dX4_coverSet_98 (by decide) ?_
                      refine lv_istore (lv' := [(5, .int 1), (4, .int (nI (grN (fun i => orN (posN (S i)) 31) g i))), (2, .int (oI (cvN (fun i => orN (posN (S i)) 31) n wd g))), (3, .int (nI g)), (0, .ref (gm G 0)), (1, .int (nI wd))]) hx hb dX4_coverSet_102 hl (by decide) rfl (fun ls hl => ?_)
                      rcases ho : cvN (fun i => orN (posN (S i)) 31) n wd g with _ | b
                      · skip
                        rw [ho] at hl
                        have hl : lv_has ls 6 [(5, .int 1), (4, .int (nI (grN (fun i => orN (posN (S i)) 31) g i))), (2, .int ((-1))), (3, .int (nI g)), (0, .ref (gm G 0)), (1, .int (nI wd))] := hl
                        refine lv_iload hx hb dX4_coverSet_104 (lv_at hl 0 rfl) ?_
                        refine lv_if_eq (tgt := 129) hx hb dX4_coverSet_106 (by decide) (fun c_106 => ?_) (fun c_106 => ?_)
                        · skip
                          exact absurd c_106 (by decide)
                        · skip
                          refine lv_iload_n hx hb dX4_coverSet_109 rfl (lv_at hl 2 rfl) ?_
                          refine lv_iconst (v := (-1)) hx hb dX4_coverSet_110 (by decide) ?_
                          refine lv_icmp_eq (tgt := 125) hx hb dX4_coverSet_111 (by decide) (fun c_111 => ?_) (fun c_111 => ?_)
                          · skip
                            refine lv_iload_n hx hb dX4_coverSet_125 rfl (lv_at hl 3 rfl) ?_
                            refine lv_goto (tgt := 130) hx hb dX4_coverSet_126 (by decide) ?_
                            refine lv_istore_n (lv' := [(2, .int (nI g)), (5, .int 1), (4, .int (nI (grN (fun i => orN (posN (S i)) 31) g i))), (3, .int (nI g)), (0, .ref (gm G 0)), (1, .int (nI wd))]) hx hb dX4_coverSet_130 rfl hl (by decide) rfl (fun ls hl => ?_)
                            refine lv_iinc (v := nI (g + 1)) (lv' := [(3, .int (nI (g + 1))), (2, .int (nI g)), (5, .int 1), (4, .int (nI (grN (fun i => orN (posN (S i)) 31) g i))), (0, .ref (gm G 0)), (1, .int (nI wd))]) hx hb dX4_coverSet_131 hl (k := 3) rfl (inc1 g) (by decide) rfl (fun ls hl => ?_)
                            refine lv_goto (tgt := 31) hx hb dX4_coverSet_134 (by decide) ?_
                            exact ih_31 (g + 1) _ _ (by omega) (cv_y0 ho k_94) rfl (by omega) ls (lv_sub hl [1, 0, 4, 5] rfl)
                          · skip
                            exact absurd (by decide) c_111
                      · skip
                        rw [ho] at hl
                        have hbg := cvN_lt ho
                        have hpb := popN_le b
                        have hpg := popN_le g
                        have hl : lv_has ls 6 [(5, .int 1), (4, .int (nI (grN (fun i => orN (posN (S i)) 31) g i))), (2, .int (nI b)), (3, .int (nI g)), (0, .ref (gm G 0)), (1, .int (nI wd))] := hl
                        refine lv_iload hx hb dX4_coverSet_104 (lv_at hl 0 rfl) ?_
                        refine lv_if_eq (tgt := 129) hx hb dX4_coverSet_106 (by decide) (fun c_106 => ?_) (fun c_106 => ?_)
                        · skip
                          exact absurd c_106 (by decide)
                        · skip
                          refine lv_iload_n hx hb dX4_coverSet_109 rfl (lv_at hl 2 rfl) ?_
                          refine lv_iconst (v := (-1)) hx hb dX4_coverSet_110 (by decide) ?_
                          refine lv_icmp_eq (tgt := 125) hx hb dX4_coverSet_111 (by decide) (fun c_111 => ?_) (fun c_111 => ?_)
                          · skip
                            exact absurd c_111 (nI_nm1 (by omega))
                          · skip
                            refine lv_iload_n hx hb dX4_coverSet_114 rfl (lv_at hl 3 rfl) ?_
                            refine cs_i (q := 710) [.int (nI g)] hx hb hml hown hG v_X4_ones (by decide +kernel) (c_X4_ones l g (by omega)) (preT _) rfl hl.1 (Nat.le_of_ble_eq_true rfl) dX4_coverSet_115 ⟨rfl, rfl, Nat.le_of_ble_eq_true rfl, Nat.le_of_ble_eq_true rfl⟩ ⟨Nat.le_of_ble_eq_true rfl, Nat.le_of_ble_eq_true rfl⟩ ?_
                            refine lv_iload_n hx hb dX4_coverSet_118 rfl (lv_at hl 2 rfl) ?_
                            refine cs_i (q := 710) [.int (nI b)] hx hb hml hown hG v_X4_ones (by decide +kernel) (c_X4_ones l b (by omega)) (preT _) rfl hl.1 (Nat.le_of_ble_eq_true rfl) dX4_coverSet_119 ⟨rfl, rfl, Nat.le_of_ble_eq_true rfl, Nat.le_of_ble_eq_true rfl⟩ ⟨Nat.le_of_ble_eq_true rfl, Nat.le_of_ble_eq_true rfl⟩ ?_
                            refine lv_icmp_ge (tgt := 129) hx hb dX4_coverSet_122 (by decide) (fun c_122 => ?_) (fun c_122 => ?_)
                            · skip
                              have q_122 := tN_le (popN b) (popN g) c_122 rfl rfl (by omega) (by omega)
                              refine lv_iload_n hx hb dX4_coverSet_129 rfl (lv_at hl 2 rfl) ?_
                              refine lv_istore_n (lv' := [(2, .int (nI b)), (5, .int 1), (4, .int (nI (grN (fun i => orN (posN (S i)) 31) g i))), (3, .int (nI g)), (0, .ref (gm G 0)), (1, .int (nI wd))]) hx hb dX4_coverSet_130 rfl hl (by decide) rfl (fun ls hl => ?_)
                              refine lv_iinc (v := nI (g + 1)) (lv' := [(3, .int (nI (g + 1))), (2, .int (nI b)), (5, .int 1), (4, .int (nI (grN (fun i => orN (posN (S i)) 31) g i))), (0, .ref (gm G 0)), (1, .int (nI wd))]) hx hb dX4_coverSet_131 hl (k := 3) rfl (inc1 g) (by decide) rfl (fun ls hl => ?_)
                              refine lv_goto (tgt := 31) hx hb dX4_coverSet_134 (by decide) ?_
                              exact ih_31 (g + 1) _ _ (by omega) (cv_n3 ho q_122) rfl (by omega) ls (lv_sub hl [1, 0, 4, 5] rfl)
                            · skip
                              have q_122 := tN_nle (popN b) (popN g) c_122 rfl rfl (by omega) (by omega)
                              refine lv_iload_n hx hb dX4_coverSet_125 rfl (lv_at hl 3 rfl) ?_
                              refine lv_goto (tgt := 130) hx hb dX4_coverSet_126 (by decide) ?_
                              refine lv_istore_n (lv' := [(2, .int (nI g)), (5, .int 1), (4, .int (nI (grN (fun i => orN (posN (S i)) 31) g i))), (3, .int (nI g)), (0, .ref (gm G 0)), (1, .int (nI wd))]) hx hb dX4_coverSet_130 rfl hl (by decide) rfl (fun ls hl => ?_)
                              refine lv_iinc (v := nI (g + 1)) (lv' := [(3, .int (nI (g + 1))), (2, .int (nI g)), (5, .int 1), (4, .int (nI (grN (fun i => orN (posN (S i)) 31) g i))), (0, .ref (gm G 0)), (1, .int (nI wd))]) hx hb dX4_coverSet_131 hl (k := 3) rfl (inc1 g) (by decide) rfl (fun ls hl => ?_)
                              refine lv_goto (tgt := 31) hx hb dX4_coverSet_134 (by decide) ?_
                              exact ih_31 (g + 1) _ _ (by omega) (cv_y1 ho q_122 k_94) rfl (by omega) ls (lv_sub hl [1, 0, 4, 5] rfl)
                  · skip
                    have q_53 := tN_nle n i c_53 rfl rfl (by omega) (by omega)
                    refine lv_iload hx hb dX4_coverSet_56 (lv_at hl 0 rfl) ?_
                    refine lv_iload_n hx hb dX4_coverSet_58 rfl (lv_at hl 3 rfl) ?_
                    refine lv_iload hx hb dX4_coverSet_59 (lv_at hl 1 rfl) ?_
                    refine lv_ishr hx hb dX4_coverSet_61 ?_
                    refine lv_iconst (v := 1) hx hb dX4_coverSet_62 (by decide) ?_
                    refine lv_iand hx hb dX4_coverSet_63 ?_
                    refine lv_eqi (y := nI (g / 2 ^ i % 2)) (bitT (by omega) (by omega)) ?_
                    refine lv_iconst (v := 1) hx hb dX4_coverSet_64 (by decide) ?_
                    refine lv_icmp_ne (tgt := 78) hx hb dX4_coverSet_65 (by decide) (fun c_65 => ?_) (fun c_65 => ?_)
                    · skip
                      have q_65 := tN_ne (g / 2 ^ i % 2) 1 c_65 rfl rfl (by omega) (by omega)
                      refine lv_iconst (v := 0) hx hb dX4_coverSet_78 (by decide) ?_
                      refine lv_ior hx hb dX4_coverSet_79 ?_
                      refine lv_eqi (y := nI ((grN (fun i => orN (posN (S i)) 31) g i) ||| 0)) (nI_or (grN (fun i => orN (posN (S i)) 31) g i) 0) ?_
                      refine lv_istore (lv' := [(4, .int (nI ((grN (fun i => orN (posN (S i)) 31) g i) ||| 0))), (5, .int (nI i)), (2, .int (oI (cvN (fun i => orN (posN (S i)) 31) n wd g))), (3, .int (nI g)), (0, .ref (gm G 0)), (1, .int (nI wd))]) hx hb dX4_coverSet_80 hl (by decide) rfl (fun ls hl => ?_)
                      refine lv_iinc (v := nI (i + 1)) (lv' := [(5, .int (nI (i + 1))), (4, .int (nI ((grN (fun i => orN (posN (S i)) 31) g i) ||| 0))), (2, .int (oI (cvN (fun i => orN (posN (S i)) 31) n wd g))), (3, .int (nI g)), (0, .ref (gm G 0)), (1, .int (nI wd))]) hx hb dX4_coverSet_82 hl (k := 1) rfl (inc1 i) (by decide) rfl (fun ls hl => ?_)
                      refine lv_goto (tgt := 47) hx hb dX4_coverSet_85 (by decide) ?_
                      exact ih_47 (i + 1) _ _ (by omega) (by first | exact congrArg nI (gq_y (P := (fun i => orN (posN (S i)) 31)) q_65) | exact congrArg nI (gq_n0 (P := (fun i => orN (posN (S i)) 31)) q_65)) rfl (by omega) ls (lv_sub hl [1, 0, 2, 3, 4, 5] rfl)
                    · skip
                      have q_65 := tN_eq (g / 2 ^ i % 2) 1 c_65 rfl rfl (by omega) (by omega)
                      refine lv_aload_n hx hb dX4_coverSet_68 rfl (lv_at hl 4 rfl) ?_
                      refine rd_X4_19 hx hb hown hW dX4_coverSet_69 ?_
                      refine lv_iload hx hb dX4_coverSet_72 (lv_at hl 1 rfl) ?_
                      refine al_M (k := i) 4 hx hb hW rfl (show _ < 6 by omega) dX4_coverSet_74 ?_
                      refine lv_eqi (y := nI (orN (posN (S i)) 31)) (hw0_2 i (by omega)) ?_
                      refine lv_goto (tgt := 79) hx hb dX4_coverSet_75 (by decide) ?_
                      refine lv_ior hx hb dX4_coverSet_79 ?_
                      refine lv_eqi (y := nI ((grN (fun i => orN (posN (S i)) 31) g i) ||| (orN (posN (S i)) 31))) (nI_or (grN (fun i => orN (posN (S i)) 31) g i) (orN (posN (S i)) 31)) ?_
                      refine lv_istore (lv' := [(4, .int (nI ((grN (fun i => orN (posN (S i)) 31) g i) ||| (orN (posN (S i)) 31)))), (5, .int (nI i)), (2, .int (oI (cvN (fun i => orN (posN (S i)) 31) n wd g))), (3, .int (nI g)), (0, .ref (gm G 0)), (1, .int (nI wd))]) hx hb dX4_coverSet_80 hl (by decide) rfl (fun ls hl => ?_)
                      refine lv_iinc (v := nI (i + 1)) (lv' := [(5, .int (nI (i + 1))), (4, .int (nI ((grN (fun i => orN (posN (S i)) 31) g i) ||| (orN (posN (S i)) 31)))), (2, .int (oI (cvN (fun i => orN (posN (S i)) 31) n wd g))), (3, .int (nI g)), (0, .ref (gm G 0)), (1, .int (nI wd))]) hx hb dX4_coverSet_82 hl (k := 1) rfl (inc1 i) (by decide) rfl (fun ls hl => ?_)
                      refine lv_goto (tgt := 47) hx hb dX4_coverSet_85 (by decide) ?_
                      exact ih_47 (i + 1) _ _ (by omega) (by first | exact congrArg nI (gq_y (P := (fun i => orN (posN (S i)) 31)) q_65) | exact congrArg nI (gq_n0 (P := (fun i => orN (posN (S i)) 31)) q_65)) rfl (by omega) ls (lv_sub hl [1, 0, 2, 3, 4, 5] rfl)
              exact loop_47 _ 0 _ _ (Nat.lt_succ_self _) rfl rfl (by omega) ls (lv_sub hl [1, 0, 2, 3, 4, 5] rfl)
        exact loop_31 _ 0 _ _ (Nat.lt_succ_self _) rfl rfl (Nat.zero_le _) ls (lv_sub hl [1, 0, 2, 3] rfl)
      · skip
        have q_7 := tN_nle n k c_7 rfl rfl (by omega) (by omega)
        refine lv_aload_n hx hb dX4_coverSet_10 rfl (lv_at hl 1 rfl) ?_
        refine rd_X4_19 hx hb hown hW dX4_coverSet_11 ?_
        refine lv_iload_n hx hb dX4_coverSet_14 rfl (lv_at hl 0 rfl) ?_
        refine lv_aload_n hx hb dX4_coverSet_15 rfl (lv_at hl 1 rfl) ?_
        refine lv_iload_n hx hb dX4_coverSet_16 rfl (lv_at hl 0 rfl) ?_
        refine cr_i (q := 706) [.int (nI k)] hx hb hml hown hG v_X4_placesOf (by decide +kernel) (c_X4_placesOf l G μw hw n S q V ch hgw k (by omega)) (preM hW _) rfl hl.1 (Nat.le_of_ble_eq_true rfl) dX4_coverSet_17 ⟨rfl, rfl, Nat.le_of_ble_eq_true rfl, Nat.le_of_ble_eq_true rfl⟩ ⟨Nat.le_of_ble_eq_true rfl, Nat.le_of_ble_eq_true rfl⟩ ?_
        refine lv_eqi (y := nI (orN (posN (S k)) 31)) (congrArg nI (orN_at (hg.2.2.2.1 k (by omega)).1.2.2.1 (hg.2.2.2.1 k (by omega)).2.2.1)) ?_
        refine as_M (k := k) 4 hx hb hW hS rfl (show _ < 6 by omega) dX4_coverSet_20 (fun H locs hW hS => ?_)
        obtain ⟨μ1, hμ1⟩ : ∃ z, z = up2 μw 4 k (nI (orN (posN (S k)) 31)) := ⟨_, rfl⟩
        rw [← hμ1] at hW
        refine lv_iinc (v := nI (k + 1)) (lv' := [(2, .int (nI (k + 1))), (0, .ref (gm G 0)), (1, .int (nI wd))]) hx hb dX4_coverSet_21 hl (k := 0) rfl (inc1 k) (by decide) rfl (fun ls hl => ?_)
        refine lv_goto (tgt := 2) hx hb dX4_coverSet_24 (by decide) ?_
        exact ih_2 (k + 1) _ _ _ _ _ (by omega) rfl (by omega) hW hS (by subst hμ1; exact fill_s (f := (fun i => orN (posN (S i)) 31)) hw0_2) (by subst hμ1; exact hw1_2.up (Or.inl rfl)) ls (lv_sub hl [0, 1, 2] rfl)
  exact loop_2 _ 0 _ _ _ _ _ (Nat.lt_succ_self _) rfl (by omega) hW hS (fun i hi => absurd hi (by omega)) KP.rf ls (lv_sub hl [0, 1, 2] rfl)
set_option maxHeartbeats 4000000 in
set_option maxRecDepth 100000 in
theorem c_X4_coverOf (l : Launch) (G : Gam) (μ : St) (hs : Int64) (n : Nat) (S : Nat → Sk) (q : Nat) (V : Nat → Nat) (ch : Int32) (hg : RM μ n S q V ch) (wd u : Nat) (hw6 : wd < 65536) (hu : u < 2) : Met l yX4_coverOf (w1 yX4_coverOf cX4_coverOf 4 (some .int)) ({ frames := 5, cells := 0, slots := 0, locals := 123 }) (PcM G μ hs [.ref (gm G 0), .int (nI wd), .int (nI u)]) (QiM G (fun r u9 => r = covA (PL S) n wd u ∧ KP μ hs u9)) 0 0 (aM G) := by
  refine met_of [.ref (gm G 0), .int (nI wd), .int (nI u)] [(0, .ref (gm G 0)), (1, .int (nI wd)), (2, .int (nI u))] (by decide) (Nat.le_of_ble_eq_true rfl) rfl ?_
  intro p e s m below meth c hx hb hr hown hml hlocks hW ls hl
  have hG : GW s := hW.2.2.2
  have hS : va_S (aM G) s.heap s.heap [] := va_S.rf
  have hn6 := hg.1.2
  have hq8 := hg.2.2.1.2
  have h2n := p2_64 hn6
  refine lv_aload_n hx hb dX4_coverOf_0 rfl (lv_at hl 0 rfl) ?_
  refine lv_iload_n hx hb dX4_coverOf_1 rfl (lv_at hl 1 rfl) ?_
  refine cm_i (q := 769) [.int (nI wd)] hx hb hml hown hW.2 hS v_X4_coverSet (by decide +kernel) (c_X4_coverSet l G μ hs n S q V ch hg wd hw6) (preM hW _) rfl hl.1 (Nat.le_of_ble_eq_true rfl) dX4_coverOf_2 ⟨rfl, rfl, Nat.le_of_ble_eq_true rfl, Nat.le_of_ble_eq_true rfl⟩ ⟨Nat.le_of_ble_eq_true rfl, Nat.le_of_ble_eq_true rfl⟩ (fun r_2 μ1 hs1 H locs hμ1 hW hS => ?_)
  obtain ⟨hr2, hk2⟩ := hμ1
  subst hr2
  refine lv_istore_n (lv' := [(3, .int (oI (cvN (PL S) n wd (2 ^ n)))), (0, .ref (gm G 0)), (1, .int (nI wd)), (2, .int (nI u))]) hx hb dX4_coverOf_5 rfl hl (by decide) rfl (fun ls hl => ?_)
  rcases ho : cvN (PL S) n wd (2 ^ n) with _ | b
  · skip
    rw [show oI _ = _ from congrArg oI ho] at hl
    have hl : lv_has ls 4 [(3, .int ((-1))), (0, .ref (gm G 0)), (1, .int (nI wd)), (2, .int (nI u))] := hl
    refine lv_iload_n hx hb dX4_coverOf_6 rfl (lv_at hl 0 rfl) ?_
    refine lv_iconst (v := (-1)) hx hb dX4_coverOf_7 (by decide) ?_
    refine lv_icmp_eq (tgt := 16) hx hb dX4_coverOf_8 (by decide) (fun c_8 => ?_) (fun c_8 => ?_)
    · skip
      refine lv_iload_n hx hb dX4_coverOf_16 rfl (lv_at hl 0 rfl) ?_
      refine lv_goto (tgt := 24) hx hb dX4_coverOf_17 (by decide) ?_
      exact W.iret (v := (-1)) hx hb hr (fun t9 ht9 hW9 => ⟨⟨_, (μ1, hs1), rfl, ⟨(covA_n ho).symm, hk2⟩, (by have h8 := hW.1; rw [← ht9] at h8; exact h8)⟩, hS.F ht9⟩) hS.2.2 dX4_coverOf_24
    · skip
      exact absurd (by decide) c_8
  · skip
    rw [show oI _ = _ from congrArg oI ho] at hl
    have hbg := cvN_lt ho
    have hl : lv_has ls 4 [(3, .int (nI b)), (0, .ref (gm G 0)), (1, .int (nI wd)), (2, .int (nI u))] := hl
    refine lv_iload_n hx hb dX4_coverOf_6 rfl (lv_at hl 0 rfl) ?_
    refine lv_iconst (v := (-1)) hx hb dX4_coverOf_7 (by decide) ?_
    refine lv_icmp_eq (tgt := 16) hx hb dX4_coverOf_8 (by decide) (fun c_8 => ?_) (fun c_8 => ?_)
    · skip
      exact absurd c_8 (nI_nm1 (by omega))
    · skip
      refine lv_iload_n hx hb dX4_coverOf_11 rfl (lv_at hl 3 rfl) ?_
      refine lv_iconst (v := 1) hx hb dX4_coverOf_12 (by decide) ?_
      refine lv_icmp_ne (tgt := 20) hx hb dX4_coverOf_13 (by decide) (fun c_13 => ?_) (fun c_13 => ?_)
      · skip
        have q_13 := tN_ne u 1 c_13 rfl rfl (by omega) (by omega)
        refine lv_iload_n hx hb dX4_coverOf_20 rfl (lv_at hl 0 rfl) ?_
        refine cs_i (q := 710) [.int (nI b)] hx hb hml hown hG v_X4_ones (by decide +kernel) (c_X4_ones l b (by omega)) (preT _) rfl hl.1 (Nat.le_of_ble_eq_true rfl) dX4_coverOf_21 ⟨rfl, rfl, Nat.le_of_ble_eq_true rfl, Nat.le_of_ble_eq_true rfl⟩ ⟨Nat.le_of_ble_eq_true rfl, Nat.le_of_ble_eq_true rfl⟩ ?_
        exact W.iret (v := nI (popN b)) hx hb hr (fun t9 ht9 hW9 => ⟨⟨_, (μ1, hs1), rfl, ⟨(covA_0 ho q_13).symm, hk2⟩, (by have h8 := hW.1; rw [← ht9] at h8; exact h8)⟩, hS.F ht9⟩) hS.2.2 dX4_coverOf_24
      · skip
        have q_13 := tN_eq u 1 c_13 rfl rfl (by omega) (by omega)
        refine lv_iload_n hx hb dX4_coverOf_16 rfl (lv_at hl 0 rfl) ?_
        refine lv_goto (tgt := 24) hx hb dX4_coverOf_17 (by decide) ?_
        exact W.iret (v := nI b) hx hb hr (fun t9 ht9 hW9 => ⟨⟨_, (μ1, hs1), rfl, ⟨(covA_1 ho q_13).symm, hk2⟩, (by have h8 := hW.1; rw [← ht9] at h8; exact h8)⟩, hS.F ht9⟩) hS.2.2 dX4_coverOf_24
set_option maxHeartbeats 4000000 in
set_option maxRecDepth 100000 in
theorem c_X4_cover (l : Launch) (G : Gam) (μ : St) (hs : Int64) (n : Nat) (S : Nat → Sk) (q : Nat) (V : Nat → Nat) (ch : Int32) (hg : RM μ n S q V ch) (x y : Int32) : Met l yX4_cover (w1 yX4_cover cX4_cover 3 (some .int)) ({ frames := 6, cells := 0, slots := 0, locals := 146 }) (PcM G μ hs [.ref (gm G 0), .int x, .int y]) (QiM G (fun r u9 => r = aCover n S x y ∧ KP μ hs u9)) 0 0 (aM G) := by
  have hn6 := hg.1.2
  have hq8 := hg.2.2.1.2
  rcases hasB_c x (n := 65536) (by omega) with hx0 | ⟨k, hk, rfl⟩
  · skip
    refine met_of [.ref (gm G 0), .int x, .int y] [(0, .ref (gm G 0)), (1, .int x), (2, .int y)] (by decide) (Nat.le_of_ble_eq_true rfl) rfl ?_
    intro p e s m below meth c hx hb hr hown hml hlocks hW ls hl
    have hG : GW s := hW.2.2.2
    have hS : va_S (aM G) s.heap s.heap [] := va_S.rf
    refine lv_iload_n hx hb dX4_cover_0 rfl (lv_at hl 1 rfl) ?_
    refine lv_i2l hx hb dX4_cover_1 rfl ?_
    refine lv_lconst (v := 0) hx hb dX4_cover_2 rfl ?_
    refine lv_ldc2 (v := 65535) hx hb hown (hG.use (i := 760) (by decide +kernel) rfl _) dX4_cover_3 ?_
    refine cs_i (q := 641) [.long ((x : Int32).toInt64), .long 0, .long 65535] hx hb hml hown hG v_X4_in (by decide +kernel) (c_X4_in l ((x : Int32).toInt64) (0) (65535)) (preT _) rfl hl.1 (Nat.le_of_ble_eq_true rfl) dX4_cover_6 ⟨rfl, rfl, Nat.le_of_ble_eq_true rfl, Nat.le_of_ble_eq_true rfl⟩ ⟨Nat.le_of_ble_eq_true rfl, Nat.le_of_ble_eq_true rfl⟩ ?_
    refine lv_eqi (y := 0) (by rw [inI _ 65535 65535 rfl (by omega), hx0]; rfl) ?_
    refine lv_if_eq (tgt := 22) hx hb dX4_cover_9 (by decide) (fun c_9 => ?_) (fun c_9 => ?_)
    · skip
      refine lv_bipush (v := (-102)) hx hb dX4_cover_22 (by decide) ?_
      exact W.iret (v := (-102)) hx hb hr (fun t9 ht9 hW9 => ⟨⟨_, (μ, hs), rfl, ⟨(wK_f hx0).symm, KP.rf⟩, (by have h8 := hW.1; rw [← ht9] at h8; exact h8)⟩, hS.F ht9⟩) hS.2.2 dX4_cover_24
    · skip
      exact absurd (by decide) c_9
  · skip
    rcases hasB_c y (n := 2) (by omega) with hy0 | ⟨t, ht, rfl⟩
    · skip
      refine met_of [.ref (gm G 0), .int (nI k), .int y] [(0, .ref (gm G 0)), (1, .int (nI k)), (2, .int y)] (by decide) (Nat.le_of_ble_eq_true rfl) rfl ?_
      intro p e s m below meth c hx hb hr hown hml hlocks hW ls hl
      have hG : GW s := hW.2.2.2
      have hS : va_S (aM G) s.heap s.heap [] := va_S.rf
      refine lv_iload_n hx hb dX4_cover_0 rfl (lv_at hl 1 rfl) ?_
      refine lv_i2l hx hb dX4_cover_1 rfl ?_
      refine lv_lconst (v := 0) hx hb dX4_cover_2 rfl ?_
      refine lv_ldc2 (v := 65535) hx hb hown (hG.use (i := 760) (by decide +kernel) rfl _) dX4_cover_3 ?_
      refine cs_i (q := 641) [.long ((nI k : Int32).toInt64), .long 0, .long 65535] hx hb hml hown hG v_X4_in (by decide +kernel) (c_X4_in l ((nI k : Int32).toInt64) (0) (65535)) (preT _) rfl hl.1 (Nat.le_of_ble_eq_true rfl) dX4_cover_6 ⟨rfl, rfl, Nat.le_of_ble_eq_true rfl, Nat.le_of_ble_eq_true rfl⟩ ⟨Nat.le_of_ble_eq_true rfl, Nat.le_of_ble_eq_true rfl⟩ ?_
      refine lv_eqi (y := 1) (by rw [inI _ 65535 65535 rfl (by omega), hasB_k hk (by omega)]; rfl) ?_
      refine lv_if_eq (tgt := 22) hx hb dX4_cover_9 (by decide) (fun c_9 => ?_) (fun c_9 => ?_)
      · skip
        exact absurd c_9 (by decide)
      · skip
        refine lv_iload_n hx hb dX4_cover_12 rfl (lv_at hl 2 rfl) ?_
        refine lv_i2l hx hb dX4_cover_13 rfl ?_
        refine lv_lconst (v := 0) hx hb dX4_cover_14 rfl ?_
        refine lv_lconst (v := 1) hx hb dX4_cover_15 rfl ?_
        refine cs_i (q := 641) [.long ((y : Int32).toInt64), .long 0, .long 1] hx hb hml hown hG v_X4_in (by decide +kernel) (c_X4_in l ((y : Int32).toInt64) (0) (1)) (preT _) rfl hl.1 (Nat.le_of_ble_eq_true rfl) dX4_cover_16 ⟨rfl, rfl, Nat.le_of_ble_eq_true rfl, Nat.le_of_ble_eq_true rfl⟩ ⟨Nat.le_of_ble_eq_true rfl, Nat.le_of_ble_eq_true rfl⟩ ?_
        refine lv_eqi (y := 0) (by rw [inI _ 1 1 rfl (by omega), hy0]; rfl) ?_
        refine lv_if_ne (tgt := 25) hx hb dX4_cover_19 (by decide) (fun c_19 => ?_) (fun c_19 => ?_)
        · skip
          exact absurd (by decide) c_19
        · skip
          refine lv_bipush (v := (-102)) hx hb dX4_cover_22 (by decide) ?_
          exact W.iret (v := (-102)) hx hb hr (fun t9 ht9 hW9 => ⟨⟨_, (μ, hs), rfl, ⟨(by rw [aCover, wK_k hk (by omega), wK_f hy0]), KP.rf⟩, (by have h8 := hW.1; rw [← ht9] at h8; exact h8)⟩, hS.F ht9⟩) hS.2.2 dX4_cover_24
    · skip
      refine met_of [.ref (gm G 0), .int (nI k), .int (nI t)] [(0, .ref (gm G 0)), (1, .int (nI k)), (2, .int (nI t))] (by decide) (Nat.le_of_ble_eq_true rfl) rfl ?_
      intro p e s m below meth c hx hb hr hown hml hlocks hW ls hl
      have hG : GW s := hW.2.2.2
      have hS : va_S (aM G) s.heap s.heap [] := va_S.rf
      refine lv_iload_n hx hb dX4_cover_0 rfl (lv_at hl 1 rfl) ?_
      refine lv_i2l hx hb dX4_cover_1 rfl ?_
      refine lv_lconst (v := 0) hx hb dX4_cover_2 rfl ?_
      refine lv_ldc2 (v := 65535) hx hb hown (hG.use (i := 760) (by decide +kernel) rfl _) dX4_cover_3 ?_
      refine cs_i (q := 641) [.long ((nI k : Int32).toInt64), .long 0, .long 65535] hx hb hml hown hG v_X4_in (by decide +kernel) (c_X4_in l ((nI k : Int32).toInt64) (0) (65535)) (preT _) rfl hl.1 (Nat.le_of_ble_eq_true rfl) dX4_cover_6 ⟨rfl, rfl, Nat.le_of_ble_eq_true rfl, Nat.le_of_ble_eq_true rfl⟩ ⟨Nat.le_of_ble_eq_true rfl, Nat.le_of_ble_eq_true rfl⟩ ?_
      refine lv_eqi (y := 1) (by rw [inI _ 65535 65535 rfl (by omega), hasB_k hk (by omega)]; rfl) ?_
      refine lv_if_eq (tgt := 22) hx hb dX4_cover_9 (by decide) (fun c_9 => ?_) (fun c_9 => ?_)
      · skip
        exact absurd c_9 (by decide)
      · skip
        refine lv_iload_n hx hb dX4_cover_12 rfl (lv_at hl 2 rfl) ?_
        refine lv_i2l hx hb dX4_cover_13 rfl ?_
        refine lv_lconst (v := 0) hx hb dX4_cover_14 rfl ?_
        refine lv_lconst (v := 1) hx hb dX4_cover_15 rfl ?_
        refine cs_i (q := 641) [.long ((nI t : Int32).toInt64), .long 0, .long 1] hx hb hml hown hG v_X4_in (by decide +kernel) (c_X4_in l ((nI t : Int32).toInt64) (0) (1)) (preT _) rfl hl.1 (Nat.le_of_ble_eq_true rfl) dX4_cover_16 ⟨rfl, rfl, Nat.le_of_ble_eq_true rfl, Nat.le_of_ble_eq_true rfl⟩ ⟨Nat.le_of_ble_eq_true rfl, Nat.le_of_ble_eq_true rfl⟩ ?_
        refine lv_eqi (y := 1) (by rw [inI _ 1 1 rfl (by omega), hasB_k ht (by omega)]; rfl) ?_
        refine lv_if_ne (tgt := 25) hx hb dX4_cover_19 (by decide) (fun c_19 => ?_) (fun c_19 => ?_)
        · skip
          refine lv_aload_n hx hb dX4_cover_25 rfl (lv_at hl 0 rfl) ?_
          refine cr_i (q := 761) [] hx hb hml hown hG v_X4_lacks (by decide +kernel) (c_X4_lacks l G μ hs n S q V ch hg) (preM hW _) rfl hl.1 (Nat.le_of_ble_eq_true rfl) dX4_cover_26 ⟨rfl, rfl, Nat.le_of_ble_eq_true rfl, Nat.le_of_ble_eq_true rfl⟩ ⟨Nat.le_of_ble_eq_true rfl, Nat.le_of_ble_eq_true rfl⟩ ?_
          refine lv_if_eq (tgt := 37) hx hb dX4_cover_29 (by decide) (fun c_29 => ?_) (fun c_29 => ?_)
          · skip
            have b_29 := bI_0 c_29
            refine lv_aload_n hx hb dX4_cover_37 rfl (lv_at hl 0 rfl) ?_
            refine lv_iload_n hx hb dX4_cover_38 rfl (lv_at hl 1 rfl) ?_
            refine lv_iload_n hx hb dX4_cover_39 rfl (lv_at hl 2 rfl) ?_
            refine cm_i (q := 765) [.int (nI k), .int (nI t)] hx hb hml hown hW.2 hS v_X4_coverOf (by decide +kernel) (c_X4_coverOf l G μ hs n S q V ch hg k t hk ht) (preM hW _) rfl hl.1 (Nat.le_of_ble_eq_true rfl) dX4_cover_40 ⟨rfl, rfl, Nat.le_of_ble_eq_true rfl, Nat.le_of_ble_eq_true rfl⟩ ⟨Nat.le_of_ble_eq_true rfl, Nat.le_of_ble_eq_true rfl⟩ (fun r_40 μ1 hs1 H locs hμ1 hW hS => ?_)
            obtain ⟨hr2, hk2⟩ := hμ1
            subst hr2
            exact W.iret (v := covA (PL S) n k t) hx hb hr (fun t9 ht9 hW9 => ⟨⟨_, (μ1, hs1), rfl, ⟨(by rw [aCover, wK_k hk (by omega), wK_k ht (by omega), if_neg (of_decide_eq_false b_29)]), hk2⟩, (by have h8 := hW.1; rw [← ht9] at h8; exact h8)⟩, hS.F ht9⟩) hS.2.2 dX4_cover_43
          · skip
            have b_29 := bI_1 c_29
            refine lv_bipush (v := (-103)) hx hb dX4_cover_32 (by decide) ?_
            refine lv_goto (tgt := 43) hx hb dX4_cover_34 (by decide) ?_
            exact W.iret (v := (-103)) hx hb hr (fun t9 ht9 hW9 => ⟨⟨_, (μ, hs), rfl, ⟨(by rw [aCover, wK_k hk (by omega), wK_k ht (by omega), if_pos (of_decide_eq_true b_29)]), KP.rf⟩, (by have h8 := hW.1; rw [← ht9] at h8; exact h8)⟩, hS.F ht9⟩) hS.2.2 dX4_cover_43
        · skip
          exact absurd c_19 (by decide)
set_option maxHeartbeats 4000000 in
set_option maxRecDepth 100000 in
theorem c_X4_lookOf (l : Launch) (G : Gam) (μ : St) (hs : Int64) (n : Nat) (S : Nat → Sk) (q : Nat) (V : Nat → Nat) (ch : Int32) (hg : RM μ n S q V ch) : Met l yX4_lookOf (w1 yX4_lookOf cX4_lookOf 8 (some .int)) ({ frames := 4, cells := 0, slots := 0, locals := 99 }) (PcM G μ hs [.ref (gm G 0)]) (QiM G (fun r u9 => r = (if whN (OKf S q V) n = 0 then -1 else nI (lkN (fun t => mlN (whN (OKf S q V) n) (fun i => atN (S i) t) n n) 30).1) ∧ KP μ hs u9)) 0 0 (aM G) := by
  refine met_of [.ref (gm G 0)] [(0, .ref (gm G 0))] (by decide) (Nat.le_of_ble_eq_true rfl) rfl ?_
  intro p e s m below meth c hx hb hr hown hml hlocks hW ls hl
  have hG : GW s := hW.2.2.2
  have hS : va_S (aM G) s.heap s.heap [] := va_S.rf
  have hn6 := hg.1.2
  have hq8 := hg.2.2.1.2
  obtain ⟨C, hC⟩ : ∃ C, whN (OKf S q V) n = C := ⟨_, rfl⟩
  have hC6 : C < 64 := Nat.lt_of_lt_of_le (hC ▸ whN_lt n) (p2_64 hn6)
  refine lv_aload_n hx hb dX4_lookOf_0 rfl (lv_at hl 0 rfl) ?_
  refine cr_i (q := 797) [] hx hb hml hown hG v_X4_whoseOf (by decide +kernel) (c_X4_whoseOf l G μ hs n S q V ch hg) (preM hW _) rfl hl.1 (Nat.le_of_ble_eq_true rfl) dX4_lookOf_1 ⟨rfl, rfl, Nat.le_of_ble_eq_true rfl, Nat.le_of_ble_eq_true rfl⟩ ⟨Nat.le_of_ble_eq_true rfl, Nat.le_of_ble_eq_true rfl⟩ ?_
  refine lv_eqi (y := nI C) (by rw [hC]) ?_
  refine lv_istore_n (lv' := [(1, .int (nI C)), (0, .ref (gm G 0))]) hx hb dX4_lookOf_4 rfl hl (by decide) rfl (fun ls hl => ?_)
  refine lv_iconst (v := (-1)) hx hb dX4_lookOf_5 (by decide) ?_
  refine lv_istore_n (lv' := [(2, .int ((-1))), (1, .int (nI C)), (0, .ref (gm G 0))]) hx hb dX4_lookOf_6 rfl hl (by decide) rfl (fun ls hl => ?_)
  refine lv_bipush (v := 7) hx hb dX4_lookOf_7 (by decide) ?_
  refine lv_istore_n (lv' := [(3, .int 7), (2, .int ((-1))), (1, .int (nI C)), (0, .ref (gm G 0))]) hx hb dX4_lookOf_9 rfl hl (by decide) rfl (fun ls hl => ?_)
  refine lv_iconst (v := 0) hx hb dX4_lookOf_10 (by decide) ?_
  refine lv_istore (lv' := [(4, .int 0), (3, .int 7), (2, .int ((-1))), (1, .int (nI C)), (0, .ref (gm G 0))]) hx hb dX4_lookOf_11 hl (by decide) rfl (fun ls hl => ?_)
  have loop_13 : ∀ (N9 : Nat) (t : Nat) (be : Int32) (le : Int32) (ho : Int32) (μw : St) (hw : Int64) (H : Heap) (locs : List Loc), 31 - t < N9 → be = lbI (fun t => mlN C (fun i => atN (S i) t) n n) t → le = nI (llN (fun t => mlN C (fun i => atN (S i) t) n n) t) → ho = nI t → t ≤ 31 → t = 0 ∨ C ≠ 0 → WM G μw hw s H → va_S (aM G) s.heap H locs → KP μ hs (μw, hw) → ∀ ls : Array Slot, lv_has ls 8 [(2, .int be), (3, .int le), (4, .int ho), (1, .int (nI C)), (0, .ref (gm G 0))] → W p l e (headSpec (w1 yX4_lookOf cX4_lookOf 8 (some .int)) ({ frames := 4, cells := 0, slots := 0, locals := 99 })).room s m [.ref (gm G 0)].toArray below meth c H locs 0 0 (MQ below (QiM G (fun r u9 => r = (if whN (OKf S q V) n = 0 then -1 else nI (lkN (fun t => mlN (whN (OKf S q V) n) (fun i => atN (S i) t) n n) 30).1) ∧ KP μ hs u9)) [.ref (gm G 0)].toArray s 0 0 (aM G)) (F0 m 13 ls []) := by
    intro N9
    induction N9 with
    | zero => intro t be le ho μw hw H locs hN; exact absurd hN (Nat.not_lt_zero _)
    | succ N9 ih =>
      intro t be le ho μw hw H locs hN e_be e_le e_ho hi0_13 hi1_13 hW hS hw0_13 ls hl
      subst e_be
      subst e_le
      subst e_ho
      have ih_13 := ih
      have hll9 := ll_le (w := (fun t => mlN C (fun i => atN (S i) t) n n)) (fun t => Nat.le_trans (mlN_le n) hn6) t
      refine lv_iload hx hb dX4_lookOf_13 (lv_at hl 2 rfl) ?_
      refine lv_bipush (v := 31) hx hb dX4_lookOf_15 (by decide) ?_
      refine lv_icmp_ge (tgt := 153) hx hb dX4_lookOf_17 (by decide) (fun c_17 => ?_) (fun c_17 => ?_)
      · skip
        have q_17 := tN_le 31 t c_17 rfl rfl (by omega) (by omega)
        refine lv_iload_n hx hb dX4_lookOf_153 rfl (lv_at hl 0 rfl) ?_
        exact W.iret (v := lbI (fun t => mlN C (fun i => atN (S i) t) n n) t) hx hb hr (fun t9 ht9 hW9 => ⟨⟨_, (μw, hw), rfl, ⟨(by have h9 : t = 31 := (by omega); subst h9; show _ = (if _ = 0 then _ else _); rw [hC, if_neg (by omega)]; rfl), hw0_13⟩, (by have h8 := hW.1; rw [← ht9] at h8; exact h8)⟩, hS.F ht9⟩) hS.2.2 dX4_lookOf_154
      · skip
        have q_17 := tN_nle 31 t c_17 rfl rfl (by omega) (by omega)
        refine lv_iload_n hx hb dX4_lookOf_20 rfl (lv_at hl 3 rfl) ?_
        refine lv_if_eq (tgt := 153) hx hb dX4_lookOf_21 (by decide) (fun c_21 => ?_) (fun c_21 => ?_)
        · skip
          have q_21 := tN_eq C 0 c_21 rfl rfl (by omega) (by omega)
          refine lv_iload_n hx hb dX4_lookOf_153 rfl (lv_at hl 0 rfl) ?_
          exact W.iret (v := lbI (fun t => mlN C (fun i => atN (S i) t) n n) t) hx hb hr (fun t9 ht9 hW9 => ⟨⟨_, (μw, hw), rfl, ⟨(by have h9 : t = 0 := (by omega); subst h9; show _ = (if _ = 0 then _ else _); rw [hC, if_pos q_21]; rfl), hw0_13⟩, (by have h8 := hW.1; rw [← ht9] at h8; exact h8)⟩, hS.F ht9⟩) hS.2.2 dX4_lookOf_154
        · skip
          have q_21 := tN_ne C 0 c_21 rfl rfl (by omega) (by omega)
          refine lv_iconst (v := 0) hx hb dX4_lookOf_24 (by decide) ?_
          refine lv_istore (lv' := [(5, .int 0), (2, .int (lbI (fun t => mlN C (fun i => atN (S i) t) n n) t)), (3, .int (nI (llN (fun t => mlN C (fun i => atN (S i) t) n n) t))), (4, .int (nI t)), (1, .int (nI C)), (0, .ref (gm G 0))]) hx hb dX4_lookOf_25 hl (by decide) rfl (fun ls hl => ?_)
          have loop_27 : ∀ (N9 : Nat) (j : Nat) (jo : Int32) (μw : St) (hw : Int64) (H : Heap) (locs : List Loc), 16 - j < N9 → jo = nI j → j ≤ 16 → WM G μw hw s H → va_S (aM G) s.heap H locs → ((∀ y9, y9 < j → μw 6 y9 = nI 0)) → KP μ hs (μw, hw) → ∀ ls : Array Slot, lv_has ls 8 [(5, .int jo), (2, .int (lbI (fun t => mlN C (fun i => atN (S i) t) n n) t)), (3, .int (nI (llN (fun t => mlN C (fun i => atN (S i) t) n n) t))), (4, .int (nI t)), (1, .int (nI C)), (0, .ref (gm G 0))] → W p l e (headSpec (w1 yX4_lookOf cX4_lookOf 8 (some .int)) ({ frames := 4, cells := 0, slots := 0, locals := 99 })).room s m [.ref (gm G 0)].toArray below meth c H locs 0 0 (MQ below (QiM G (fun r u9 => r = (if whN (OKf S q V) n = 0 then -1 else nI (lkN (fun t => mlN (whN (OKf S q V) n) (fun i => atN (S i) t) n n) 30).1) ∧ KP μ hs u9)) [.ref (gm G 0)].toArray s 0 0 (aM G)) (F0 m 27 ls []) := by
            intro N9
            induction N9 with
            | zero => intro j jo μw hw H locs hN; exact absurd hN (Nat.not_lt_zero _)
            | succ N9 ih =>
              intro j jo μw hw H locs hN e_jo hi0_27 hW hS hw0_27 hw1_27 ls hl
              subst e_jo
              have ih_27 := ih
              refine lv_iload hx hb dX4_lookOf_27 (lv_at hl 0 rfl) ?_
              refine lv_bipush (v := 16) hx hb dX4_lookOf_29 (by decide) ?_
              refine lv_icmp_ge (tgt := 48) hx hb dX4_lookOf_31 (by decide) (fun c_31 => ?_) (fun c_31 => ?_)
              · skip
                have q_31 := tN_le 16 j c_31 rfl rfl (by omega) (by omega)
                refine lv_iconst (v := 0) hx hb dX4_lookOf_48 (by decide) ?_
                refine lv_istore (lv' := [(5, .int 0), (2, .int (lbI (fun t => mlN C (fun i => atN (S i) t) n n) t)), (3, .int (nI (llN (fun t => mlN C (fun i => atN (S i) t) n n) t))), (4, .int (nI t)), (1, .int (nI C)), (0, .ref (gm G 0))]) hx hb dX4_lookOf_49 hl (by decide) rfl (fun ls hl => ?_)
                refine lv_iconst (v := 0) hx hb dX4_lookOf_51 (by decide) ?_
                refine lv_istore (lv' := [(6, .int 0), (5, .int 0), (2, .int (lbI (fun t => mlN C (fun i => atN (S i) t) n n) t)), (3, .int (nI (llN (fun t => mlN C (fun i => atN (S i) t) n n) t))), (4, .int (nI t)), (1, .int (nI C)), (0, .ref (gm G 0))]) hx hb dX4_lookOf_52 hl (by decide) rfl (fun ls hl => ?_)
                have loop_54 : ∀ (N9 : Nat) (k : Nat) (wo : Int32) (ko : Int32) (μw : St) (hw : Int64) (H : Heap) (locs : List Loc), n - k < N9 → wo = nI (wsN C (fun i => atN (S i) t) k) → ko = nI k → k ≤ n → WM G μw hw s H → va_S (aM G) s.heap H locs → ((∀ y9, y9 < 16 → μw 6 y9 = nI (ctN C (fun i => atN (S i) t) y9 k))) → KP μ hs (μw, hw) → ∀ ls : Array Slot, lv_has ls 8 [(5, .int wo), (6, .int ko), (2, .int (lbI (fun t => mlN C (fun i => atN (S i) t) n n) t)), (3, .int (nI (llN (fun t => mlN C (fun i => atN (S i) t) n n) t))), (4, .int (nI t)), (1, .int (nI C)), (0, .ref (gm G 0))] → W p l e (headSpec (w1 yX4_lookOf cX4_lookOf 8 (some .int)) ({ frames := 4, cells := 0, slots := 0, locals := 99 })).room s m [.ref (gm G 0)].toArray below meth c H locs 0 0 (MQ below (QiM G (fun r u9 => r = (if whN (OKf S q V) n = 0 then -1 else nI (lkN (fun t => mlN (whN (OKf S q V) n) (fun i => atN (S i) t) n n) 30).1) ∧ KP μ hs u9)) [.ref (gm G 0)].toArray s 0 0 (aM G)) (F0 m 54 ls []) := by
                  intro N9
                  induction N9 with
                  | zero => intro k wo ko μw hw H locs hN; exact absurd hN (Nat.not_lt_zero _)
                  | succ N9 ih =>
                    intro k wo ko μw hw H locs hN e_wo e_ko hi0_54 hW hS hw0_54 hw1_54 ls hl
                    subst e_wo
                    subst e_ko
                    have ih_54 := ih
                    have hgw := hw1_54.rm hg
                    have hws1 := ws_n6 (C := C) (f := (fun i => atN (S i) t)) k
                    refine lv_iload hx hb dX4_lookOf_54 (lv_at hl 1 rfl) ?_
                    refine lv_aload_n hx hb dX4_lookOf_56 rfl (lv_at hl 6 rfl) ?_
                    refine rd_X4_75 hx hb hown hW dX4_lookOf_57 ?_
                    refine lv_eqi (y := nI n) hgw.1.1 ?_
                    refine lv_icmp_ge (tgt := 121) hx hb dX4_lookOf_60 (by decide) (fun c_60 => ?_) (fun c_60 => ?_)
                    · skip
                      have q_60 := tN_le n k c_60 rfl rfl (by omega) (by omega)
                      have hkk := hw1_54
                      have hwe : wsN C (fun i => atN (S i) t) k = (fun t => mlN C (fun i => atN (S i) t) n n) t := by have h9 : k = n := (by omega); subst h9; exact ws_ml
                      have hw66 : wsN C (fun i => atN (S i) t) k ≤ 6 := (by omega)
                      refine lv_iload hx hb dX4_lookOf_121 (lv_at hl 0 rfl) ?_
                      refine lv_iload_n hx hb dX4_lookOf_123 rfl (lv_at hl 3 rfl) ?_
                      refine lv_icmp_ge (tgt := 132) hx hb dX4_lookOf_124 (by decide) (fun c_124 => ?_) (fun c_124 => ?_)
                      · skip
                        have q_124 := tN_le (llN (fun t => mlN C (fun i => atN (S i) t) n n) t) (wsN C (fun i => atN (S i) t) k) c_124 rfl rfl (by omega) (by omega)
                        refine lv_iload_n hx hb dX4_lookOf_132 rfl (lv_at hl 2 rfl) ?_
                        refine lv_istore_n (lv' := [(2, .int (lbI (fun t => mlN C (fun i => atN (S i) t) n n) t)), (5, .int (nI (wsN C (fun i => atN (S i) t) k))), (6, .int (nI k)), (3, .int (nI (llN (fun t => mlN C (fun i => atN (S i) t) n n) t))), (4, .int (nI t)), (1, .int (nI C)), (0, .ref (gm G 0))]) hx hb dX4_lookOf_133 rfl hl (by decide) rfl (fun ls hl => ?_)
                        refine lv_iload hx hb dX4_lookOf_134 (lv_at hl 1 rfl) ?_
                        refine lv_iload_n hx hb dX4_lookOf_136 rfl (lv_at hl 3 rfl) ?_
                        refine lv_icmp_ge (tgt := 145) hx hb dX4_lookOf_137 (by decide) (fun c_137 => ?_) (fun c_137 => ?_)
                        · skip
                          have q_137 := tN_le (llN (fun t => mlN C (fun i => atN (S i) t) n n) t) (wsN C (fun i => atN (S i) t) k) c_137 rfl rfl (by omega) (by omega)
                          refine lv_iload_n hx hb dX4_lookOf_145 rfl (lv_at hl 3 rfl) ?_
                          refine lv_istore_n (lv' := [(3, .int (nI (llN (fun t => mlN C (fun i => atN (S i) t) n n) t))), (2, .int (lbI (fun t => mlN C (fun i => atN (S i) t) n n) t)), (5, .int (nI (wsN C (fun i => atN (S i) t) k))), (6, .int (nI k)), (4, .int (nI t)), (1, .int (nI C)), (0, .ref (gm G 0))]) hx hb dX4_lookOf_146 rfl hl (by decide) rfl (fun ls hl => ?_)
                          refine lv_iinc (v := nI (t + 1)) (lv' := [(4, .int (nI (t + 1))), (3, .int (nI (llN (fun t => mlN C (fun i => atN (S i) t) n n) t))), (2, .int (lbI (fun t => mlN C (fun i => atN (S i) t) n n) t)), (5, .int (nI (wsN C (fun i => atN (S i) t) k))), (6, .int (nI k)), (1, .int (nI C)), (0, .ref (gm G 0))]) hx hb dX4_lookOf_147 hl (k := 4) rfl (inc1 t) (by decide) rfl (fun ls hl => ?_)
                          refine lv_goto (tgt := 13) hx hb dX4_lookOf_150 (by decide) ?_
                          exact ih_13 (t + 1) _ _ _ _ _ _ _ (by omega) (lb_n (w := (fun t => mlN C (fun i => atN (S i) t) n n)) (Nat.le_trans q_124 (Nat.le_of_eq hwe)) (Nat.le_trans (Nat.le_of_eq hwe.symm) hw66)).1 (congrArg nI (lb_n (w := (fun t => mlN C (fun i => atN (S i) t) n n)) (Nat.le_trans q_124 (Nat.le_of_eq hwe)) (Nat.le_trans (Nat.le_of_eq hwe.symm) hw66)).2) rfl (by omega) (by omega) hW hS hkk ls (lv_sub hl [2, 1, 0, 5, 6] rfl)
                        · skip
                          have q_137 := tN_nle (llN (fun t => mlN C (fun i => atN (S i) t) n n) t) (wsN C (fun i => atN (S i) t) k) c_137 rfl rfl (by omega) (by omega)
                          refine lv_iload hx hb dX4_lookOf_140 (lv_at hl 1 rfl) ?_
                          refine lv_goto (tgt := 146) hx hb dX4_lookOf_142 (by decide) ?_
                          refine lv_istore_n (lv' := [(3, .int (nI (wsN C (fun i => atN (S i) t) k))), (2, .int (lbI (fun t => mlN C (fun i => atN (S i) t) n n) t)), (5, .int (nI (wsN C (fun i => atN (S i) t) k))), (6, .int (nI k)), (4, .int (nI t)), (1, .int (nI C)), (0, .ref (gm G 0))]) hx hb dX4_lookOf_146 rfl hl (by decide) rfl (fun ls hl => ?_)
                          refine lv_iinc (v := nI (t + 1)) (lv' := [(4, .int (nI (t + 1))), (3, .int (nI (wsN C (fun i => atN (S i) t) k))), (2, .int (lbI (fun t => mlN C (fun i => atN (S i) t) n n) t)), (5, .int (nI (wsN C (fun i => atN (S i) t) k))), (6, .int (nI k)), (1, .int (nI C)), (0, .ref (gm G 0))]) hx hb dX4_lookOf_147 hl (k := 4) rfl (inc1 t) (by decide) rfl (fun ls hl => ?_)
                          refine lv_goto (tgt := 13) hx hb dX4_lookOf_150 (by decide) ?_
                          exact ih_13 (t + 1) _ _ _ _ _ _ _ (by omega) (by exfalso; omega) (by exfalso; omega) rfl (by omega) (by omega) hW hS hkk ls (lv_sub hl [2, 1, 0, 5, 6] rfl)
                      · skip
                        have q_124 := tN_nle (llN (fun t => mlN C (fun i => atN (S i) t) n n) t) (wsN C (fun i => atN (S i) t) k) c_124 rfl rfl (by omega) (by omega)
                        refine lv_iload hx hb dX4_lookOf_127 (lv_at hl 4 rfl) ?_
                        refine lv_goto (tgt := 133) hx hb dX4_lookOf_129 (by decide) ?_
                        refine lv_istore_n (lv' := [(2, .int (nI t)), (5, .int (nI (wsN C (fun i => atN (S i) t) k))), (6, .int (nI k)), (3, .int (nI (llN (fun t => mlN C (fun i => atN (S i) t) n n) t))), (4, .int (nI t)), (1, .int (nI C)), (0, .ref (gm G 0))]) hx hb dX4_lookOf_133 rfl hl (by decide) rfl (fun ls hl => ?_)
                        refine lv_iload hx hb dX4_lookOf_134 (lv_at hl 1 rfl) ?_
                        refine lv_iload_n hx hb dX4_lookOf_136 rfl (lv_at hl 3 rfl) ?_
                        refine lv_icmp_ge (tgt := 145) hx hb dX4_lookOf_137 (by decide) (fun c_137 => ?_) (fun c_137 => ?_)
                        · skip
                          have q_137 := tN_le (llN (fun t => mlN C (fun i => atN (S i) t) n n) t) (wsN C (fun i => atN (S i) t) k) c_137 rfl rfl (by omega) (by omega)
                          refine lv_iload_n hx hb dX4_lookOf_145 rfl (lv_at hl 3 rfl) ?_
                          refine lv_istore_n (lv' := [(3, .int (nI (llN (fun t => mlN C (fun i => atN (S i) t) n n) t))), (2, .int (nI t)), (5, .int (nI (wsN C (fun i => atN (S i) t) k))), (6, .int (nI k)), (4, .int (nI t)), (1, .int (nI C)), (0, .ref (gm G 0))]) hx hb dX4_lookOf_146 rfl hl (by decide) rfl (fun ls hl => ?_)
                          refine lv_iinc (v := nI (t + 1)) (lv' := [(4, .int (nI (t + 1))), (3, .int (nI (llN (fun t => mlN C (fun i => atN (S i) t) n n) t))), (2, .int (nI t)), (5, .int (nI (wsN C (fun i => atN (S i) t) k))), (6, .int (nI k)), (1, .int (nI C)), (0, .ref (gm G 0))]) hx hb dX4_lookOf_147 hl (k := 4) rfl (inc1 t) (by decide) rfl (fun ls hl => ?_)
                          refine lv_goto (tgt := 13) hx hb dX4_lookOf_150 (by decide) ?_
                          exact ih_13 (t + 1) _ _ _ _ _ _ _ (by omega) (by exfalso; omega) (by exfalso; omega) rfl (by omega) (by omega) hW hS hkk ls (lv_sub hl [2, 1, 0, 5, 6] rfl)
                        · skip
                          have q_137 := tN_nle (llN (fun t => mlN C (fun i => atN (S i) t) n n) t) (wsN C (fun i => atN (S i) t) k) c_137 rfl rfl (by omega) (by omega)
                          refine lv_iload hx hb dX4_lookOf_140 (lv_at hl 1 rfl) ?_
                          refine lv_goto (tgt := 146) hx hb dX4_lookOf_142 (by decide) ?_
                          refine lv_istore_n (lv' := [(3, .int (nI (wsN C (fun i => atN (S i) t) k))), (2, .int (nI t)), (5, .int (nI (wsN C (fun i => atN (S i) t) k))), (6, .int (nI k)), (4, .int (nI t)), (1, .int (nI C)), (0, .ref (gm G 0))]) hx hb dX4_lookOf_146 rfl hl (by decide) rfl (fun ls hl => ?_)
                          refine lv_iinc (v := nI (t + 1)) (lv' := [(4, .int (nI (t + 1))), (3, .int (nI (wsN C (fun i => atN (S i) t) k))), (2, .int (nI t)), (5, .int (nI (wsN C (fun i => atN (S i) t) k))), (6, .int (nI k)), (1, .int (nI C)), (0, .ref (gm G 0))]) hx hb dX4_lookOf_147 hl (k := 4) rfl (inc1 t) (by decide) rfl (fun ls hl => ?_)
                          refine lv_goto (tgt := 13) hx hb dX4_lookOf_150 (by decide) ?_
                          exact ih_13 (t + 1) _ _ _ _ _ _ _ (by omega) (lb_y (w := (fun t => mlN C (fun i => atN (S i) t) n n)) (Nat.lt_of_le_of_lt (Nat.le_of_eq hwe.symm) q_124)).1 (congrArg nI (hwe.trans (lb_y (w := (fun t => mlN C (fun i => atN (S i) t) n n)) (Nat.lt_of_le_of_lt (Nat.le_of_eq hwe.symm) q_124)).2)) rfl (by omega) (by omega) hW hS hkk ls (lv_sub hl [2, 1, 0, 5, 6] rfl)
                    · skip
                      have q_60 := tN_nle n k c_60 rfl rfl (by omega) (by omega)
                      have hpl := posN_lt (hg.2.2.2.1 k (by omega)).1 (t - S k 2)
                      refine lv_aload_n hx hb dX4_lookOf_63 rfl (lv_at hl 6 rfl) ?_
                      refine lv_iload hx hb dX4_lookOf_64 (lv_at hl 1 rfl) ?_
                      refine lv_iload hx hb dX4_lookOf_66 (lv_at hl 4 rfl) ?_
                      refine cr_i (q := 694) [.int (nI k), .int (nI t)] hx hb hml hown hG v_X4_atOf (by decide +kernel) (c_X4_atOf l G μw hw n S q V ch hgw k (by omega) t (by omega)) (preM hW _) rfl hl.1 (Nat.le_of_ble_eq_true rfl) dX4_lookOf_68 ⟨rfl, rfl, Nat.le_of_ble_eq_true rfl, Nat.le_of_ble_eq_true rfl⟩ ⟨Nat.le_of_ble_eq_true rfl, Nat.le_of_ble_eq_true rfl⟩ ?_
                      refine lv_istore (lv' := [(7, .int (nI (posN (S k) (t - S k 2)))), (5, .int (nI (wsN C (fun i => atN (S i) t) k))), (6, .int (nI k)), (2, .int (lbI (fun t => mlN C (fun i => atN (S i) t) n n) t)), (3, .int (nI (llN (fun t => mlN C (fun i => atN (S i) t) n n) t))), (4, .int (nI t)), (1, .int (nI C)), (0, .ref (gm G 0))]) hx hb dX4_lookOf_71 hl (by decide) rfl (fun ls hl => ?_)
                      refine lv_aload_n hx hb dX4_lookOf_73 rfl (lv_at hl 7 rfl) ?_
                      refine rd_X4_25 hx hb hown hW dX4_lookOf_74 ?_
                      refine lv_iload hx hb dX4_lookOf_77 (lv_at hl 0 rfl) ?_
                      refine lv_dup2_11 hx hb dX4_lookOf_79 rfl rfl ?_
                      refine al_M (k := posN (S k) (t - S k 2)) 6 hx hb hW rfl (show _ < 16 by omega) dX4_lookOf_80 ?_
                      refine lv_eqi (y := nI (ctN C (fun i => atN (S i) t) (posN (S k) (t - S k 2)) k)) (hw0_54 (posN (S k) (t - S k 2)) (by omega)) ?_
                      refine lv_iload_n hx hb dX4_lookOf_81 rfl (lv_at hl 6 rfl) ?_
                      refine lv_iload hx hb dX4_lookOf_82 (lv_at hl 2 rfl) ?_
                      refine lv_ishr hx hb dX4_lookOf_84 ?_
                      refine lv_iconst (v := 1) hx hb dX4_lookOf_85 (by decide) ?_
                      refine lv_iand hx hb dX4_lookOf_86 ?_
                      refine lv_eqi (y := nI (C / 2 ^ k % 2)) (bitT (by omega) (by omega)) ?_
                      refine ln_add (ctN C (fun i => atN (S i) t) (posN (S k) (t - S k 2)) k) (C / 2 ^ k % 2) hx hb rfl rfl dX4_lookOf_87 ?_
                      refine as_M (k := posN (S k) (t - S k 2)) 6 hx hb hW hS rfl (show _ < 16 by omega) dX4_lookOf_88 (fun H locs hW hS => ?_)
                      obtain ⟨μ1, hμ1⟩ : ∃ z, z = up2 μw 6 (posN (S k) (t - S k 2)) (nI ((ctN C (fun i => atN (S i) t) (posN (S k) (t - S k 2)) k) + (C / 2 ^ k % 2))) := ⟨_, rfl⟩
                      rw [← hμ1] at hW
                      have hct9 : ∀ y9, y9 < 16 → μ1 6 y9 = nI (ctN C (fun i => atN (S i) t) y9 (k + 1)) := by rw [hμ1]; exact ct_step (f := (fun i => atN (S i) t)) hw0_54
                      have hkk : KP μ hs (μ1, hw) := by rw [hμ1]; exact hw1_54.up (Or.inr rfl)
                      have hct1 := ct_le (C := C) (f := (fun i => atN (S i) t)) (P := posN (S k) (t - S k 2)) (k + 1)
                      refine lv_aload_n hx hb dX4_lookOf_89 rfl (lv_at hl 7 rfl) ?_
                      refine rd_X4_25 hx hb hown hW dX4_lookOf_90 ?_
                      refine lv_iload hx hb dX4_lookOf_93 (lv_at hl 0 rfl) ?_
                      refine al_M (k := posN (S k) (t - S k 2)) 6 hx hb hW rfl (show _ < 16 by omega) dX4_lookOf_95 ?_
                      refine lv_eqi (y := nI (ctN C (fun i => atN (S i) t) (posN (S k) (t - S k 2)) (k + 1))) (hct9 _ hpl) ?_
                      refine lv_iload hx hb dX4_lookOf_96 (lv_at hl 1 rfl) ?_
                      refine lv_icmp_le (tgt := 111) hx hb dX4_lookOf_98 (by decide) (fun c_98 => ?_) (fun c_98 => ?_)
                      · skip
                        have q_98 := tN_le (ctN C (fun i => atN (S i) t) (posN (S k) (t - S k 2)) (k + 1)) (wsN C (fun i => atN (S i) t) k) c_98 rfl rfl (by omega) (by omega)
                        refine lv_iload hx hb dX4_lookOf_111 (lv_at hl 1 rfl) ?_
                        refine lv_istore (lv' := [(5, .int (nI (wsN C (fun i => atN (S i) t) k))), (7, .int (nI (posN (S k) (t - S k 2)))), (6, .int (nI k)), (2, .int (lbI (fun t => mlN C (fun i => atN (S i) t) n n) t)), (3, .int (nI (llN (fun t => mlN C (fun i => atN (S i) t) n n) t))), (4, .int (nI t)), (1, .int (nI C)), (0, .ref (gm G 0))]) hx hb dX4_lookOf_113 hl (by decide) rfl (fun ls hl => ?_)
                        refine lv_iinc (v := nI (k + 1)) (lv' := [(6, .int (nI (k + 1))), (5, .int (nI (wsN C (fun i => atN (S i) t) k))), (7, .int (nI (posN (S k) (t - S k 2)))), (2, .int (lbI (fun t => mlN C (fun i => atN (S i) t) n n) t)), (3, .int (nI (llN (fun t => mlN C (fun i => atN (S i) t) n n) t))), (4, .int (nI t)), (1, .int (nI C)), (0, .ref (gm G 0))]) hx hb dX4_lookOf_115 hl (k := 2) rfl (inc1 k) (by decide) rfl (fun ls hl => ?_)
                        refine lv_goto (tgt := 54) hx hb dX4_lookOf_118 (by decide) ?_
                        exact ih_54 (k + 1) _ _ _ _ _ _ (by omega) (by first | exact congrArg nI (ws_y (f := (fun i => atN (S i) t)) q_98) | exact congrArg nI (ws_n (f := (fun i => atN (S i) t)) q_98)) rfl (by omega) hW hS hct9 hkk ls (lv_sub hl [1, 0, 3, 4, 5, 6, 7] rfl)
                      · skip
                        have q_98 := tN_nle (ctN C (fun i => atN (S i) t) (posN (S k) (t - S k 2)) (k + 1)) (wsN C (fun i => atN (S i) t) k) c_98 rfl rfl (by omega) (by omega)
                        refine lv_aload_n hx hb dX4_lookOf_101 rfl (lv_at hl 7 rfl) ?_
                        refine rd_X4_25 hx hb hown hW dX4_lookOf_102 ?_
                        refine lv_iload hx hb dX4_lookOf_105 (lv_at hl 0 rfl) ?_
                        refine al_M (k := posN (S k) (t - S k 2)) 6 hx hb hW rfl (show _ < 16 by omega) dX4_lookOf_107 ?_
                        refine lv_eqi (y := nI (ctN C (fun i => atN (S i) t) (posN (S k) (t - S k 2)) (k + 1))) (hct9 _ hpl) ?_
                        refine lv_goto (tgt := 113) hx hb dX4_lookOf_108 (by decide) ?_
                        refine lv_istore (lv' := [(5, .int (nI (ctN C (fun i => atN (S i) t) (posN (S k) (t - S k 2)) (k + 1)))), (7, .int (nI (posN (S k) (t - S k 2)))), (6, .int (nI k)), (2, .int (lbI (fun t => mlN C (fun i => atN (S i) t) n n) t)), (3, .int (nI (llN (fun t => mlN C (fun i => atN (S i) t) n n) t))), (4, .int (nI t)), (1, .int (nI C)), (0, .ref (gm G 0))]) hx hb dX4_lookOf_113 hl (by decide) rfl (fun ls hl => ?_)
                        refine lv_iinc (v := nI (k + 1)) (lv' := [(6, .int (nI (k + 1))), (5, .int (nI (ctN C (fun i => atN (S i) t) (posN (S k) (t - S k 2)) (k + 1)))), (7, .int (nI (posN (S k) (t - S k 2)))), (2, .int (lbI (fun t => mlN C (fun i => atN (S i) t) n n) t)), (3, .int (nI (llN (fun t => mlN C (fun i => atN (S i) t) n n) t))), (4, .int (nI t)), (1, .int (nI C)), (0, .ref (gm G 0))]) hx hb dX4_lookOf_115 hl (k := 2) rfl (inc1 k) (by decide) rfl (fun ls hl => ?_)
                        refine lv_goto (tgt := 54) hx hb dX4_lookOf_118 (by decide) ?_
                        exact ih_54 (k + 1) _ _ _ _ _ _ (by omega) (by first | exact congrArg nI (ws_y (f := (fun i => atN (S i) t)) q_98) | exact congrArg nI (ws_n (f := (fun i => atN (S i) t)) q_98)) rfl (by omega) hW hS hct9 hkk ls (lv_sub hl [1, 0, 3, 4, 5, 6, 7] rfl)
                exact loop_54 _ 0 _ _ _ _ _ _ (Nat.lt_succ_self _) rfl rfl (by omega) hW hS (fun i hi => hw0_27 i (by omega)) hw1_27 ls (lv_sub hl [1, 0, 2, 3, 4, 5, 6] rfl)
              · skip
                have q_31 := tN_nle 16 j c_31 rfl rfl (by omega) (by omega)
                refine lv_aload_n hx hb dX4_lookOf_34 rfl (lv_at hl 5 rfl) ?_
                refine rd_X4_25 hx hb hown hW dX4_lookOf_35 ?_
                refine lv_iload hx hb dX4_lookOf_38 (lv_at hl 0 rfl) ?_
                refine lv_iconst (v := 0) hx hb dX4_lookOf_40 (by decide) ?_
                refine as_M (k := j) 6 hx hb hW hS rfl (show _ < 16 by omega) dX4_lookOf_41 (fun H locs hW hS => ?_)
                obtain ⟨μ2, hμ2⟩ : ∃ z, z = up2 μw 6 j 0 := ⟨_, rfl⟩
                rw [← hμ2] at hW
                refine lv_iinc (v := nI (j + 1)) (lv' := [(5, .int (nI (j + 1))), (2, .int (lbI (fun t => mlN C (fun i => atN (S i) t) n n) t)), (3, .int (nI (llN (fun t => mlN C (fun i => atN (S i) t) n n) t))), (4, .int (nI t)), (1, .int (nI C)), (0, .ref (gm G 0))]) hx hb dX4_lookOf_42 hl (k := 0) rfl (inc1 j) (by decide) rfl (fun ls hl => ?_)
                refine lv_goto (tgt := 27) hx hb dX4_lookOf_45 (by decide) ?_
                exact ih_27 (j + 1) _ _ _ _ _ (by omega) rfl (by omega) hW hS (by subst hμ2; exact fill_s (f := fun _ => 0) hw0_27) (by subst hμ2; exact hw1_27.up (Or.inr rfl)) ls (lv_sub hl [0, 1, 2, 3, 4, 5] rfl)
          exact loop_27 _ 0 _ _ _ _ _ (Nat.lt_succ_self _) rfl (by omega) hW hS (fun i hi => absurd hi (by omega)) hw0_13 ls (lv_sub hl [0, 1, 2, 3, 4, 5] rfl)
  exact loop_13 _ 0 _ _ _ _ _ _ _ (Nat.lt_succ_self _) rfl rfl rfl (by omega) (Or.inl rfl) hW hS KP.rf ls (lv_sub hl [2, 1, 0, 3, 4] rfl)
set_option maxHeartbeats 4000000 in
set_option maxRecDepth 100000 in
theorem c_X4_look (l : Launch) (G : Gam) (μ : St) (hs : Int64) (n : Nat) (S : Nat → Sk) (q : Nat) (V : Nat → Nat) (ch : Int32) (hg : RM μ n S q V ch) : Met l yX4_look (w1 yX4_look cX4_look 1 (some .int)) ({ frames := 5, cells := 0, slots := 0, locals := 126 }) (PcM G μ hs [.ref (gm G 0)]) (QiM G (fun r u9 => r = aLook n S q V ∧ KP μ hs u9)) 0 0 (aM G) := by
  refine met_of [.ref (gm G 0)] [(0, .ref (gm G 0))] (by decide) (Nat.le_of_ble_eq_true rfl) rfl ?_
  intro p e s m below meth c hx hb hr hown hml hlocks hW ls hl
  have hG : GW s := hW.2.2.2
  have hS : va_S (aM G) s.heap s.heap [] := va_S.rf
  have hn6 := hg.1.2
  have hq8 := hg.2.2.1.2
  refine lv_aload_n hx hb dX4_look_0 rfl (lv_at hl 0 rfl) ?_
  refine cr_i (q := 761) [] hx hb hml hown hG v_X4_lacks (by decide +kernel) (c_X4_lacks l G μ hs n S q V ch hg) (preM hW _) rfl hl.1 (Nat.le_of_ble_eq_true rfl) dX4_look_1 ⟨rfl, rfl, Nat.le_of_ble_eq_true rfl, Nat.le_of_ble_eq_true rfl⟩ ⟨Nat.le_of_ble_eq_true rfl, Nat.le_of_ble_eq_true rfl⟩ ?_
  refine lv_if_eq (tgt := 12) hx hb dX4_look_4 (by decide) (fun c_4 => ?_) (fun c_4 => ?_)
  · skip
    have b_4 := bI_0 c_4
    refine lv_aload_n hx hb dX4_look_12 rfl (lv_at hl 0 rfl) ?_
    refine cm_i (q := 805) [] hx hb hml hown hW.2 hS v_X4_lookOf (by decide +kernel) (c_X4_lookOf l G μ hs n S q V ch hg) (preM hW _) rfl hl.1 (Nat.le_of_ble_eq_true rfl) dX4_look_13 ⟨rfl, rfl, Nat.le_of_ble_eq_true rfl, Nat.le_of_ble_eq_true rfl⟩ ⟨Nat.le_of_ble_eq_true rfl, Nat.le_of_ble_eq_true rfl⟩ (fun r_13 μ1 hs1 H locs hμ1 hW hS => ?_)
    obtain ⟨hr2, hk2⟩ := hμ1
    subst hr2
    exact W.iret (v := (if whN (OKf S q V) n = 0 then -1 else nI (lkN (fun t => mlN (whN (OKf S q V) n) (fun i => atN (S i) t) n n) 30).1)) hx hb hr (fun t9 ht9 hW9 => ⟨⟨_, (μ1, hs1), rfl, ⟨(if_neg (of_decide_eq_false b_4)).symm, hk2⟩, (by have h8 := hW.1; rw [← ht9] at h8; exact h8)⟩, hS.F ht9⟩) hS.2.2 dX4_look_16
  · skip
    have b_4 := bI_1 c_4
    refine lv_bipush (v := (-103)) hx hb dX4_look_7 (by decide) ?_
    refine lv_goto (tgt := 16) hx hb dX4_look_9 (by decide) ?_
    exact W.iret (v := (-103)) hx hb hr (fun t9 ht9 hW9 => ⟨⟨_, (μ, hs), rfl, ⟨(if_pos (of_decide_eq_true b_4)).symm, KP.rf⟩, (by have h8 := hW.1; rw [← ht9] at h8; exact h8)⟩, hS.F ht9⟩) hS.2.2 dX4_look_16
