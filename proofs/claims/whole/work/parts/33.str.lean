/-! ===== the texts that the class holds: "kclxa" (0), "nesw" (1) ===== -/
def lsS : List Nat := [5, 4]
def btS : List (List Int32) := [[107, 99, 108, 120, 97], [110, 101, 115, 119]]
def SX (G : Gam) (U : State) (H : Heap) : Prop := vk_S 2 lsS btS (gK G) (gV G) (aX G) U H ∧ va_Z "java/lang/String" "COMPACT_STRINGS" "Z" (.int 1) (aX G) U H ∧ vk_R RX1 23 "kclxa" (gK G 0) U ∧ vk_R RX1 35 "nesw" (gK G 1) U ∧ vk_R RX3 100 "kclxa" (gK G 0) U ∧ GW U ∧ NN U
theorem SX.warm {G : Gam} {s U : State} {H : Heap} (hW : s.WarmedH U.vm) (h : SX G s H) : SX G U H :=
  ⟨vk_S.moved hW.alike h.1, va_Z.moved hW.alike h.2.1, h.2.2.1.warm hW, h.2.2.2.1.warm hW, h.2.2.2.2.1.warm hW, h.2.2.2.2.2.1.warm hW, h.2.2.2.2.2.2.warm hW⟩
theorem SX.kept {G : Gam} {s : State} {H0 H : Heap} {locs : List Loc} (h : SX G s H0) (hS : va_S (aX G) H0 H locs) : SX G s H :=
  ⟨h.1.kept hS.2.1, h.2.1.kept hS.2.1, h.2.2⟩
theorem SX.call {G : Gam} {U : State} {H : Heap} {g : JFrame} {mk : MethodId} {a : Array Value} (h : SX G U H) : SX G (U.calling g mk a) H := SX.warm (s := U) (U := U.calling g mk a) (State.WarmedH.refl U) h
abbrev PcJ (G : Gam) (av : List Value) : Array Value → State → Prop := va_Pc av (fun U => SX G U U.heap)
abbrev PcS (G : Gam) (σ : St) (av : List Value) : Array Value → State → Prop := va_Pc av (fun U => WX G σ U U.heap ∧ SX G U U.heap)
theorem preJ {G : Gam} {s : State} {H : Heap} (h : SX G s H) (i : Nat) (hi : i < 2) (As : List Value) : PreV s H "java/lang/String" (gK G i) (PcJ G (.ref (gK G i) :: As)) As :=
  ⟨fun a U g mk q => ⟨q.1, q.2.call⟩, (by obtain ⟨cell, h1, h2, h3, -⟩ := (h.1.1 i hi).1; exact ⟨cell, h1, h2, h3⟩), fun U hU hW => ⟨rfl, by show SX G U U.heap; rw [hU]; exact h.warm hW⟩⟩
theorem preJS {G : Gam} {s : State} {H : Heap} (h : SX G s H) (As : List Value) : PreS s H (PcJ G As) As :=
  ⟨fun a U g mk q => ⟨q.1, q.2.call⟩, fun U hU hW => ⟨rfl, by show SX G U U.heap; rw [hU]; exact h.warm hW⟩⟩
theorem preSP {G : Gam} {σ : St} {s : State} {H : Heap} (h : WX G σ s H) (hS : SX G s H) (As : List Value) : PreV s H RX1 (ga G 1) (PcS G σ (.ref (ga G 1) :: As)) As :=
  ⟨fun a U g mk q => ⟨q.1, ⟨q.2.1.1, q.2.1.2.call⟩, q.2.2.call⟩, (preP h As).2.1, fun U hU hW => ⟨rfl, ⟨by rw [hU]; exact h.1, h.2.warm hW⟩, by rw [hU]; exact hS.warm hW⟩⟩
theorem preSX {G : Gam} {σ : St} {s : State} {H : Heap} (h : WX G σ s H) (hS : SX G s H) (As : List Value) : PreV s H RX3 (ga G 0) (PcS G σ (.ref (ga G 0) :: As)) As :=
  ⟨fun a U g mk q => ⟨q.1, ⟨q.2.1.1, q.2.1.2.call⟩, q.2.2.call⟩, (preX h As).2.1, fun U hU hW => ⟨rfl, ⟨by rw [hU]; exact h.1, h.2.warm hW⟩, by rw [hU]; exact hS.warm hW⟩⟩
theorem bY8 : ∀ c9, c9 < 128 → (nI c9).toInt8.toInt32 = nI c9 := by decide +kernel
theorem oN_lt {c9 : Nat} {f : Nat → Nat} {m9 : Nat} (h9 : f c9 < m9 ∨ f c9 = 9) (hm : m9 ≤ 5) (h : oN (f c9) < 0) : f c9 = 9 := by
  rcases h9 with q | q
  · rw [oN_y (by omega)] at h; exact absurd h (nI_pos (by omega))
  · exact q
theorem oN_ge {c9 : Nat} {f : Nat → Nat} {m9 : Nat} (h9 : f c9 < m9 ∨ f c9 = 9) (h : ¬ oN (f c9) < 0) : f c9 < m9 := by
  rcases h9 with q | q
  · exact q
  · exact absurd (by rw [oN_9 q]; decide) h
theorem pl97 : ∀ c9, c9 < 128 → decide (¬ nI c9 - 97 < 0 ∧ ¬ 16 ≤ nI c9 - 97) = decide (97 ≤ c9 ∧ c9 < 113) := by decide +kernel
theorem fit_0e {c9 b : Nat} : fitN c9 0 b = decide (kdN c9 < 5) := rfl
theorem fit_1e {c9 b : Nat} : fitN c9 1 b = decide (97 ≤ c9 ∧ c9 < 113) := rfl
set_option maxHeartbeats 4000000 in
set_option maxRecDepth 100000 in
theorem c_J1_canEncode (l : Launch) (c9 : Nat) (hc : c9 < 128) : Met l yJ1_canEncode_9a6ad (w1 yJ1_canEncode_9a6ad cJ1_canEncode_9a6ad 1 (some .boolean)) ({ frames := 0, cells := 0, slots := 0, locals := 0 }) (PcT [.int (nI c9)]) (vp_Si (fun r => r = 1)) 0 0 (fun _ => False) := by
  refine met_of [.int (nI c9)] [(0, .int (nI c9))] (by decide) (Nat.le_of_ble_eq_true rfl) rfl ?_
  intro p e s m below meth c hx hb hr hown hml hlocks hW ls hl
  refine lv_iload_n hx hb dJ1_canEncode_9a6ad_0 rfl (lv_at hl 0 rfl) ?_
  refine lv_if_lt (tgt := 15) hx hb dJ1_canEncode_9a6ad_1 (by decide) (fun c_1 => ?_) (fun c_1 => ?_)
  · skip
    exact absurd (tN_lt c9 0 c_1 rfl rfl (by omega) (by omega)) (by omega)
  · skip
    have q_1 := tN_nlt c9 0 c_1 rfl rfl (by omega) (by omega)
    refine lv_iload_n hx hb dJ1_canEncode_9a6ad_4 rfl (lv_at hl 0 rfl) ?_
    refine lv_sipush (v := 255) hx hb dJ1_canEncode_9a6ad_5 (by decide) ?_
    refine lv_icmp_gt (tgt := 15) hx hb dJ1_canEncode_9a6ad_8 (by decide) (fun c_8 => ?_) (fun c_8 => ?_)
    · skip
      exact absurd (tN_lt 255 c9 c_8 rfl rfl (by omega) (by omega)) (by omega)
    · skip
      have q_8 := tN_nlt 255 c9 c_8 rfl rfl (by omega) (by omega)
      refine lv_iconst (v := 1) hx hb dJ1_canEncode_9a6ad_11 (by decide) ?_
      refine lv_goto (tgt := 16) hx hb dJ1_canEncode_9a6ad_12 (by decide) ?_
      exact W.zret (v := 1) (ty := .boolean) hx hb hr rfl (fun t9 ht9 hW9 => ⟨_, rfl, rfl, ht9⟩) (fun q h => by cases h) dJ1_canEncode_9a6ad_16
set_option maxHeartbeats 4000000 in
set_option maxRecDepth 100000 in
theorem c_J0_coder_7d493_0 (l : Launch) (G : Gam)  : Met l yJ0_coder_7d493 (w1 yJ0_coder_7d493 cJ0_coder_7d493 1 (some .byte)) ({ frames := 0, cells := 0, slots := 0, locals := 0 }) (PcJ G [.ref (gK G 0)]) (vp_Si (fun r => r = 0)) 0 0 (fun _ => False) := by
  refine met_of [.ref (gK G 0)] [(0, .ref (gK G 0))] (by decide) (Nat.le_of_ble_eq_true rfl) rfl ?_
  intro p e s m below meth c hx hb hr hown hml hlocks hW ls hl
  have hG : GW s := hW.2.2.2.2.2.1
  refine va_gets hx hb hW.2.1 va_S.rf hown (hG.use (i := 201) (by decide +kernel) rfl _) (fun _ h => h) dJ0_coder_7d493_0 ?_
  refine lv_if_eq (tgt := 13) hx hb dJ0_coder_7d493_3 (by decide) (fun c_3 => ?_) (fun c_3 => ?_)
  · skip
    exact absurd c_3 (by decide)
  · skip
    refine lv_aload_n hx hb dJ0_coder_7d493_6 rfl (lv_at hl 0 rfl) ?_
    refine vk_getf hx hb (hW.1.1 0 (by decide)).2.1 va_S.rf hown (hG.use (i := 868) (by decide +kernel) rfl _) (fun _ h => h) dJ0_coder_7d493_7 ?_
    refine lv_goto (tgt := 14) hx hb dJ0_coder_7d493_10 (by decide) ?_
    exact W.zret (v := 0) (ty := .byte) hx hb hr rfl (fun t9 ht9 hW9 => ⟨_, rfl, rfl, ht9⟩) (fun q h => by cases h) dJ0_coder_7d493_14
set_option maxHeartbeats 4000000 in
set_option maxRecDepth 100000 in
theorem c_J0_isLatin1_aae02_0 (l : Launch) (G : Gam)  : Met l yJ0_isLatin1_aae02 (w1 yJ0_isLatin1_aae02 cJ0_isLatin1_aae02 1 (some .boolean)) ({ frames := 0, cells := 0, slots := 0, locals := 0 }) (PcJ G [.ref (gK G 0)]) (vp_Si (fun r => r = 1)) 0 0 (fun _ => False) := by
  refine met_of [.ref (gK G 0)] [(0, .ref (gK G 0))] (by decide) (Nat.le_of_ble_eq_true rfl) rfl ?_
  intro p e s m below meth c hx hb hr hown hml hlocks hW ls hl
  have hG : GW s := hW.2.2.2.2.2.1
  refine va_gets hx hb hW.2.1 va_S.rf hown (hG.use (i := 201) (by decide +kernel) rfl _) (fun _ h => h) dJ0_isLatin1_aae02_0 ?_
  refine lv_if_eq (tgt := 17) hx hb dJ0_isLatin1_aae02_3 (by decide) (fun c_3 => ?_) (fun c_3 => ?_)
  · skip
    exact absurd c_3 (by decide)
  · skip
    refine lv_aload_n hx hb dJ0_isLatin1_aae02_6 rfl (lv_at hl 0 rfl) ?_
    refine vk_getf hx hb (hW.1.1 0 (by decide)).2.1 va_S.rf hown (hG.use (i := 868) (by decide +kernel) rfl _) (fun _ h => h) dJ0_isLatin1_aae02_7 ?_
    refine lv_if_ne (tgt := 17) hx hb dJ0_isLatin1_aae02_10 (by decide) (fun c_10 => ?_) (fun c_10 => ?_)
    · skip
      exact absurd (by decide) c_10
    · skip
      refine lv_iconst (v := 1) hx hb dJ0_isLatin1_aae02_13 (by decide) ?_
      refine lv_goto (tgt := 18) hx hb dJ0_isLatin1_aae02_14 (by decide) ?_
      exact W.zret (v := 1) (ty := .boolean) hx hb hr rfl (fun t9 ht9 hW9 => ⟨_, rfl, rfl, ht9⟩) (fun q h => by cases h) dJ0_isLatin1_aae02_18
set_option maxHeartbeats 4000000 in
set_option maxRecDepth 100000 in
theorem c_J0_length_8abf5_0 (l : Launch) (G : Gam)  : Met l yJ0_length_8abf5 (w1 yJ0_length_8abf5 cJ0_length_8abf5 1 (some .int)) ({ frames := 1, cells := 0, slots := 0, locals := 20 }) (PcJ G [.ref (gK G 0)]) (vp_Si (fun r => r = 5)) 0 0 (fun _ => False) := by
  refine met_of [.ref (gK G 0)] [(0, .ref (gK G 0))] (by decide) (Nat.le_of_ble_eq_true rfl) rfl ?_
  intro p e s m below meth c hx hb hr hown hml hlocks hW ls hl
  have hG : GW s := hW.2.2.2.2.2.1
  refine lv_aload_n hx hb dJ0_length_8abf5_0 rfl (lv_at hl 0 rfl) ?_
  refine vk_getf hx hb (hW.1.1 0 (by decide)).2.2.1 va_S.rf hown (hG.use (i := 869) (by decide +kernel) rfl _) (fun _ h => h) dJ0_length_8abf5_1 ?_
  refine va_tlen hx hb (hW.1.1 0 (by decide)).2.2.2 va_S.rf (v := 5) rfl dJ0_length_8abf5_4 ?_
  refine lv_aload_n hx hb dJ0_length_8abf5_5 rfl (lv_at hl 0 rfl) ?_
  refine cr_i (q := 207) [] hx hb hml hown hG v_J0_coder_7d493 (by decide +kernel) (c_J0_coder_7d493_0 l G) (preJ hW 0 (by decide) _) rfl hl.1 (Nat.le_of_ble_eq_true rfl) dJ0_length_8abf5_6 ⟨rfl, rfl, Nat.le_of_ble_eq_true rfl, Nat.le_of_ble_eq_true rfl⟩ ⟨Nat.le_of_ble_eq_true rfl, Nat.le_of_ble_eq_true rfl⟩ ?_
  refine lv_ishr hx hb dJ0_length_8abf5_9 ?_
  refine lv_eqi (y := 5) (by decide +kernel) ?_
  exact W.iret (v := 5) hx hb hr (fun t9 ht9 hW9 => ⟨_, rfl, rfl, ht9⟩) (fun q h => by cases h) dJ0_length_8abf5_10
set_option maxHeartbeats 4000000 in
set_option maxRecDepth 100000 in
theorem c_J1_indexOfChar_4cfef_0 (l : Launch) (G : Gam) (c9 : Nat) (hc : c9 < 128) : Met l yJ1_indexOfChar_4cfef (w1 yJ1_indexOfChar_4cfef cJ1_indexOfChar_4cfef 6 (some .int)) ({ frames := 0, cells := 0, slots := 0, locals := 0 }) (PcJ G [.ref (gV G 0), .int (nI c9), .int 0, .int 5]) (vp_Si (fun r => r = oN (kdN c9))) 0 0 (fun _ => False) := by
  refine met_of [.ref (gV G 0), .int (nI c9), .int 0, .int 5] [(0, .ref (gV G 0)), (1, .int (nI c9)), (2, .int 0), (3, .int 5)] (by decide) (Nat.le_of_ble_eq_true rfl) rfl ?_
  intro p e s m below meth c hx hb hr hown hml hlocks hW ls hl
  have hG : GW s := hW.2.2.2.2.2.1
  refine lv_iload_n hx hb dJ1_indexOfChar_4cfef_0 rfl (lv_at hl 1 rfl) ?_
  refine lv_i2b hx hb dJ1_indexOfChar_4cfef_1 rfl ?_
  refine lv_eqi (y := nI c9) (bY8 c9 hc) ?_
  refine lv_istore (lv' := [(4, .int (nI c9)), (0, .ref (gV G 0)), (1, .int (nI c9)), (2, .int 0), (3, .int 5)]) hx hb dJ1_indexOfChar_4cfef_2 hl (by decide) rfl (fun ls hl => ?_)
  refine lv_iload_n hx hb dJ1_indexOfChar_4cfef_4 rfl (lv_at hl 3 rfl) ?_
  refine lv_istore (lv' := [(5, .int 0), (4, .int (nI c9)), (0, .ref (gV G 0)), (1, .int (nI c9)), (2, .int 0), (3, .int 5)]) hx hb dJ1_indexOfChar_4cfef_5 hl (by decide) rfl (fun ls hl => ?_)
  refine lv_iload hx hb dJ1_indexOfChar_4cfef_7 (lv_at hl 0 rfl) ?_
  refine lv_iload_n hx hb dJ1_indexOfChar_4cfef_9 rfl (lv_at hl 5 rfl) ?_
  refine lv_icmp_ge (tgt := 31) hx hb dJ1_indexOfChar_4cfef_10 (by decide) (fun c_10 => ?_) (fun c_10 => ?_)
  · skip
    exact absurd c_10 (by decide)
  · skip
    refine lv_aload_n hx hb dJ1_indexOfChar_4cfef_13 rfl (lv_at hl 2 rfl) ?_
    refine lv_iload hx hb dJ1_indexOfChar_4cfef_14 (lv_at hl 0 rfl) ?_
    refine va_tb hx hb (hW.1.1 0 (by decide)).2.2.2 va_S.rf (i := 0) (show vp_in (nI 0) 5 from vp_in_nI (by decide) (by decide)) (v := .int 107) rfl dJ1_indexOfChar_4cfef_16 ?_
    refine lv_iload hx hb dJ1_indexOfChar_4cfef_17 (lv_at hl 1 rfl) ?_
    refine lv_icmp_ne (tgt := 25) hx hb dJ1_indexOfChar_4cfef_19 (by decide) (fun c_19 => ?_) (fun c_19 => ?_)
    · skip
      have q_19 := tN_ne 107 c9 c_19 rfl rfl (by omega) (by omega)
      refine lv_iinc (v := 1) (lv' := [(5, .int 1), (4, .int (nI c9)), (0, .ref (gV G 0)), (1, .int (nI c9)), (2, .int 0), (3, .int 5)]) hx hb dJ1_indexOfChar_4cfef_25 hl (k := 0) rfl rfl (by decide) rfl (fun ls hl => ?_)
      refine lv_goto (tgt := 7) hx hb dJ1_indexOfChar_4cfef_28 (by decide) ?_
      refine lv_iload hx hb dJ1_indexOfChar_4cfef_7 (lv_at hl 0 rfl) ?_
      refine lv_iload_n hx hb dJ1_indexOfChar_4cfef_9 rfl (lv_at hl 5 rfl) ?_
      refine lv_icmp_ge (tgt := 31) hx hb dJ1_indexOfChar_4cfef_10 (by decide) (fun c_10 => ?_) (fun c_10 => ?_)
      · skip
        exact absurd c_10 (by decide)
      · skip
        refine lv_aload_n hx hb dJ1_indexOfChar_4cfef_13 rfl (lv_at hl 2 rfl) ?_
        refine lv_iload hx hb dJ1_indexOfChar_4cfef_14 (lv_at hl 0 rfl) ?_
        refine va_tb hx hb (hW.1.1 0 (by decide)).2.2.2 va_S.rf (i := 1) (show vp_in (nI 1) 5 from vp_in_nI (by decide) (by decide)) (v := .int 99) rfl dJ1_indexOfChar_4cfef_16 ?_
        refine lv_iload hx hb dJ1_indexOfChar_4cfef_17 (lv_at hl 1 rfl) ?_
        refine lv_icmp_ne (tgt := 25) hx hb dJ1_indexOfChar_4cfef_19 (by decide) (fun c_19 => ?_) (fun c_19 => ?_)
        · skip
          have q_19 := tN_ne 99 c9 c_19 rfl rfl (by omega) (by omega)
          refine lv_iinc (v := 2) (lv' := [(5, .int 2), (4, .int (nI c9)), (0, .ref (gV G 0)), (1, .int (nI c9)), (2, .int 0), (3, .int 5)]) hx hb dJ1_indexOfChar_4cfef_25 hl (k := 0) rfl rfl (by decide) rfl (fun ls hl => ?_)
          refine lv_goto (tgt := 7) hx hb dJ1_indexOfChar_4cfef_28 (by decide) ?_
          refine lv_iload hx hb dJ1_indexOfChar_4cfef_7 (lv_at hl 0 rfl) ?_
          refine lv_iload_n hx hb dJ1_indexOfChar_4cfef_9 rfl (lv_at hl 5 rfl) ?_
          refine lv_icmp_ge (tgt := 31) hx hb dJ1_indexOfChar_4cfef_10 (by decide) (fun c_10 => ?_) (fun c_10 => ?_)
          · skip
            exact absurd c_10 (by decide)
          · skip
            refine lv_aload_n hx hb dJ1_indexOfChar_4cfef_13 rfl (lv_at hl 2 rfl) ?_
            refine lv_iload hx hb dJ1_indexOfChar_4cfef_14 (lv_at hl 0 rfl) ?_
            refine va_tb hx hb (hW.1.1 0 (by decide)).2.2.2 va_S.rf (i := 2) (show vp_in (nI 2) 5 from vp_in_nI (by decide) (by decide)) (v := .int 108) rfl dJ1_indexOfChar_4cfef_16 ?_
            refine lv_iload hx hb dJ1_indexOfChar_4cfef_17 (lv_at hl 1 rfl) ?_
            refine lv_icmp_ne (tgt := 25) hx hb dJ1_indexOfChar_4cfef_19 (by decide) (fun c_19 => ?_) (fun c_19 => ?_)
            · skip
              have q_19 := tN_ne 108 c9 c_19 rfl rfl (by omega) (by omega)
              refine lv_iinc (v := 3) (lv' := [(5, .int 3), (4, .int (nI c9)), (0, .ref (gV G 0)), (1, .int (nI c9)), (2, .int 0), (3, .int 5)]) hx hb dJ1_indexOfChar_4cfef_25 hl (k := 0) rfl rfl (by decide) rfl (fun ls hl => ?_)
              refine lv_goto (tgt := 7) hx hb dJ1_indexOfChar_4cfef_28 (by decide) ?_
              refine lv_iload hx hb dJ1_indexOfChar_4cfef_7 (lv_at hl 0 rfl) ?_
              refine lv_iload_n hx hb dJ1_indexOfChar_4cfef_9 rfl (lv_at hl 5 rfl) ?_
              refine lv_icmp_ge (tgt := 31) hx hb dJ1_indexOfChar_4cfef_10 (by decide) (fun c_10 => ?_) (fun c_10 => ?_)
              · skip
                exact absurd c_10 (by decide)
              · skip
                refine lv_aload_n hx hb dJ1_indexOfChar_4cfef_13 rfl (lv_at hl 2 rfl) ?_
                refine lv_iload hx hb dJ1_indexOfChar_4cfef_14 (lv_at hl 0 rfl) ?_
                refine va_tb hx hb (hW.1.1 0 (by decide)).2.2.2 va_S.rf (i := 3) (show vp_in (nI 3) 5 from vp_in_nI (by decide) (by decide)) (v := .int 120) rfl dJ1_indexOfChar_4cfef_16 ?_
                refine lv_iload hx hb dJ1_indexOfChar_4cfef_17 (lv_at hl 1 rfl) ?_
                refine lv_icmp_ne (tgt := 25) hx hb dJ1_indexOfChar_4cfef_19 (by decide) (fun c_19 => ?_) (fun c_19 => ?_)
                · skip
                  have q_19 := tN_ne 120 c9 c_19 rfl rfl (by omega) (by omega)
                  refine lv_iinc (v := 4) (lv' := [(5, .int 4), (4, .int (nI c9)), (0, .ref (gV G 0)), (1, .int (nI c9)), (2, .int 0), (3, .int 5)]) hx hb dJ1_indexOfChar_4cfef_25 hl (k := 0) rfl rfl (by decide) rfl (fun ls hl => ?_)
                  refine lv_goto (tgt := 7) hx hb dJ1_indexOfChar_4cfef_28 (by decide) ?_
                  refine lv_iload hx hb dJ1_indexOfChar_4cfef_7 (lv_at hl 0 rfl) ?_
                  refine lv_iload_n hx hb dJ1_indexOfChar_4cfef_9 rfl (lv_at hl 5 rfl) ?_
                  refine lv_icmp_ge (tgt := 31) hx hb dJ1_indexOfChar_4cfef_10 (by decide) (fun c_10 => ?_) (fun c_10 => ?_)
                  · skip
                    exact absurd c_10 (by decide)
                  · skip
                    refine lv_aload_n hx hb dJ1_indexOfChar_4cfef_13 rfl (lv_at hl 2 rfl) ?_
                    refine lv_iload hx hb dJ1_indexOfChar_4cfef_14 (lv_at hl 0 rfl) ?_
                    refine va_tb hx hb (hW.1.1 0 (by decide)).2.2.2 va_S.rf (i := 4) (show vp_in (nI 4) 5 from vp_in_nI (by decide) (by decide)) (v := .int 97) rfl dJ1_indexOfChar_4cfef_16 ?_
                    refine lv_iload hx hb dJ1_indexOfChar_4cfef_17 (lv_at hl 1 rfl) ?_
                    refine lv_icmp_ne (tgt := 25) hx hb dJ1_indexOfChar_4cfef_19 (by decide) (fun c_19 => ?_) (fun c_19 => ?_)
                    · skip
                      have q_19 := tN_ne 97 c9 c_19 rfl rfl (by omega) (by omega)
                      refine lv_iinc (v := 5) (lv' := [(5, .int 5), (4, .int (nI c9)), (0, .ref (gV G 0)), (1, .int (nI c9)), (2, .int 0), (3, .int 5)]) hx hb dJ1_indexOfChar_4cfef_25 hl (k := 0) rfl rfl (by decide) rfl (fun ls hl => ?_)
                      refine lv_goto (tgt := 7) hx hb dJ1_indexOfChar_4cfef_28 (by decide) ?_
                      refine lv_iload hx hb dJ1_indexOfChar_4cfef_7 (lv_at hl 0 rfl) ?_
                      refine lv_iload_n hx hb dJ1_indexOfChar_4cfef_9 rfl (lv_at hl 5 rfl) ?_
                      refine lv_icmp_ge (tgt := 31) hx hb dJ1_indexOfChar_4cfef_10 (by decide) (fun c_10 => ?_) (fun c_10 => ?_)
                      · skip
                        refine lv_iconst (v := (-1)) hx hb dJ1_indexOfChar_4cfef_31 (by decide) ?_
                        exact W.iret (v := (-1)) hx hb hr (fun t9 ht9 hW9 => ⟨_, rfl, (by unfold kdN; rw [if_neg (show ¬ c9 = 107 by omega), if_neg (show ¬ c9 = 99 by omega), if_neg (show ¬ c9 = 108 by omega), if_neg (show ¬ c9 = 120 by omega), if_neg (show ¬ c9 = 97 by omega)]; rfl), ht9⟩) (fun q h => by cases h) dJ1_indexOfChar_4cfef_32
                      · skip
                        exact absurd (by decide) c_10
                    · skip
                      have q_19 := tN_eq 97 c9 c_19 rfl rfl (by omega) (by omega)
                      refine lv_iload hx hb dJ1_indexOfChar_4cfef_22 (lv_at hl 0 rfl) ?_
                      exact W.iret (v := 4) hx hb hr (fun t9 ht9 hW9 => ⟨_, rfl, (by unfold kdN; rw [if_neg (show ¬ c9 = 107 by omega), if_neg (show ¬ c9 = 99 by omega), if_neg (show ¬ c9 = 108 by omega), if_neg (show ¬ c9 = 120 by omega), if_pos (show c9 = 97 by omega)]; rfl), ht9⟩) (fun q h => by cases h) dJ1_indexOfChar_4cfef_24
                · skip
                  have q_19 := tN_eq 120 c9 c_19 rfl rfl (by omega) (by omega)
                  refine lv_iload hx hb dJ1_indexOfChar_4cfef_22 (lv_at hl 0 rfl) ?_
                  exact W.iret (v := 3) hx hb hr (fun t9 ht9 hW9 => ⟨_, rfl, (by unfold kdN; rw [if_neg (show ¬ c9 = 107 by omega), if_neg (show ¬ c9 = 99 by omega), if_neg (show ¬ c9 = 108 by omega), if_pos (show c9 = 120 by omega)]; rfl), ht9⟩) (fun q h => by cases h) dJ1_indexOfChar_4cfef_24
            · skip
              have q_19 := tN_eq 108 c9 c_19 rfl rfl (by omega) (by omega)
              refine lv_iload hx hb dJ1_indexOfChar_4cfef_22 (lv_at hl 0 rfl) ?_
              exact W.iret (v := 2) hx hb hr (fun t9 ht9 hW9 => ⟨_, rfl, (by unfold kdN; rw [if_neg (show ¬ c9 = 107 by omega), if_neg (show ¬ c9 = 99 by omega), if_pos (show c9 = 108 by omega)]; rfl), ht9⟩) (fun q h => by cases h) dJ1_indexOfChar_4cfef_24
        · skip
          have q_19 := tN_eq 99 c9 c_19 rfl rfl (by omega) (by omega)
          refine lv_iload hx hb dJ1_indexOfChar_4cfef_22 (lv_at hl 0 rfl) ?_
          exact W.iret (v := 1) hx hb hr (fun t9 ht9 hW9 => ⟨_, rfl, (by unfold kdN; rw [if_neg (show ¬ c9 = 107 by omega), if_pos (show c9 = 99 by omega)]; rfl), ht9⟩) (fun q h => by cases h) dJ1_indexOfChar_4cfef_24
    · skip
      have q_19 := tN_eq 107 c9 c_19 rfl rfl (by omega) (by omega)
      refine lv_iload hx hb dJ1_indexOfChar_4cfef_22 (lv_at hl 0 rfl) ?_
      exact W.iret (v := 0) hx hb hr (fun t9 ht9 hW9 => ⟨_, rfl, (by unfold kdN; rw [if_pos (show c9 = 107 by omega)]; rfl), ht9⟩) (fun q h => by cases h) dJ1_indexOfChar_4cfef_24
set_option maxHeartbeats 4000000 in
set_option maxRecDepth 100000 in
theorem c_J1_indexOf_4cfef_0 (l : Launch) (G : Gam) (c9 : Nat) (hc : c9 < 128) : Met l yJ1_indexOf_4cfef (w1 yJ1_indexOf_4cfef cJ1_indexOf_4cfef 4 (some .int)) ({ frames := 1, cells := 0, slots := 0, locals := 25 }) (PcJ G [.ref (gV G 0), .int (nI c9), .int 0, .int 5]) (vp_Si (fun r => r = oN (kdN c9))) 0 0 (fun _ => False) := by
  refine met_of [.ref (gV G 0), .int (nI c9), .int 0, .int 5] [(0, .ref (gV G 0)), (1, .int (nI c9)), (2, .int 0), (3, .int 5)] (by decide) (Nat.le_of_ble_eq_true rfl) rfl ?_
  intro p e s m below meth c hx hb hr hown hml hlocks hW ls hl
  have hG : GW s := hW.2.2.2.2.2.1
  refine lv_iload_n hx hb dJ1_indexOf_4cfef_0 rfl (lv_at hl 1 rfl) ?_
  refine cs_i (q := 214) [.int (nI c9)] hx hb hml hown hG v_J1_canEncode_9a6ad (by decide +kernel) (c_J1_canEncode l c9 hc) (preT _) rfl hl.1 (Nat.le_of_ble_eq_true rfl) dJ1_indexOf_4cfef_1 ⟨rfl, rfl, Nat.le_of_ble_eq_true rfl, Nat.le_of_ble_eq_true rfl⟩ ⟨Nat.le_of_ble_eq_true rfl, Nat.le_of_ble_eq_true rfl⟩ ?_
  refine lv_if_ne (tgt := 9) hx hb dJ1_indexOf_4cfef_4 (by decide) (fun c_4 => ?_) (fun c_4 => ?_)
  · skip
    refine lv_iload_n hx hb dJ1_indexOf_4cfef_9 rfl (lv_at hl 2 rfl) ?_
    refine lv_iconst (v := 0) hx hb dJ1_indexOf_4cfef_10 (by decide) ?_
    refine va_mmax (own := RJ1) hx hb (hml.trans hl.1.symm) hown (hG.use (i := 217) (by decide +kernel) rfl _) (hG _ mt_max.1 rfl _) (hG _ mt_max.2.1 rfl _) (hG _ mt_max.2.2 rfl _) (Nat.le_of_ble_eq_true rfl) (Nat.le_of_ble_eq_true rfl) (Nat.le_of_ble_eq_true rfl) (Nat.le_of_ble_eq_true rfl) dJ1_indexOf_4cfef_11 ?_
    refine lv_eqi (y := nI (max 0 0)) (max_nI 0 0 (by omega) (by omega)) ?_
    refine lv_eqi (y := 0) rfl ?_
    refine lv_istore_n (lv' := [(2, .int 0), (0, .ref (gV G 0)), (1, .int (nI c9)), (3, .int 5)]) hx hb dJ1_indexOf_4cfef_14 rfl hl (by decide) rfl (fun ls hl => ?_)
    refine lv_iload_n hx hb dJ1_indexOf_4cfef_15 rfl (lv_at hl 3 rfl) ?_
    refine lv_aload_n hx hb dJ1_indexOf_4cfef_16 rfl (lv_at hl 1 rfl) ?_
    refine va_tlen hx hb (hW.1.1 0 (by decide)).2.2.2 va_S.rf (v := 5) rfl dJ1_indexOf_4cfef_17 ?_
    refine va_mmin (own := RJ1) hx hb (hml.trans hl.1.symm) hown (hG.use (i := 220) (by decide +kernel) rfl _) (hG _ mt_min.1 rfl _) (hG _ mt_min.2.1 rfl _) (hG _ mt_min.2.2 rfl _) (Nat.le_of_ble_eq_true rfl) (Nat.le_of_ble_eq_true rfl) (Nat.le_of_ble_eq_true rfl) (Nat.le_of_ble_eq_true rfl) dJ1_indexOf_4cfef_18 ?_
    refine lv_eqi (y := nI (min 5 5)) (min_nI 5 5 (by omega) (by omega)) ?_
    refine lv_eqi (y := 5) rfl ?_
    refine lv_istore_n (lv' := [(3, .int 5), (2, .int 0), (0, .ref (gV G 0)), (1, .int (nI c9))]) hx hb dJ1_indexOf_4cfef_21 rfl hl (by decide) rfl (fun ls hl => ?_)
    refine lv_iload_n hx hb dJ1_indexOf_4cfef_22 rfl (lv_at hl 1 rfl) ?_
    refine lv_iload_n hx hb dJ1_indexOf_4cfef_23 rfl (lv_at hl 0 rfl) ?_
    refine lv_icmp_lt (tgt := 29) hx hb dJ1_indexOf_4cfef_24 (by decide) (fun c_24 => ?_) (fun c_24 => ?_)
    · skip
      refine lv_aload_n hx hb dJ1_indexOf_4cfef_29 rfl (lv_at hl 2 rfl) ?_
      refine lv_iload_n hx hb dJ1_indexOf_4cfef_30 rfl (lv_at hl 3 rfl) ?_
      refine lv_iload_n hx hb dJ1_indexOf_4cfef_31 rfl (lv_at hl 1 rfl) ?_
      refine lv_iload_n hx hb dJ1_indexOf_4cfef_32 rfl (lv_at hl 0 rfl) ?_
      refine cs_i (q := 223) [.ref (gV G 0), .int (nI c9), .int 0, .int 5] hx hb hml hown hG v_J1_indexOfChar_4cfef (by decide +kernel) (c_J1_indexOfChar_4cfef_0 l G c9 hc) (preJS hW _) rfl hl.1 (Nat.le_of_ble_eq_true rfl) dJ1_indexOf_4cfef_33 ⟨rfl, rfl, Nat.le_of_ble_eq_true rfl, Nat.le_of_ble_eq_true rfl⟩ ⟨Nat.le_of_ble_eq_true rfl, Nat.le_of_ble_eq_true rfl⟩ ?_
      exact W.iret (v := oN (kdN c9)) hx hb hr (fun t9 ht9 hW9 => ⟨_, rfl, rfl, ht9⟩) (fun q h => by cases h) dJ1_indexOf_4cfef_36
    · skip
      exact absurd (by decide) c_24
  · skip
    exact absurd c_4 (by decide)
set_option maxHeartbeats 4000000 in
set_option maxRecDepth 100000 in
theorem c_J0_indexOf_7cf53_0 (l : Launch) (G : Gam) (c9 : Nat) (hc : c9 < 128) : Met l yJ0_indexOf_7cf53 (w1 yJ0_indexOf_7cf53 cJ0_indexOf_7cf53 3 (some .int)) ({ frames := 2, cells := 0, slots := 0, locals := 48 }) (PcJ G [.ref (gK G 0), .int (nI c9), .int 0]) (vp_Si (fun r => r = oN (kdN c9))) 0 0 (fun _ => False) := by
  refine met_of [.ref (gK G 0), .int (nI c9), .int 0] [(0, .ref (gK G 0)), (1, .int (nI c9)), (2, .int 0)] (by decide) (Nat.le_of_ble_eq_true rfl) rfl ?_
  intro p e s m below meth c hx hb hr hown hml hlocks hW ls hl
  have hG : GW s := hW.2.2.2.2.2.1
  refine lv_aload_n hx hb dJ0_indexOf_7cf53_0 rfl (lv_at hl 0 rfl) ?_
  refine cr_i (q := 197) [] hx hb hml hown hG v_J0_isLatin1_aae02 (by decide +kernel) (c_J0_isLatin1_aae02_0 l G) (preJ hW 0 (by decide) _) rfl hl.1 (Nat.le_of_ble_eq_true rfl) dJ0_indexOf_7cf53_1 ⟨rfl, rfl, Nat.le_of_ble_eq_true rfl, Nat.le_of_ble_eq_true rfl⟩ ⟨Nat.le_of_ble_eq_true rfl, Nat.le_of_ble_eq_true rfl⟩ ?_
  refine lv_if_eq (tgt := 23) hx hb dJ0_indexOf_7cf53_4 (by decide) (fun c_4 => ?_) (fun c_4 => ?_)
  · skip
    exact absurd c_4 (by decide)
  · skip
    refine lv_aload_n hx hb dJ0_indexOf_7cf53_7 rfl (lv_at hl 0 rfl) ?_
    refine vk_getf hx hb (hW.1.1 0 (by decide)).2.2.1 va_S.rf hown (hG.use (i := 869) (by decide +kernel) rfl _) (fun _ h => h) dJ0_indexOf_7cf53_8 ?_
    refine lv_iload_n hx hb dJ0_indexOf_7cf53_11 rfl (lv_at hl 1 rfl) ?_
    refine lv_iload_n hx hb dJ0_indexOf_7cf53_12 rfl (lv_at hl 2 rfl) ?_
    refine lv_aload_n hx hb dJ0_indexOf_7cf53_13 rfl (lv_at hl 0 rfl) ?_
    refine cr_i (q := 203) [] hx hb hml hown hG v_J0_length_8abf5 (by decide +kernel) (c_J0_length_8abf5_0 l G) (preJ hW 0 (by decide) _) rfl hl.1 (Nat.le_of_ble_eq_true rfl) dJ0_indexOf_7cf53_14 ⟨rfl, rfl, Nat.le_of_ble_eq_true rfl, Nat.le_of_ble_eq_true rfl⟩ ⟨Nat.le_of_ble_eq_true rfl, Nat.le_of_ble_eq_true rfl⟩ ?_
    refine cs_i (q := 211) [.ref (gV G 0), .int (nI c9), .int 0, .int 5] hx hb hml hown hG v_J1_indexOf_4cfef (by decide +kernel) (c_J1_indexOf_4cfef_0 l G c9 hc) (preJS hW _) rfl hl.1 (Nat.le_of_ble_eq_true rfl) dJ0_indexOf_7cf53_17 ⟨rfl, rfl, Nat.le_of_ble_eq_true rfl, Nat.le_of_ble_eq_true rfl⟩ ⟨Nat.le_of_ble_eq_true rfl, Nat.le_of_ble_eq_true rfl⟩ ?_
    refine lv_goto (tgt := 36) hx hb dJ0_indexOf_7cf53_20 (by decide) ?_
    exact W.iret (v := oN (kdN c9)) hx hb hr (fun t9 ht9 hW9 => ⟨_, rfl, rfl, ht9⟩) (fun q h => by cases h) dJ0_indexOf_7cf53_36
set_option maxHeartbeats 4000000 in
set_option maxRecDepth 100000 in
theorem c_J0_indexOf_0f7a4_0 (l : Launch) (G : Gam) (c9 : Nat) (hc : c9 < 128) : Met l yJ0_indexOf_0f7a4 (w1 yJ0_indexOf_0f7a4 cJ0_indexOf_0f7a4 2 (some .int)) ({ frames := 3, cells := 0, slots := 0, locals := 70 }) (PcJ G [.ref (gK G 0), .int (nI c9)]) (vp_Si (fun r => r = oN (kdN c9))) 0 0 (fun _ => False) := by
  refine met_of [.ref (gK G 0), .int (nI c9)] [(0, .ref (gK G 0)), (1, .int (nI c9))] (by decide) (Nat.le_of_ble_eq_true rfl) rfl ?_
  intro p e s m below meth c hx hb hr hown hml hlocks hW ls hl
  have hG : GW s := hW.2.2.2.2.2.1
  refine lv_aload_n hx hb dJ0_indexOf_0f7a4_0 rfl (lv_at hl 0 rfl) ?_
  refine lv_iload_n hx hb dJ0_indexOf_0f7a4_1 rfl (lv_at hl 1 rfl) ?_
  refine lv_iconst (v := 0) hx hb dJ0_indexOf_0f7a4_2 (by decide) ?_
  refine cr_i (q := 193) [.int (nI c9), .int 0] hx hb hml hown hG v_J0_indexOf_7cf53 (by decide +kernel) (c_J0_indexOf_7cf53_0 l G c9 hc) (preJ hW 0 (by decide) _) rfl hl.1 (Nat.le_of_ble_eq_true rfl) dJ0_indexOf_0f7a4_3 ⟨rfl, rfl, Nat.le_of_ble_eq_true rfl, Nat.le_of_ble_eq_true rfl⟩ ⟨Nat.le_of_ble_eq_true rfl, Nat.le_of_ble_eq_true rfl⟩ ?_
  exact W.iret (v := oN (kdN c9)) hx hb hr (fun t9 ht9 hW9 => ⟨_, rfl, rfl, ht9⟩) (fun q h => by cases h) dJ0_indexOf_0f7a4_6
set_option maxHeartbeats 4000000 in
set_option maxRecDepth 100000 in
theorem c_J0_coder_7d493_1 (l : Launch) (G : Gam)  : Met l yJ0_coder_7d493 (w1 yJ0_coder_7d493 cJ0_coder_7d493 1 (some .byte)) ({ frames := 0, cells := 0, slots := 0, locals := 0 }) (PcJ G [.ref (gK G 1)]) (vp_Si (fun r => r = 0)) 0 0 (fun _ => False) := by
  refine met_of [.ref (gK G 1)] [(0, .ref (gK G 1))] (by decide) (Nat.le_of_ble_eq_true rfl) rfl ?_
  intro p e s m below meth c hx hb hr hown hml hlocks hW ls hl
  have hG : GW s := hW.2.2.2.2.2.1
  refine va_gets hx hb hW.2.1 va_S.rf hown (hG.use (i := 201) (by decide +kernel) rfl _) (fun _ h => h) dJ0_coder_7d493_0 ?_
  refine lv_if_eq (tgt := 13) hx hb dJ0_coder_7d493_3 (by decide) (fun c_3 => ?_) (fun c_3 => ?_)
  · skip
    exact absurd c_3 (by decide)
  · skip
    refine lv_aload_n hx hb dJ0_coder_7d493_6 rfl (lv_at hl 0 rfl) ?_
    refine vk_getf hx hb (hW.1.1 1 (by decide)).2.1 va_S.rf hown (hG.use (i := 868) (by decide +kernel) rfl _) (fun _ h => h) dJ0_coder_7d493_7 ?_
    refine lv_goto (tgt := 14) hx hb dJ0_coder_7d493_10 (by decide) ?_
    exact W.zret (v := 0) (ty := .byte) hx hb hr rfl (fun t9 ht9 hW9 => ⟨_, rfl, rfl, ht9⟩) (fun q h => by cases h) dJ0_coder_7d493_14
set_option maxHeartbeats 4000000 in
set_option maxRecDepth 100000 in
theorem c_J0_isLatin1_aae02_1 (l : Launch) (G : Gam)  : Met l yJ0_isLatin1_aae02 (w1 yJ0_isLatin1_aae02 cJ0_isLatin1_aae02 1 (some .boolean)) ({ frames := 0, cells := 0, slots := 0, locals := 0 }) (PcJ G [.ref (gK G 1)]) (vp_Si (fun r => r = 1)) 0 0 (fun _ => False) := by
  refine met_of [.ref (gK G 1)] [(0, .ref (gK G 1))] (by decide) (Nat.le_of_ble_eq_true rfl) rfl ?_
  intro p e s m below meth c hx hb hr hown hml hlocks hW ls hl
  have hG : GW s := hW.2.2.2.2.2.1
  refine va_gets hx hb hW.2.1 va_S.rf hown (hG.use (i := 201) (by decide +kernel) rfl _) (fun _ h => h) dJ0_isLatin1_aae02_0 ?_
  refine lv_if_eq (tgt := 17) hx hb dJ0_isLatin1_aae02_3 (by decide) (fun c_3 => ?_) (fun c_3 => ?_)
  · skip
    exact absurd c_3 (by decide)
  · skip
    refine lv_aload_n hx hb dJ0_isLatin1_aae02_6 rfl (lv_at hl 0 rfl) ?_
    refine vk_getf hx hb (hW.1.1 1 (by decide)).2.1 va_S.rf hown (hG.use (i := 868) (by decide +kernel) rfl _) (fun _ h => h) dJ0_isLatin1_aae02_7 ?_
    refine lv_if_ne (tgt := 17) hx hb dJ0_isLatin1_aae02_10 (by decide) (fun c_10 => ?_) (fun c_10 => ?_)
    · skip
      exact absurd (by decide) c_10
    · skip
      refine lv_iconst (v := 1) hx hb dJ0_isLatin1_aae02_13 (by decide) ?_
      refine lv_goto (tgt := 18) hx hb dJ0_isLatin1_aae02_14 (by decide) ?_
      exact W.zret (v := 1) (ty := .boolean) hx hb hr rfl (fun t9 ht9 hW9 => ⟨_, rfl, rfl, ht9⟩) (fun q h => by cases h) dJ0_isLatin1_aae02_18
set_option maxHeartbeats 4000000 in
set_option maxRecDepth 100000 in
theorem c_J0_length_8abf5_1 (l : Launch) (G : Gam)  : Met l yJ0_length_8abf5 (w1 yJ0_length_8abf5 cJ0_length_8abf5 1 (some .int)) ({ frames := 1, cells := 0, slots := 0, locals := 20 }) (PcJ G [.ref (gK G 1)]) (vp_Si (fun r => r = 4)) 0 0 (fun _ => False) := by
  refine met_of [.ref (gK G 1)] [(0, .ref (gK G 1))] (by decide) (Nat.le_of_ble_eq_true rfl) rfl ?_
  intro p e s m below meth c hx hb hr hown hml hlocks hW ls hl
  have hG : GW s := hW.2.2.2.2.2.1
  refine lv_aload_n hx hb dJ0_length_8abf5_0 rfl (lv_at hl 0 rfl) ?_
  refine vk_getf hx hb (hW.1.1 1 (by decide)).2.2.1 va_S.rf hown (hG.use (i := 869) (by decide +kernel) rfl _) (fun _ h => h) dJ0_length_8abf5_1 ?_
  refine va_tlen hx hb (hW.1.1 1 (by decide)).2.2.2 va_S.rf (v := 4) rfl dJ0_length_8abf5_4 ?_
  refine lv_aload_n hx hb dJ0_length_8abf5_5 rfl (lv_at hl 0 rfl) ?_
  refine cr_i (q := 207) [] hx hb hml hown hG v_J0_coder_7d493 (by decide +kernel) (c_J0_coder_7d493_1 l G) (preJ hW 1 (by decide) _) rfl hl.1 (Nat.le_of_ble_eq_true rfl) dJ0_length_8abf5_6 ⟨rfl, rfl, Nat.le_of_ble_eq_true rfl, Nat.le_of_ble_eq_true rfl⟩ ⟨Nat.le_of_ble_eq_true rfl, Nat.le_of_ble_eq_true rfl⟩ ?_
  refine lv_ishr hx hb dJ0_length_8abf5_9 ?_
  refine lv_eqi (y := 4) (by decide +kernel) ?_
  exact W.iret (v := 4) hx hb hr (fun t9 ht9 hW9 => ⟨_, rfl, rfl, ht9⟩) (fun q h => by cases h) dJ0_length_8abf5_10
set_option maxHeartbeats 4000000 in
set_option maxRecDepth 100000 in
theorem c_J1_indexOfChar_4cfef_1 (l : Launch) (G : Gam) (c9 : Nat) (hc : c9 < 128) : Met l yJ1_indexOfChar_4cfef (w1 yJ1_indexOfChar_4cfef cJ1_indexOfChar_4cfef 6 (some .int)) ({ frames := 0, cells := 0, slots := 0, locals := 0 }) (PcJ G [.ref (gV G 1), .int (nI c9), .int 0, .int 4]) (vp_Si (fun r => r = oN (stN c9))) 0 0 (fun _ => False) := by
  refine met_of [.ref (gV G 1), .int (nI c9), .int 0, .int 4] [(0, .ref (gV G 1)), (1, .int (nI c9)), (2, .int 0), (3, .int 4)] (by decide) (Nat.le_of_ble_eq_true rfl) rfl ?_
  intro p e s m below meth c hx hb hr hown hml hlocks hW ls hl
  have hG : GW s := hW.2.2.2.2.2.1
  refine lv_iload_n hx hb dJ1_indexOfChar_4cfef_0 rfl (lv_at hl 1 rfl) ?_
  refine lv_i2b hx hb dJ1_indexOfChar_4cfef_1 rfl ?_
  refine lv_eqi (y := nI c9) (bY8 c9 hc) ?_
  refine lv_istore (lv' := [(4, .int (nI c9)), (0, .ref (gV G 1)), (1, .int (nI c9)), (2, .int 0), (3, .int 4)]) hx hb dJ1_indexOfChar_4cfef_2 hl (by decide) rfl (fun ls hl => ?_)
  refine lv_iload_n hx hb dJ1_indexOfChar_4cfef_4 rfl (lv_at hl 3 rfl) ?_
  refine lv_istore (lv' := [(5, .int 0), (4, .int (nI c9)), (0, .ref (gV G 1)), (1, .int (nI c9)), (2, .int 0), (3, .int 4)]) hx hb dJ1_indexOfChar_4cfef_5 hl (by decide) rfl (fun ls hl => ?_)
  refine lv_iload hx hb dJ1_indexOfChar_4cfef_7 (lv_at hl 0 rfl) ?_
  refine lv_iload_n hx hb dJ1_indexOfChar_4cfef_9 rfl (lv_at hl 5 rfl) ?_
  refine lv_icmp_ge (tgt := 31) hx hb dJ1_indexOfChar_4cfef_10 (by decide) (fun c_10 => ?_) (fun c_10 => ?_)
  · skip
    exact absurd c_10 (by decide)
  · skip
    refine lv_aload_n hx hb dJ1_indexOfChar_4cfef_13 rfl (lv_at hl 2 rfl) ?_
    refine lv_iload hx hb dJ1_indexOfChar_4cfef_14 (lv_at hl 0 rfl) ?_
    refine va_tb hx hb (hW.1.1 1 (by decide)).2.2.2 va_S.rf (i := 0) (show vp_in (nI 0) 4 from vp_in_nI (by decide) (by decide)) (v := .int 110) rfl dJ1_indexOfChar_4cfef_16 ?_
    refine lv_iload hx hb dJ1_indexOfChar_4cfef_17 (lv_at hl 1 rfl) ?_
    refine lv_icmp_ne (tgt := 25) hx hb dJ1_indexOfChar_4cfef_19 (by decide) (fun c_19 => ?_) (fun c_19 => ?_)
    · skip
      have q_19 := tN_ne 110 c9 c_19 rfl rfl (by omega) (by omega)
      refine lv_iinc (v := 1) (lv' := [(5, .int 1), (4, .int (nI c9)), (0, .ref (gV G 1)), (1, .int (nI c9)), (2, .int 0), (3, .int 4)]) hx hb dJ1_indexOfChar_4cfef_25 hl (k := 0) rfl rfl (by decide) rfl (fun ls hl => ?_)
      refine lv_goto (tgt := 7) hx hb dJ1_indexOfChar_4cfef_28 (by decide) ?_
      refine lv_iload hx hb dJ1_indexOfChar_4cfef_7 (lv_at hl 0 rfl) ?_
      refine lv_iload_n hx hb dJ1_indexOfChar_4cfef_9 rfl (lv_at hl 5 rfl) ?_
      refine lv_icmp_ge (tgt := 31) hx hb dJ1_indexOfChar_4cfef_10 (by decide) (fun c_10 => ?_) (fun c_10 => ?_)
      · skip
        exact absurd c_10 (by decide)
      · skip
        refine lv_aload_n hx hb dJ1_indexOfChar_4cfef_13 rfl (lv_at hl 2 rfl) ?_
        refine lv_iload hx hb dJ1_indexOfChar_4cfef_14 (lv_at hl 0 rfl) ?_
        refine va_tb hx hb (hW.1.1 1 (by decide)).2.2.2 va_S.rf (i := 1) (show vp_in (nI 1) 4 from vp_in_nI (by decide) (by decide)) (v := .int 101) rfl dJ1_indexOfChar_4cfef_16 ?_
        refine lv_iload hx hb dJ1_indexOfChar_4cfef_17 (lv_at hl 1 rfl) ?_
        refine lv_icmp_ne (tgt := 25) hx hb dJ1_indexOfChar_4cfef_19 (by decide) (fun c_19 => ?_) (fun c_19 => ?_)
        · skip
          have q_19 := tN_ne 101 c9 c_19 rfl rfl (by omega) (by omega)
          refine lv_iinc (v := 2) (lv' := [(5, .int 2), (4, .int (nI c9)), (0, .ref (gV G 1)), (1, .int (nI c9)), (2, .int 0), (3, .int 4)]) hx hb dJ1_indexOfChar_4cfef_25 hl (k := 0) rfl rfl (by decide) rfl (fun ls hl => ?_)
          refine lv_goto (tgt := 7) hx hb dJ1_indexOfChar_4cfef_28 (by decide) ?_
          refine lv_iload hx hb dJ1_indexOfChar_4cfef_7 (lv_at hl 0 rfl) ?_
          refine lv_iload_n hx hb dJ1_indexOfChar_4cfef_9 rfl (lv_at hl 5 rfl) ?_
          refine lv_icmp_ge (tgt := 31) hx hb dJ1_indexOfChar_4cfef_10 (by decide) (fun c_10 => ?_) (fun c_10 => ?_)
          · skip
            exact absurd c_10 (by decide)
          · skip
            refine lv_aload_n hx hb dJ1_indexOfChar_4cfef_13 rfl (lv_at hl 2 rfl) ?_
            refine lv_iload hx hb dJ1_indexOfChar_4cfef_14 (lv_at hl 0 rfl) ?_
            refine va_tb hx hb (hW.1.1 1 (by decide)).2.2.2 va_S.rf (i := 2) (show vp_in (nI 2) 4 from vp_in_nI (by decide) (by decide)) (v := .int 115) rfl dJ1_indexOfChar_4cfef_16 ?_
            refine lv_iload hx hb dJ1_indexOfChar_4cfef_17 (lv_at hl 1 rfl) ?_
            refine lv_icmp_ne (tgt := 25) hx hb dJ1_indexOfChar_4cfef_19 (by decide) (fun c_19 => ?_) (fun c_19 => ?_)
            · skip
              have q_19 := tN_ne 115 c9 c_19 rfl rfl (by omega) (by omega)
              refine lv_iinc (v := 3) (lv' := [(5, .int 3), (4, .int (nI c9)), (0, .ref (gV G 1)), (1, .int (nI c9)), (2, .int 0), (3, .int 4)]) hx hb dJ1_indexOfChar_4cfef_25 hl (k := 0) rfl rfl (by decide) rfl (fun ls hl => ?_)
              refine lv_goto (tgt := 7) hx hb dJ1_indexOfChar_4cfef_28 (by decide) ?_
              refine lv_iload hx hb dJ1_indexOfChar_4cfef_7 (lv_at hl 0 rfl) ?_
              refine lv_iload_n hx hb dJ1_indexOfChar_4cfef_9 rfl (lv_at hl 5 rfl) ?_
              refine lv_icmp_ge (tgt := 31) hx hb dJ1_indexOfChar_4cfef_10 (by decide) (fun c_10 => ?_) (fun c_10 => ?_)
              · skip
                exact absurd c_10 (by decide)
              · skip
                refine lv_aload_n hx hb dJ1_indexOfChar_4cfef_13 rfl (lv_at hl 2 rfl) ?_
                refine lv_iload hx hb dJ1_indexOfChar_4cfef_14 (lv_at hl 0 rfl) ?_
                refine va_tb hx hb (hW.1.1 1 (by decide)).2.2.2 va_S.rf (i := 3) (show vp_in (nI 3) 4 from vp_in_nI (by decide) (by decide)) (v := .int 119) rfl dJ1_indexOfChar_4cfef_16 ?_
                refine lv_iload hx hb dJ1_indexOfChar_4cfef_17 (lv_at hl 1 rfl) ?_
                refine lv_icmp_ne (tgt := 25) hx hb dJ1_indexOfChar_4cfef_19 (by decide) (fun c_19 => ?_) (fun c_19 => ?_)
                · skip
                  have q_19 := tN_ne 119 c9 c_19 rfl rfl (by omega) (by omega)
                  refine lv_iinc (v := 4) (lv' := [(5, .int 4), (4, .int (nI c9)), (0, .ref (gV G 1)), (1, .int (nI c9)), (2, .int 0), (3, .int 4)]) hx hb dJ1_indexOfChar_4cfef_25 hl (k := 0) rfl rfl (by decide) rfl (fun ls hl => ?_)
                  refine lv_goto (tgt := 7) hx hb dJ1_indexOfChar_4cfef_28 (by decide) ?_
                  refine lv_iload hx hb dJ1_indexOfChar_4cfef_7 (lv_at hl 0 rfl) ?_
                  refine lv_iload_n hx hb dJ1_indexOfChar_4cfef_9 rfl (lv_at hl 5 rfl) ?_
                  refine lv_icmp_ge (tgt := 31) hx hb dJ1_indexOfChar_4cfef_10 (by decide) (fun c_10 => ?_) (fun c_10 => ?_)
                  · skip
                    refine lv_iconst (v := (-1)) hx hb dJ1_indexOfChar_4cfef_31 (by decide) ?_
                    exact W.iret (v := (-1)) hx hb hr (fun t9 ht9 hW9 => ⟨_, rfl, (by unfold stN; rw [if_neg (show ¬ c9 = 110 by omega), if_neg (show ¬ c9 = 101 by omega), if_neg (show ¬ c9 = 115 by omega), if_neg (show ¬ c9 = 119 by omega)]; rfl), ht9⟩) (fun q h => by cases h) dJ1_indexOfChar_4cfef_32
                  · skip
                    exact absurd (by decide) c_10
                · skip
                  have q_19 := tN_eq 119 c9 c_19 rfl rfl (by omega) (by omega)
                  refine lv_iload hx hb dJ1_indexOfChar_4cfef_22 (lv_at hl 0 rfl) ?_
                  exact W.iret (v := 3) hx hb hr (fun t9 ht9 hW9 => ⟨_, rfl, (by unfold stN; rw [if_neg (show ¬ c9 = 110 by omega), if_neg (show ¬ c9 = 101 by omega), if_neg (show ¬ c9 = 115 by omega), if_pos (show c9 = 119 by omega)]; rfl), ht9⟩) (fun q h => by cases h) dJ1_indexOfChar_4cfef_24
            · skip
              have q_19 := tN_eq 115 c9 c_19 rfl rfl (by omega) (by omega)
              refine lv_iload hx hb dJ1_indexOfChar_4cfef_22 (lv_at hl 0 rfl) ?_
              exact W.iret (v := 2) hx hb hr (fun t9 ht9 hW9 => ⟨_, rfl, (by unfold stN; rw [if_neg (show ¬ c9 = 110 by omega), if_neg (show ¬ c9 = 101 by omega), if_pos (show c9 = 115 by omega)]; rfl), ht9⟩) (fun q h => by cases h) dJ1_indexOfChar_4cfef_24
        · skip
          have q_19 := tN_eq 101 c9 c_19 rfl rfl (by omega) (by omega)
          refine lv_iload hx hb dJ1_indexOfChar_4cfef_22 (lv_at hl 0 rfl) ?_
          exact W.iret (v := 1) hx hb hr (fun t9 ht9 hW9 => ⟨_, rfl, (by unfold stN; rw [if_neg (show ¬ c9 = 110 by omega), if_pos (show c9 = 101 by omega)]; rfl), ht9⟩) (fun q h => by cases h) dJ1_indexOfChar_4cfef_24
    · skip
      have q_19 := tN_eq 110 c9 c_19 rfl rfl (by omega) (by omega)
      refine lv_iload hx hb dJ1_indexOfChar_4cfef_22 (lv_at hl 0 rfl) ?_
      exact W.iret (v := 0) hx hb hr (fun t9 ht9 hW9 => ⟨_, rfl, (by unfold stN; rw [if_pos (show c9 = 110 by omega)]; rfl), ht9⟩) (fun q h => by cases h) dJ1_indexOfChar_4cfef_24
set_option maxHeartbeats 4000000 in
set_option maxRecDepth 100000 in
theorem c_J1_indexOf_4cfef_1 (l : Launch) (G : Gam) (c9 : Nat) (hc : c9 < 128) : Met l yJ1_indexOf_4cfef (w1 yJ1_indexOf_4cfef cJ1_indexOf_4cfef 4 (some .int)) ({ frames := 1, cells := 0, slots := 0, locals := 25 }) (PcJ G [.ref (gV G 1), .int (nI c9), .int 0, .int 4]) (vp_Si (fun r => r = oN (stN c9))) 0 0 (fun _ => False) := by
  refine met_of [.ref (gV G 1), .int (nI c9), .int 0, .int 4] [(0, .ref (gV G 1)), (1, .int (nI c9)), (2, .int 0), (3, .int 4)] (by decide) (Nat.le_of_ble_eq_true rfl) rfl ?_
  intro p e s m below meth c hx hb hr hown hml hlocks hW ls hl
  have hG : GW s := hW.2.2.2.2.2.1
  refine lv_iload_n hx hb dJ1_indexOf_4cfef_0 rfl (lv_at hl 1 rfl) ?_
  refine cs_i (q := 214) [.int (nI c9)] hx hb hml hown hG v_J1_canEncode_9a6ad (by decide +kernel) (c_J1_canEncode l c9 hc) (preT _) rfl hl.1 (Nat.le_of_ble_eq_true rfl) dJ1_indexOf_4cfef_1 ⟨rfl, rfl, Nat.le_of_ble_eq_true rfl, Nat.le_of_ble_eq_true rfl⟩ ⟨Nat.le_of_ble_eq_true rfl, Nat.le_of_ble_eq_true rfl⟩ ?_
  refine lv_if_ne (tgt := 9) hx hb dJ1_indexOf_4cfef_4 (by decide) (fun c_4 => ?_) (fun c_4 => ?_)
  · skip
    refine lv_iload_n hx hb dJ1_indexOf_4cfef_9 rfl (lv_at hl 2 rfl) ?_
    refine lv_iconst (v := 0) hx hb dJ1_indexOf_4cfef_10 (by decide) ?_
    refine va_mmax (own := RJ1) hx hb (hml.trans hl.1.symm) hown (hG.use (i := 217) (by decide +kernel) rfl _) (hG _ mt_max.1 rfl _) (hG _ mt_max.2.1 rfl _) (hG _ mt_max.2.2 rfl _) (Nat.le_of_ble_eq_true rfl) (Nat.le_of_ble_eq_true rfl) (Nat.le_of_ble_eq_true rfl) (Nat.le_of_ble_eq_true rfl) dJ1_indexOf_4cfef_11 ?_
    refine lv_eqi (y := nI (max 0 0)) (max_nI 0 0 (by omega) (by omega)) ?_
    refine lv_eqi (y := 0) rfl ?_
    refine lv_istore_n (lv' := [(2, .int 0), (0, .ref (gV G 1)), (1, .int (nI c9)), (3, .int 4)]) hx hb dJ1_indexOf_4cfef_14 rfl hl (by decide) rfl (fun ls hl => ?_)
    refine lv_iload_n hx hb dJ1_indexOf_4cfef_15 rfl (lv_at hl 3 rfl) ?_
    refine lv_aload_n hx hb dJ1_indexOf_4cfef_16 rfl (lv_at hl 1 rfl) ?_
    refine va_tlen hx hb (hW.1.1 1 (by decide)).2.2.2 va_S.rf (v := 4) rfl dJ1_indexOf_4cfef_17 ?_
    refine va_mmin (own := RJ1) hx hb (hml.trans hl.1.symm) hown (hG.use (i := 220) (by decide +kernel) rfl _) (hG _ mt_min.1 rfl _) (hG _ mt_min.2.1 rfl _) (hG _ mt_min.2.2 rfl _) (Nat.le_of_ble_eq_true rfl) (Nat.le_of_ble_eq_true rfl) (Nat.le_of_ble_eq_true rfl) (Nat.le_of_ble_eq_true rfl) dJ1_indexOf_4cfef_18 ?_
    refine lv_eqi (y := nI (min 4 4)) (min_nI 4 4 (by omega) (by omega)) ?_
    refine lv_eqi (y := 4) rfl ?_
    refine lv_istore_n (lv' := [(3, .int 4), (2, .int 0), (0, .ref (gV G 1)), (1, .int (nI c9))]) hx hb dJ1_indexOf_4cfef_21 rfl hl (by decide) rfl (fun ls hl => ?_)
    refine lv_iload_n hx hb dJ1_indexOf_4cfef_22 rfl (lv_at hl 1 rfl) ?_
    refine lv_iload_n hx hb dJ1_indexOf_4cfef_23 rfl (lv_at hl 0 rfl) ?_
    refine lv_icmp_lt (tgt := 29) hx hb dJ1_indexOf_4cfef_24 (by decide) (fun c_24 => ?_) (fun c_24 => ?_)
    · skip
      refine lv_aload_n hx hb dJ1_indexOf_4cfef_29 rfl (lv_at hl 2 rfl) ?_
      refine lv_iload_n hx hb dJ1_indexOf_4cfef_30 rfl (lv_at hl 3 rfl) ?_
      refine lv_iload_n hx hb dJ1_indexOf_4cfef_31 rfl (lv_at hl 1 rfl) ?_
      refine lv_iload_n hx hb dJ1_indexOf_4cfef_32 rfl (lv_at hl 0 rfl) ?_
      refine cs_i (q := 223) [.ref (gV G 1), .int (nI c9), .int 0, .int 4] hx hb hml hown hG v_J1_indexOfChar_4cfef (by decide +kernel) (c_J1_indexOfChar_4cfef_1 l G c9 hc) (preJS hW _) rfl hl.1 (Nat.le_of_ble_eq_true rfl) dJ1_indexOf_4cfef_33 ⟨rfl, rfl, Nat.le_of_ble_eq_true rfl, Nat.le_of_ble_eq_true rfl⟩ ⟨Nat.le_of_ble_eq_true rfl, Nat.le_of_ble_eq_true rfl⟩ ?_
      exact W.iret (v := oN (stN c9)) hx hb hr (fun t9 ht9 hW9 => ⟨_, rfl, rfl, ht9⟩) (fun q h => by cases h) dJ1_indexOf_4cfef_36
    · skip
      exact absurd (by decide) c_24
  · skip
    exact absurd c_4 (by decide)
set_option maxHeartbeats 4000000 in
set_option maxRecDepth 100000 in
theorem c_J0_indexOf_7cf53_1 (l : Launch) (G : Gam) (c9 : Nat) (hc : c9 < 128) : Met l yJ0_indexOf_7cf53 (w1 yJ0_indexOf_7cf53 cJ0_indexOf_7cf53 3 (some .int)) ({ frames := 2, cells := 0, slots := 0, locals := 48 }) (PcJ G [.ref (gK G 1), .int (nI c9), .int 0]) (vp_Si (fun r => r = oN (stN c9))) 0 0 (fun _ => False) := by
  refine met_of [.ref (gK G 1), .int (nI c9), .int 0] [(0, .ref (gK G 1)), (1, .int (nI c9)), (2, .int 0)] (by decide) (Nat.le_of_ble_eq_true rfl) rfl ?_
  intro p e s m below meth c hx hb hr hown hml hlocks hW ls hl
  have hG : GW s := hW.2.2.2.2.2.1
  refine lv_aload_n hx hb dJ0_indexOf_7cf53_0 rfl (lv_at hl 0 rfl) ?_
  refine cr_i (q := 197) [] hx hb hml hown hG v_J0_isLatin1_aae02 (by decide +kernel) (c_J0_isLatin1_aae02_1 l G) (preJ hW 1 (by decide) _) rfl hl.1 (Nat.le_of_ble_eq_true rfl) dJ0_indexOf_7cf53_1 ⟨rfl, rfl, Nat.le_of_ble_eq_true rfl, Nat.le_of_ble_eq_true rfl⟩ ⟨Nat.le_of_ble_eq_true rfl, Nat.le_of_ble_eq_true rfl⟩ ?_
  refine lv_if_eq (tgt := 23) hx hb dJ0_indexOf_7cf53_4 (by decide) (fun c_4 => ?_) (fun c_4 => ?_)
  · skip
    exact absurd c_4 (by decide)
  · skip
    refine lv_aload_n hx hb dJ0_indexOf_7cf53_7 rfl (lv_at hl 0 rfl) ?_
    refine vk_getf hx hb (hW.1.1 1 (by decide)).2.2.1 va_S.rf hown (hG.use (i := 869) (by decide +kernel) rfl _) (fun _ h => h) dJ0_indexOf_7cf53_8 ?_
    refine lv_iload_n hx hb dJ0_indexOf_7cf53_11 rfl (lv_at hl 1 rfl) ?_
    refine lv_iload_n hx hb dJ0_indexOf_7cf53_12 rfl (lv_at hl 2 rfl) ?_
    refine lv_aload_n hx hb dJ0_indexOf_7cf53_13 rfl (lv_at hl 0 rfl) ?_
    refine cr_i (q := 203) [] hx hb hml hown hG v_J0_length_8abf5 (by decide +kernel) (c_J0_length_8abf5_1 l G) (preJ hW 1 (by decide) _) rfl hl.1 (Nat.le_of_ble_eq_true rfl) dJ0_indexOf_7cf53_14 ⟨rfl, rfl, Nat.le_of_ble_eq_true rfl, Nat.le_of_ble_eq_true rfl⟩ ⟨Nat.le_of_ble_eq_true rfl, Nat.le_of_ble_eq_true rfl⟩ ?_
    refine cs_i (q := 211) [.ref (gV G 1), .int (nI c9), .int 0, .int 4] hx hb hml hown hG v_J1_indexOf_4cfef (by decide +kernel) (c_J1_indexOf_4cfef_1 l G c9 hc) (preJS hW _) rfl hl.1 (Nat.le_of_ble_eq_true rfl) dJ0_indexOf_7cf53_17 ⟨rfl, rfl, Nat.le_of_ble_eq_true rfl, Nat.le_of_ble_eq_true rfl⟩ ⟨Nat.le_of_ble_eq_true rfl, Nat.le_of_ble_eq_true rfl⟩ ?_
    refine lv_goto (tgt := 36) hx hb dJ0_indexOf_7cf53_20 (by decide) ?_
    exact W.iret (v := oN (stN c9)) hx hb hr (fun t9 ht9 hW9 => ⟨_, rfl, rfl, ht9⟩) (fun q h => by cases h) dJ0_indexOf_7cf53_36
set_option maxHeartbeats 4000000 in
set_option maxRecDepth 100000 in
theorem c_J0_indexOf_0f7a4_1 (l : Launch) (G : Gam) (c9 : Nat) (hc : c9 < 128) : Met l yJ0_indexOf_0f7a4 (w1 yJ0_indexOf_0f7a4 cJ0_indexOf_0f7a4 2 (some .int)) ({ frames := 3, cells := 0, slots := 0, locals := 70 }) (PcJ G [.ref (gK G 1), .int (nI c9)]) (vp_Si (fun r => r = oN (stN c9))) 0 0 (fun _ => False) := by
  refine met_of [.ref (gK G 1), .int (nI c9)] [(0, .ref (gK G 1)), (1, .int (nI c9))] (by decide) (Nat.le_of_ble_eq_true rfl) rfl ?_
  intro p e s m below meth c hx hb hr hown hml hlocks hW ls hl
  have hG : GW s := hW.2.2.2.2.2.1
  refine lv_aload_n hx hb dJ0_indexOf_0f7a4_0 rfl (lv_at hl 0 rfl) ?_
  refine lv_iload_n hx hb dJ0_indexOf_0f7a4_1 rfl (lv_at hl 1 rfl) ?_
  refine lv_iconst (v := 0) hx hb dJ0_indexOf_0f7a4_2 (by decide) ?_
  refine cr_i (q := 193) [.int (nI c9), .int 0] hx hb hml hown hG v_J0_indexOf_7cf53 (by decide +kernel) (c_J0_indexOf_7cf53_1 l G c9 hc) (preJ hW 1 (by decide) _) rfl hl.1 (Nat.le_of_ble_eq_true rfl) dJ0_indexOf_0f7a4_3 ⟨rfl, rfl, Nat.le_of_ble_eq_true rfl, Nat.le_of_ble_eq_true rfl⟩ ⟨Nat.le_of_ble_eq_true rfl, Nat.le_of_ble_eq_true rfl⟩ ?_
  exact W.iret (v := oN (stN c9)) hx hb hr (fun t9 ht9 hW9 => ⟨_, rfl, rfl, ht9⟩) (fun q h => by cases h) dJ0_indexOf_0f7a4_6
set_option maxHeartbeats 4000000 in
set_option maxRecDepth 100000 in
theorem c_X1_fits (l : Launch) (G : Gam) (c9 ps b : Nat) (hc : c9 < 128) (hp : ps ≤ 8) (hb3 : b ≤ 4) : Met l yX1_fits (w1 yX1_fits cX1_fits 3 (some .boolean)) ({ frames := 4, cells := 0, slots := 0, locals := 91 }) (PcJ G [.int (nI c9), .int (nI ps), .int (nI b)]) (vp_Si (fun r => r = bI (fitN c9 ps b))) 0 0 (fun _ => False) := by
  refine met_of [.int (nI c9), .int (nI ps), .int (nI b)] [(0, .int (nI c9)), (1, .int (nI ps)), (2, .int (nI b))] (by decide) (Nat.le_of_ble_eq_true rfl) rfl ?_
  intro p e s m below meth c hx hb hr hown hml hlocks hW ls hl
  have hSX := hW
  have hG : GW s := hW.2.2.2.2.2.1
  refine lv_iload_n hx hb dX1_fits_0 rfl (lv_at hl 1 rfl) ?_
  refine lv_if_ne (tgt := 19) hx hb dX1_fits_1 (by decide) (fun c_1 => ?_) (fun c_1 => ?_)
  · skip
    have q_1 := tN_ne ps 0 c_1 rfl rfl (by omega) (by omega)
    refine lv_iload_n hx hb dX1_fits_19 rfl (lv_at hl 1 rfl) ?_
    refine lv_iconst (v := 1) hx hb dX1_fits_20 (by decide) ?_
    refine lv_icmp_ne (tgt := 32) hx hb dX1_fits_21 (by decide) (fun c_21 => ?_) (fun c_21 => ?_)
    · skip
      have q_21 := tN_ne ps 1 c_21 rfl rfl (by omega) (by omega)
      refine lv_iload_n hx hb dX1_fits_32 rfl (lv_at hl 0 rfl) ?_
      refine lv_bipush (v := 44) hx hb dX1_fits_33 (by decide) ?_
      refine lv_icmp_ne (tgt := 54) hx hb dX1_fits_35 (by decide) (fun c_35 => ?_) (fun c_35 => ?_)
      · skip
        have q_35 := tN_ne c9 44 c_35 rfl rfl (by omega) (by omega)
        refine lv_iload_n hx hb dX1_fits_54 rfl (lv_at hl 1 rfl) ?_
        refine lv_bipush (v := 7) hx hb dX1_fits_55 (by decide) ?_
        refine lv_icmp_ge (tgt := 73) hx hb dX1_fits_57 (by decide) (fun c_57 => ?_) (fun c_57 => ?_)
        · skip
          have q_57 := tN_le 7 ps c_57 rfl rfl (by omega) (by omega)
          refine lv_iconst (v := 0) hx hb dX1_fits_73 (by decide) ?_
          exact W.zret (v := 0) (ty := .boolean) hx hb hr rfl (fun t9 ht9 hW9 => ⟨_, rfl, (by rw [fit_2e (by omega) (show c9 ≠ 44 from q_35), decide_eq_false (by omega)]; rfl), ht9⟩) (fun q h => by cases h) dX1_fits_74
        · skip
          have q_57 := tN_nle 7 ps c_57 rfl rfl (by omega) (by omega)
          refine va_ldcS hx hb hown hSX.2.2.2.1 dX1_fits_60 ?_
          refine lv_iload_n hx hb dX1_fits_62 rfl (lv_at hl 0 rfl) ?_
          refine cr_i (q := 189) [.int (nI c9)] hx hb hml hown hG v_J0_indexOf_0f7a4 (by decide +kernel) (c_J0_indexOf_0f7a4_1 l G c9 hc) (preJ hSX 1 (by decide) _) rfl hl.1 (Nat.le_of_ble_eq_true rfl) dX1_fits_63 ⟨rfl, rfl, Nat.le_of_ble_eq_true rfl, Nat.le_of_ble_eq_true rfl⟩ ⟨Nat.le_of_ble_eq_true rfl, Nat.le_of_ble_eq_true rfl⟩ ?_
          refine lv_if_lt (tgt := 73) hx hb dX1_fits_66 (by decide) (fun c_66 => ?_) (fun c_66 => ?_)
          · skip
            refine lv_iconst (v := 0) hx hb dX1_fits_73 (by decide) ?_
            exact W.zret (v := 0) (ty := .boolean) hx hb hr rfl (fun t9 ht9 hW9 => ⟨_, rfl, (by rw [fit_2e (by omega) (show c9 ≠ 44 from q_35), decide_eq_false (by have := oN_lt (st_9 c9) (by omega) c_66; omega)]; rfl), ht9⟩) (fun q h => by cases h) dX1_fits_74
          · skip
            refine lv_iconst (v := 1) hx hb dX1_fits_69 (by decide) ?_
            refine lv_goto (tgt := 74) hx hb dX1_fits_70 (by decide) ?_
            exact W.zret (v := 1) (ty := .boolean) hx hb hr rfl (fun t9 ht9 hW9 => ⟨_, rfl, (by rw [fit_2e (by omega) (show c9 ≠ 44 from q_35), decide_eq_true ⟨by omega, oN_ge (st_9 c9) c_66⟩]; rfl), ht9⟩) (fun q h => by cases h) dX1_fits_74
      · skip
        have q_35 := tN_eq c9 44 c_35 rfl rfl (by omega) (by omega)
        refine lv_iload_n hx hb dX1_fits_38 rfl (lv_at hl 1 rfl) ?_
        refine lv_iconst (v := 2) hx hb dX1_fits_39 (by decide) ?_
        refine lv_icmp_le (tgt := 52) hx hb dX1_fits_40 (by decide) (fun c_40 => ?_) (fun c_40 => ?_)
        · skip
          have q_40 := tN_le ps 2 c_40 rfl rfl (by omega) (by omega)
          refine lv_iconst (v := 0) hx hb dX1_fits_52 (by decide) ?_
          exact W.zret (v := 0) (ty := .boolean) hx hb hr rfl (fun t9 ht9 hW9 => ⟨_, rfl, (by rw [show c9 = 44 from q_35, fit_se (by omega), decide_eq_false (by omega)]; rfl), ht9⟩) (fun q h => by cases h) dX1_fits_53
        · skip
          have q_40 := tN_nle ps 2 c_40 rfl rfl (by omega) (by omega)
          refine lv_iload_n hx hb dX1_fits_43 rfl (lv_at hl 2 rfl) ?_
          refine lv_iconst (v := 3) hx hb dX1_fits_44 (by decide) ?_
          refine lv_icmp_ge (tgt := 52) hx hb dX1_fits_45 (by decide) (fun c_45 => ?_) (fun c_45 => ?_)
          · skip
            have q_45 := tN_le 3 b c_45 rfl rfl (by omega) (by omega)
            refine lv_iconst (v := 0) hx hb dX1_fits_52 (by decide) ?_
            exact W.zret (v := 0) (ty := .boolean) hx hb hr rfl (fun t9 ht9 hW9 => ⟨_, rfl, (by rw [show c9 = 44 from q_35, fit_se (by omega), decide_eq_false (by omega)]; rfl), ht9⟩) (fun q h => by cases h) dX1_fits_53
          · skip
            have q_45 := tN_nle 3 b c_45 rfl rfl (by omega) (by omega)
            refine lv_iconst (v := 1) hx hb dX1_fits_48 (by decide) ?_
            refine lv_goto (tgt := 53) hx hb dX1_fits_49 (by decide) ?_
            exact W.zret (v := 1) (ty := .boolean) hx hb hr rfl (fun t9 ht9 hW9 => ⟨_, rfl, (by rw [show c9 = 44 from q_35, fit_se (by omega), decide_eq_true (by omega)]; rfl), ht9⟩) (fun q h => by cases h) dX1_fits_53
    · skip
      have q_21 := tN_eq ps 1 c_21 rfl rfl (by omega) (by omega)
      refine lv_iload_n hx hb dX1_fits_24 rfl (lv_at hl 0 rfl) ?_
      refine lv_bipush (v := 97) hx hb dX1_fits_25 (by decide) ?_
      refine lv_isub hx hb dX1_fits_27 ?_
      refine cn_i [.int ((nI c9) - 97)] hx hb hml hown hG v_X3_isPlace (hSX.2.2.2.2.2.2.use 16 rfl) (c_X3_isPlace l (nI c9 - 97)) (preT _) rfl hl.1 (Nat.le_of_ble_eq_true rfl) dX1_fits_28 ⟨rfl, rfl, Nat.le_of_ble_eq_true rfl, Nat.le_of_ble_eq_true rfl⟩ ⟨Nat.le_of_ble_eq_true rfl, Nat.le_of_ble_eq_true rfl⟩ ?_
      exact W.zret (v := bI (decide (¬ nI c9 - 97 < 0 ∧ ¬ 16 ≤ nI c9 - 97))) (ty := .boolean) hx hb hr (bI_n _) (fun t9 ht9 hW9 => ⟨_, rfl, (by rw [show ps = 1 from q_21, fit_1e, pl97 c9 hc]), ht9⟩) (fun q h => by cases h) dX1_fits_31
  · skip
    have q_1 := tN_eq ps 0 c_1 rfl rfl (by omega) (by omega)
    refine va_ldcS hx hb hown hSX.2.2.1 dX1_fits_4 ?_
    refine lv_iload_n hx hb dX1_fits_6 rfl (lv_at hl 0 rfl) ?_
    refine cr_i (q := 189) [.int (nI c9)] hx hb hml hown hG v_J0_indexOf_0f7a4 (by decide +kernel) (c_J0_indexOf_0f7a4_0 l G c9 hc) (preJ hSX 0 (by decide) _) rfl hl.1 (Nat.le_of_ble_eq_true rfl) dX1_fits_7 ⟨rfl, rfl, Nat.le_of_ble_eq_true rfl, Nat.le_of_ble_eq_true rfl⟩ ⟨Nat.le_of_ble_eq_true rfl, Nat.le_of_ble_eq_true rfl⟩ ?_
    refine lv_if_lt (tgt := 17) hx hb dX1_fits_10 (by decide) (fun c_10 => ?_) (fun c_10 => ?_)
    · skip
      refine lv_iconst (v := 0) hx hb dX1_fits_17 (by decide) ?_
      exact W.zret (v := 0) (ty := .boolean) hx hb hr rfl (fun t9 ht9 hW9 => ⟨_, rfl, (by rw [show ps = 0 from q_1, fit_0e, decide_eq_false (by have := oN_lt (kd_9 c9) (by omega) c_10; omega)]; rfl), ht9⟩) (fun q h => by cases h) dX1_fits_18
    · skip
      refine lv_iconst (v := 1) hx hb dX1_fits_13 (by decide) ?_
      refine lv_goto (tgt := 18) hx hb dX1_fits_14 (by decide) ?_
      exact W.zret (v := 1) (ty := .boolean) hx hb hr rfl (fun t9 ht9 hW9 => ⟨_, rfl, (by rw [show ps = 0 from q_1, fit_0e, decide_eq_true (oN_ge (kd_9 c9) c_10)]; rfl), ht9⟩) (fun q h => by cases h) dX1_fits_18
