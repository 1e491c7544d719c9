def h15 (T9 : Nat → Int32) (h : Int64) : Nat → Int64
  | 0 => h
  | i + 1 => if i < 7 ∨ 9 < i then sayL (h15 T9 h i) (T9 i) else h15 T9 h i
theorem h15_y {T9 : Nat → Int32} {h g : Int64} {i : Nat} (hg : g = h15 T9 h i) (hi : i < 7 ∨ 9 < i) : sayL g (T9 i) = h15 T9 h (i + 1) := by rw [h15, if_pos hi, hg]
theorem h15_n {T9 : Nat → Int32} {h g : Int64} {i : Nat} (hg : g = h15 T9 h i) (hi : ¬ (i < 7 ∨ 9 < i)) : g = h15 T9 h (i + 1) := by rw [h15, if_neg hi, hg]
theorem h15_e {T9 : Nat → Int32} {h : Int64} : h15 T9 h 15 = f7 (fun j => T9 (10 + j)) (f7 T9 h 7) 5 := by
  simp [h15, f7]
def SC (μ μ' : St) : Prop := ∀ a, a ≠ 4 → a ≠ 6 → μ' a = μ a
theorem SC.rm {μ μ' : St} {n : Nat} {S : Nat → Sk} {q : Nat} {V : Nat → Nat} {ch : Int32} (h : SC μ μ') (hg : RM μ n S q V ch) : RM μ' n S q V ch := KP.rm (hs := 0) (u := (μ', 0)) ⟨rfl, h⟩ hg
theorem SC.rp {μ μ' : St} {pn : Nat} {P : Nat → Nat} (h : SC μ μ') (hp : RP μ pn P) : RP μ' pn P := by
  unfold RP at *
  rw [h 0 (by decide) (by decide), h 1 (by decide) (by decide)]; exact hp
theorem SC.rf {μ : St} : SC μ μ := fun _ _ _ => rfl
theorem SC.kp {μ μ1 : St} {hs : Int64} {u : StM} (h : SC μ μ1) (k : KP μ1 hs u) : SC μ u.1 := fun a h4 h6 => (k.2 a h4 h6).trans (h a h4 h6)
theorem dgB_n {n : Nat} {S : Nat → Sk} {q : Nat} {V : Nat → Nat} (h : ¬ n = 0) : dgB n S q V = sayL (sayL (sayL (sayL (dgS S n) (nI (whN (OKf S q V) n))) (if whN (OKf S q V) n = 0 then -1 else nI (lkN (MLf S n (whN (OKf S q V) n)) 30).1)) (covA (PL S) n 33 0)) (covA (PL S) n 33 1) := by
  have c0 : aCover n S (nI 33) (nI 0) = covA (PL S) n 33 0 := by rw [aCover, wK_k (by omega) (by omega), wK_k (by omega) (by omega), if_neg h]
  have c1 : aCover n S (nI 33) (nI 1) = covA (PL S) n 33 1 := by rw [aCover, wK_k (by omega) (by omega), wK_k (by omega) (by omega), if_neg h]
  unfold dgB
  rw [if_neg h, aWhose, if_neg h, aLook, if_neg h, show aCover n S 33 0 = _ from c0, show aCover n S 33 1 = _ from c1]
set_option maxHeartbeats 4000000 in
set_option maxRecDepth 100000 in
theorem c_X4_say (l : Launch) (G : Gam) (μ : St) (hs v : Int64) : Met l yX4_say (w1 yX4_say cX4_say 3 none) ({ frames := 0, cells := 0, slots := 0, locals := 0 }) (PcM G μ hs [.ref (gm G 0), .long v]) (QvM G (fun u9 => u9.1 = μ ∧ u9.2 = 31 * hs + v)) 0 0 (aM G) := by
  refine met_of [.ref (gm G 0), .long v] [(0, .ref (gm G 0)), (1, .long v)] (by decide) (Nat.le_of_ble_eq_true rfl) rfl ?_
  intro p e s m below meth c hx hb hr hown hml hlocks hW ls hl
  have hG : GW s := hW.2.2.2
  have hS : va_S (aM G) s.heap s.heap [] := va_S.rf
  refine lv_aload_n hx hb dX4_say_0 rfl (lv_at hl 0 rfl) ?_
  refine lv_ldc2 (v := 31) hx hb hown (hG.use (i := 867) (by decide +kernel) rfl _) dX4_say_1 ?_
  refine lv_aload_n hx hb dX4_say_4 rfl (lv_at hl 0 rfl) ?_
  refine rd_X4_207 hx hb hown hW dX4_say_5 ?_
  refine lv_lmul hx hb dX4_say_8 ?_
  refine lv_lload_n hx hb dX4_say_9 rfl (lv_at hl 1 rfl) ?_
  refine lv_ladd hx hb dX4_say_10 ?_
  refine wr_X4_207 hx hb hown hW hS dX4_say_11 (fun H locs hW hS => ?_)
  exact W.vret hx hb hr (fun t9 ht9 hW9 => ⟨⟨(μ, (31 * hs) + v), rfl, ⟨rfl, rfl⟩, (by have h8 := hW.1; rw [← ht9] at h8; exact h8)⟩, hS.F ht9⟩) hS.2.2 dX4_say_14
set_option maxHeartbeats 4000000 in
set_option maxRecDepth 100000 in
theorem c_X4_sayStick (l : Launch) (G : Gam) (μ : St) (hs : Int64) (n : Nat) (S : Nat → Sk) (q : Nat) (V : Nat → Nat) (ch : Int32) (hg : RM μ n S q V ch) (k : Nat) (hk : k < n) : Met l yX4_sayStick (w1 yX4_sayStick cX4_sayStick 3 none) ({ frames := 5, cells := 0, slots := 0, locals := 120 }) (PcM G μ hs [.ref (gm G 0), .int (nI k)]) (QvM G (fun u9 => SC μ u9.1 ∧ u9.2 = wsH (S k) hs)) 0 0 (aM G) := by
  refine met_of [.ref (gm G 0), .int (nI k)] [(0, .ref (gm G 0)), (1, .int (nI k))] (by decide) (Nat.le_of_ble_eq_true rfl) rfl ?_
  intro p e s m below meth c hx hb hr hown hml hlocks hW ls hl
  have hG : GW s := hW.2.2.2
  have hS : va_S (aM G) s.heap s.heap [] := va_S.rf
  have hn6 := hg.1.2
  have hq8 := hg.2.2.1.2
  have hv9 := (hg.2.2.2.1 k hk).1
  have hv0 := hv9.1
  have hv1 := hv9.2.1
  have hv3 := hv9.2.2.1
  have hc1 := (hg.2.2.2.1 k hk).2.1
  have hl9 := (hg.2.2.2.1 k hk).2.2.1
  refine lv_iconst (v := 0) hx hb dX4_sayStick_0 (by decide) ?_
  refine lv_istore_n (lv' := [(2, .int 0), (0, .ref (gm G 0)), (1, .int (nI k))]) hx hb dX4_sayStick_1 rfl hl (by decide) rfl (fun ls hl => ?_)
  have loop_2 : ∀ (N9 : Nat) (i : Nat) (io : Int32) (μw : St) (hw : Int64) (H : Heap) (locs : List Loc), 15 - i < N9 → io = nI i → i ≤ 15 → WM G μw hw s H → va_S (aM G) s.heap H locs → SC μ μw → hw = h15 (tellN (S k)) hs i → ∀ ls : Array Slot, lv_has ls 3 [(2, .int io), (0, .ref (gm G 0)), (1, .int (nI k))] → W p l e (headSpec (w1 yX4_sayStick cX4_sayStick 3 none) ({ frames := 5, cells := 0, slots := 0, locals := 120 })).room s m [.ref (gm G 0), .int (nI k)].toArray below meth c H locs 0 0 (MQ below (QvM G (fun u9 => SC μ u9.1 ∧ u9.2 = wsH (S k) hs)) [.ref (gm G 0), .int (nI k)].toArray s 0 0 (aM G)) (F0 m 2 ls []) := by
    intro N9
    induction N9 with
    | zero => intro i io μw hw H locs hN; exact absurd hN (Nat.not_lt_zero _)
    | succ N9 ih =>
      intro i io μw hw H locs hN e_io hi0_2 hW hS hw0_2 hw1_2 ls hl
      subst e_io
      have ih_2 := ih
      have hsc := hw0_2
      have hgc := hsc.rm hg
      refine lv_iload_n hx hb dX4_sayStick_2 rfl (lv_at hl 0 rfl) ?_
      refine lv_bipush (v := 15) hx hb dX4_sayStick_3 (by decide) ?_
      refine lv_icmp_ge (tgt := 37) hx hb dX4_sayStick_5 (by decide) (fun c_5 => ?_) (fun c_5 => ?_)
      · skip
        have q_5 := tN_le 15 i c_5 rfl rfl (by omega) (by omega)
        refine lv_aload_n hx hb dX4_sayStick_37 rfl (lv_at hl 1 rfl) ?_
        refine lv_aload_n hx hb dX4_sayStick_38 rfl (lv_at hl 1 rfl) ?_
        refine lv_iload_n hx hb dX4_sayStick_39 rfl (lv_at hl 2 rfl) ?_
        refine lv_iconst (v := 1) hx hb dX4_sayStick_40 (by decide) ?_
        refine cr_i (q := 694) [.int (nI k), .int 1] hx hb hml hown hG v_X4_atOf (by decide +kernel) (c_X4_atOf l G μw hw n S q V ch hgc k hk 1 (by omega)) (preM hW _) rfl hl.1 (Nat.le_of_ble_eq_true rfl) dX4_sayStick_41 ⟨rfl, rfl, Nat.le_of_ble_eq_true rfl, Nat.le_of_ble_eq_true rfl⟩ ⟨Nat.le_of_ble_eq_true rfl, Nat.le_of_ble_eq_true rfl⟩ ?_
        refine lv_i2l hx hb dX4_sayStick_44 rfl ?_
        refine cm_v (q := 863) [.long ((nI (atN (S k) 1) : Int32).toInt64)] hx hb hml hown hW.2 hS v_X4_say (by decide +kernel) (c_X4_say l G μw hw ((nI (atN (S k) 1)).toInt64)) (preM hW _) rfl hl.1 (Nat.le_of_ble_eq_true rfl) dX4_sayStick_45 ⟨rfl, rfl, Nat.le_of_ble_eq_true rfl, Nat.le_of_ble_eq_true rfl⟩ ⟨Nat.le_of_ble_eq_true rfl, Nat.le_of_ble_eq_true rfl⟩ (fun μ1 hs1 H locs hμ1 hW hS => ?_)
        obtain ⟨hu9, hv9⟩ := hμ1
        have hu9 : μ1 = μw := hu9
        have hv_45 : hs1 = sayL hw (nI (atN (S k) 1)) := hv9
        have hsc : SC μ μ1 := by rw [hu9]; exact hsc
        have hgc := hsc.rm hg
        refine lv_aload_n hx hb dX4_sayStick_48 rfl (lv_at hl 1 rfl) ?_
        refine lv_aload_n hx hb dX4_sayStick_49 rfl (lv_at hl 1 rfl) ?_
        refine lv_iload_n hx hb dX4_sayStick_50 rfl (lv_at hl 2 rfl) ?_
        refine lv_iconst (v := 5) hx hb dX4_sayStick_51 (by decide) ?_
        refine cr_i (q := 694) [.int (nI k), .int 5] hx hb hml hown hG v_X4_atOf (by decide +kernel) (c_X4_atOf l G μ1 hs1 n S q V ch hgc k hk 5 (by omega)) (preM hW _) rfl hl.1 (Nat.le_of_ble_eq_true rfl) dX4_sayStick_52 ⟨rfl, rfl, Nat.le_of_ble_eq_true rfl, Nat.le_of_ble_eq_true rfl⟩ ⟨Nat.le_of_ble_eq_true rfl, Nat.le_of_ble_eq_true rfl⟩ ?_
        refine lv_i2l hx hb dX4_sayStick_55 rfl ?_
        refine cm_v (q := 863) [.long ((nI (atN (S k) 5) : Int32).toInt64)] hx hb hml hown hW.2 hS v_X4_say (by decide +kernel) (c_X4_say l G μ1 hs1 ((nI (atN (S k) 5)).toInt64)) (preM hW _) rfl hl.1 (Nat.le_of_ble_eq_true rfl) dX4_sayStick_56 ⟨rfl, rfl, Nat.le_of_ble_eq_true rfl, Nat.le_of_ble_eq_true rfl⟩ ⟨Nat.le_of_ble_eq_true rfl, Nat.le_of_ble_eq_true rfl⟩ (fun μ2 hs2 H locs hμ2 hW hS => ?_)
        obtain ⟨hu9, hv9⟩ := hμ2
        have hu9 : μ2 = μ1 := hu9
        have hv_56 : hs2 = sayL hs1 (nI (atN (S k) 5)) := hv9
        have hsc : SC μ μ2 := by rw [hu9]; exact hsc
        have hgc := hsc.rm hg
        refine lv_aload_n hx hb dX4_sayStick_59 rfl (lv_at hl 1 rfl) ?_
        refine lv_aload_n hx hb dX4_sayStick_60 rfl (lv_at hl 1 rfl) ?_
        refine lv_iload_n hx hb dX4_sayStick_61 rfl (lv_at hl 2 rfl) ?_
        refine lv_bipush (v := 30) hx hb dX4_sayStick_62 (by decide) ?_
        refine cr_i (q := 694) [.int (nI k), .int 30] hx hb hml hown hG v_X4_atOf (by decide +kernel) (c_X4_atOf l G μ2 hs2 n S q V ch hgc k hk 30 (by omega)) (preM hW _) rfl hl.1 (Nat.le_of_ble_eq_true rfl) dX4_sayStick_64 ⟨rfl, rfl, Nat.le_of_ble_eq_true rfl, Nat.le_of_ble_eq_true rfl⟩ ⟨Nat.le_of_ble_eq_true rfl, Nat.le_of_ble_eq_true rfl⟩ ?_
        refine lv_i2l hx hb dX4_sayStick_67 rfl ?_
        refine cm_v (q := 863) [.long ((nI (atN (S k) 30) : Int32).toInt64)] hx hb hml hown hW.2 hS v_X4_say (by decide +kernel) (c_X4_say l G μ2 hs2 ((nI (atN (S k) 30)).toInt64)) (preM hW _) rfl hl.1 (Nat.le_of_ble_eq_true rfl) dX4_sayStick_68 ⟨rfl, rfl, Nat.le_of_ble_eq_true rfl, Nat.le_of_ble_eq_true rfl⟩ ⟨Nat.le_of_ble_eq_true rfl, Nat.le_of_ble_eq_true rfl⟩ (fun μ3 hs3 H locs hμ3 hW hS => ?_)
        obtain ⟨hu9, hv9⟩ := hμ3
        have hu9 : μ3 = μ2 := hu9
        have hv_68 : hs3 = sayL hs2 (nI (atN (S k) 30)) := hv9
        have hsc : SC μ μ3 := by rw [hu9]; exact hsc
        have hgc := hsc.rm hg
        refine lv_aload_n hx hb dX4_sayStick_71 rfl (lv_at hl 1 rfl) ?_
        refine lv_aload_n hx hb dX4_sayStick_72 rfl (lv_at hl 1 rfl) ?_
        refine lv_iconst (v := 0) hx hb dX4_sayStick_73 (by decide) ?_
        refine lv_iload_n hx hb dX4_sayStick_74 rfl (lv_at hl 2 rfl) ?_
        refine cr_i (q := 778) [.int 0, .int (nI k)] hx hb hml hown hG v_X4_catchOf (by decide +kernel) (c_X4_catchOf l G μ3 hs3 n S q V ch hgc 0 k (by omega) hk) (preM hW _) rfl hl.1 (Nat.le_of_ble_eq_true rfl) dX4_sayStick_75 ⟨rfl, rfl, Nat.le_of_ble_eq_true rfl, Nat.le_of_ble_eq_true rfl⟩ ⟨Nat.le_of_ble_eq_true rfl, Nat.le_of_ble_eq_true rfl⟩ ?_
        refine lv_i2l hx hb dX4_sayStick_78 rfl ?_
        refine cm_v (q := 863) [.long ((nI (catN (atN (S k)) 0) : Int32).toInt64)] hx hb hml hown hW.2 hS v_X4_say (by decide +kernel) (c_X4_say l G μ3 hs3 ((nI (catN (atN (S k)) 0)).toInt64)) (preM hW _) rfl hl.1 (Nat.le_of_ble_eq_true rfl) dX4_sayStick_79 ⟨rfl, rfl, Nat.le_of_ble_eq_true rfl, Nat.le_of_ble_eq_true rfl⟩ ⟨Nat.le_of_ble_eq_true rfl, Nat.le_of_ble_eq_true rfl⟩ (fun μ4 hs4 H locs hμ4 hW hS => ?_)
        obtain ⟨hu9, hv9⟩ := hμ4
        have hu9 : μ4 = μ3 := hu9
        have hv_79 : hs4 = sayL hs3 (nI (catN (atN (S k)) 0)) := hv9
        have hsc : SC μ μ4 := by rw [hu9]; exact hsc
        have hgc := hsc.rm hg
        exact W.vret hx hb hr (fun t9 ht9 hW9 => ⟨⟨(μ4, hs4), rfl, ⟨hsc, by have h9 : i = 15 := (by omega); subst h9; show _ = wsH (S k) hs; unfold wsH; rw [hv_79, hv_68, hv_56, hv_45, hw1_2, h15_e]⟩, (by have h8 := hW.1; rw [← ht9] at h8; exact h8)⟩, hS.F ht9⟩) hS.2.2 dX4_sayStick_82
      · skip
        have q_5 := tN_nle 15 i c_5 rfl rfl (by omega) (by omega)
        refine lv_iload_n hx hb dX4_sayStick_8 rfl (lv_at hl 0 rfl) ?_
        refine lv_bipush (v := 7) hx hb dX4_sayStick_9 (by decide) ?_
        refine lv_icmp_lt (tgt := 20) hx hb dX4_sayStick_11 (by decide) (fun c_11 => ?_) (fun c_11 => ?_)
        · skip
          have q_11 := tN_lt i 7 c_11 rfl rfl (by omega) (by omega)
          refine lv_aload_n hx hb dX4_sayStick_20 rfl (lv_at hl 1 rfl) ?_
          refine lv_aload_n hx hb dX4_sayStick_21 rfl (lv_at hl 1 rfl) ?_
          refine lv_iload_n hx hb dX4_sayStick_22 rfl (lv_at hl 2 rfl) ?_
          refine lv_iload_n hx hb dX4_sayStick_23 rfl (lv_at hl 0 rfl) ?_
          refine cr_i (q := 680) [.int (nI k), .int (nI i)] hx hb hml hown hG v_X4_tell (by decide +kernel) (c_X4_tell l G μw hw n S q V ch hgc k hk (nI i)) (preM hW _) rfl hl.1 (Nat.le_of_ble_eq_true rfl) dX4_sayStick_24 ⟨rfl, rfl, Nat.le_of_ble_eq_true rfl, Nat.le_of_ble_eq_true rfl⟩ ⟨Nat.le_of_ble_eq_true rfl, Nat.le_of_ble_eq_true rfl⟩ ?_
          refine lv_eqi (y := tellN (S k) i) (wK_k (by omega) (by omega)) ?_
          refine lv_i2l hx hb dX4_sayStick_27 rfl ?_
          refine cm_v (q := 863) [.long ((tellN (S k) i : Int32).toInt64)] hx hb hml hown hW.2 hS v_X4_say (by decide +kernel) (c_X4_say l G μw hw ((tellN (S k) i).toInt64)) (preM hW _) rfl hl.1 (Nat.le_of_ble_eq_true rfl) dX4_sayStick_28 ⟨rfl, rfl, Nat.le_of_ble_eq_true rfl, Nat.le_of_ble_eq_true rfl⟩ ⟨Nat.le_of_ble_eq_true rfl, Nat.le_of_ble_eq_true rfl⟩ (fun μ5 hs5 H locs hμ5 hW hS => ?_)
          obtain ⟨hu9, hv9⟩ := hμ5
          have hu9 : μ5 = μw := hu9
          have hv_28 : hs5 = sayL hw (tellN (S k) i) := hv9
          have hsc : SC μ μ5 := by rw [hu9]; exact hsc
          have hgc := hsc.rm hg
          refine lv_iinc (v := nI (i + 1)) (lv' := [(2, .int (nI (i + 1))), (0, .ref (gm G 0)), (1, .int (nI k))]) hx hb dX4_sayStick_31 hl (k := 0) rfl (inc1 i) (by decide) rfl (fun ls hl => ?_)
          refine lv_goto (tgt := 2) hx hb dX4_sayStick_34 (by decide) ?_
          exact ih_2 (i + 1) _ _ _ _ _ (by omega) rfl (by omega) hW hS hsc (by rw [hv_28]; exact h15_y hw1_2 (by omega)) ls (lv_sub hl [0, 1, 2] rfl)
        · skip
          have q_11 := tN_nlt i 7 c_11 rfl rfl (by omega) (by omega)
          refine lv_iload_n hx hb dX4_sayStick_14 rfl (lv_at hl 0 rfl) ?_
          refine lv_bipush (v := 9) hx hb dX4_sayStick_15 (by decide) ?_
          refine lv_icmp_le (tgt := 31) hx hb dX4_sayStick_17 (by decide) (fun c_17 => ?_) (fun c_17 => ?_)
          · skip
            have q_17 := tN_le i 9 c_17 rfl rfl (by omega) (by omega)
            refine lv_iinc (v := nI (i + 1)) (lv' := [(2, .int (nI (i + 1))), (0, .ref (gm G 0)), (1, .int (nI k))]) hx hb dX4_sayStick_31 hl (k := 0) rfl (inc1 i) (by decide) rfl (fun ls hl => ?_)
            refine lv_goto (tgt := 2) hx hb dX4_sayStick_34 (by decide) ?_
            exact ih_2 (i + 1) _ _ _ _ _ (by omega) rfl (by omega) hW hS hsc (h15_n hw1_2 (by omega)) ls (lv_sub hl [0, 1, 2] rfl)
          · skip
            have q_17 := tN_nle i 9 c_17 rfl rfl (by omega) (by omega)
            refine lv_aload_n hx hb dX4_sayStick_20 rfl (lv_at hl 1 rfl) ?_
            refine lv_aload_n hx hb dX4_sayStick_21 rfl (lv_at hl 1 rfl) ?_
            refine lv_iload_n hx hb dX4_sayStick_22 rfl (lv_at hl 2 rfl) ?_
            refine lv_iload_n hx hb dX4_sayStick_23 rfl (lv_at hl 0 rfl) ?_
            refine cr_i (q := 680) [.int (nI k), .int (nI i)] hx hb hml hown hG v_X4_tell (by decide +kernel) (c_X4_tell l G μw hw n S q V ch hgc k hk (nI i)) (preM hW _) rfl hl.1 (Nat.le_of_ble_eq_true rfl) dX4_sayStick_24 ⟨rfl, rfl, Nat.le_of_ble_eq_true rfl, Nat.le_of_ble_eq_true rfl⟩ ⟨Nat.le_of_ble_eq_true rfl, Nat.le_of_ble_eq_true rfl⟩ ?_
            refine lv_eqi (y := tellN (S k) i) (wK_k (by omega) (by omega)) ?_
            refine lv_i2l hx hb dX4_sayStick_27 rfl ?_
            refine cm_v (q := 863) [.long ((tellN (S k) i : Int32).toInt64)] hx hb hml hown hW.2 hS v_X4_say (by decide +kernel) (c_X4_say l G μw hw ((tellN (S k) i).toInt64)) (preM hW _) rfl hl.1 (Nat.le_of_ble_eq_true rfl) dX4_sayStick_28 ⟨rfl, rfl, Nat.le_of_ble_eq_true rfl, Nat.le_of_ble_eq_true rfl⟩ ⟨Nat.le_of_ble_eq_true rfl, Nat.le_of_ble_eq_true rfl⟩ (fun μ6 hs6 H locs hμ6 hW hS => ?_)
            obtain ⟨hu9, hv9⟩ := hμ6
            have hu9 : μ6 = μw := hu9
            have hv_28 : hs6 = sayL hw (tellN (S k) i) := hv9
            have hsc : SC μ μ6 := by rw [hu9]; exact hsc
            have hgc := hsc.rm hg
            refine lv_iinc (v := nI (i + 1)) (lv' := [(2, .int (nI (i + 1))), (0, .ref (gm G 0)), (1, .int (nI k))]) hx hb dX4_sayStick_31 hl (k := 0) rfl (inc1 i) (by decide) rfl (fun ls hl => ?_)
            refine lv_goto (tgt := 2) hx hb dX4_sayStick_34 (by decide) ?_
            exact ih_2 (i + 1) _ _ _ _ _ (by omega) rfl (by omega) hW hS hsc (by rw [hv_28]; exact h15_y hw1_2 (by omega)) ls (lv_sub hl [0, 1, 2] rfl)
  exact loop_2 _ 0 _ _ _ _ _ (Nat.lt_succ_self _) rfl (by omega) hW hS SC.rf rfl ls (lv_sub hl [0, 1, 2] rfl)
set_option maxHeartbeats 4000000 in
set_option maxRecDepth 100000 in
theorem c_X4_digest (l : Launch) (G : Gam) (μ : St) (hs : Int64) (n : Nat) (S : Nat → Sk) (q : Nat) (V : Nat → Nat) (ch : Int32) (hg : RM μ n S q V ch) (pn : Nat) (P : Nat → Nat) (hp : RP μ pn P) (rd : Int32) (hrd : μ 0 7 = rd) : Met l yX4_digest (w1 yX4_digest cX4_digest 2 (some .long)) ({ frames := 6, cells := 0, slots := 0, locals := 146 }) (PcM G μ hs [.ref (gm G 0)]) (QlM G (fun r u9 => r = dgA n S q V ch pn P rd ∧ SC μ u9.1)) 0 0 (aM G) := by
  refine met_of [.ref (gm G 0)] [(0, .ref (gm G 0))] (by decide) (Nat.le_of_ble_eq_true rfl) rfl ?_
  intro p e s m below meth c hx hb hr hown hml hlocks hW ls hl
  have hG : GW s := hW.2.2.2
  have hS : va_S (aM G) s.heap s.heap [] := va_S.rf
  have hn6 := hg.1.2
  have hq8 := hg.2.2.1.2
  have hp32 := hp.1.2
  have hsc : SC μ μ := SC.rf
  refine lv_aload_n hx hb dX4_digest_0 rfl (lv_at hl 0 rfl) ?_
  refine lv_ldc2 (v := 1049) hx hb hown (hG.use (i := 858) (by decide +kernel) rfl _) dX4_digest_1 ?_
  refine wr_X4_207 hx hb hown hW hS dX4_digest_4 (fun H locs hW hS => ?_)
  refine lv_iconst (v := 0) hx hb dX4_digest_7 (by decide) ?_
  refine lv_istore_n (lv' := [(1, .int 0), (0, .ref (gm G 0))]) hx hb dX4_digest_8 rfl hl (by decide) rfl (fun ls hl => ?_)
  have loop_9 : ∀ (N9 : Nat) (i : Nat) (io : Int32) (μw : St) (hw : Int64) (H : Heap) (locs : List Loc), n - i < N9 → io = nI i → i ≤ n → WM G μw hw s H → va_S (aM G) s.heap H locs → SC μ μw → hw = dgS S i → ∀ ls : Array Slot, lv_has ls 2 [(1, .int io), (0, .ref (gm G 0))] → W p l e (headSpec (w1 yX4_digest cX4_digest 2 (some .long)) ({ frames := 6, cells := 0, slots := 0, locals := 146 })).room s m [.ref (gm G 0)].toArray below meth c H locs 0 0 (MQ below (QlM G (fun r u9 => r = dgA n S q V ch pn P rd ∧ SC μ u9.1)) [.ref (gm G 0)].toArray s 0 0 (aM G)) (F0 m 9 ls []) := by
    intro N9
    induction N9 with
    | zero => intro i io μw hw H locs hN; exact absurd hN (Nat.not_lt_zero _)
    | succ N9 ih =>
      intro i io μw hw H locs hN e_io hi0_9 hW hS hw0_9 hw1_9 ls hl
      subst e_io
      have ih_9 := ih
      have hsc := hw0_9
      have hgc := hsc.rm hg
      refine lv_iload_n hx hb dX4_digest_9 rfl (lv_at hl 0 rfl) ?_
      refine lv_aload_n hx hb dX4_digest_10 rfl (lv_at hl 1 rfl) ?_
      refine rd_X4_75 hx hb hown hW dX4_digest_11 ?_
      refine lv_eqi (y := nI n) hgc.1.1 ?_
      refine lv_icmp_ge (tgt := 28) hx hb dX4_digest_14 (by decide) (fun c_14 => ?_) (fun c_14 => ?_)
      · skip
        have q_14 := tN_le n i c_14 rfl rfl (by omega) (by omega)
        refine lv_aload_n hx hb dX4_digest_28 rfl (lv_at hl 1 rfl) ?_
        refine cr_i (q := 761) [] hx hb hml hown hG v_X4_lacks (by decide +kernel) (c_X4_lacks l G μw hw n S q V ch hgc) (preM hW _) rfl hl.1 (Nat.le_of_ble_eq_true rfl) dX4_digest_29 ⟨rfl, rfl, Nat.le_of_ble_eq_true rfl, Nat.le_of_ble_eq_true rfl⟩ ⟨Nat.le_of_ble_eq_true rfl, Nat.le_of_ble_eq_true rfl⟩ ?_
        refine lv_if_ne (tgt := 77) hx hb dX4_digest_32 (by decide) (fun c_32 => ?_) (fun c_32 => ?_)
        · skip
          have b_32 := bI_1 c_32
          refine lv_iconst (v := 0) hx hb dX4_digest_77 (by decide) ?_
          refine lv_istore_n (lv' := [(1, .int 0), (0, .ref (gm G 0))]) hx hb dX4_digest_78 rfl hl (by decide) rfl (fun ls hl => ?_)
          have loop_79 : ∀ (N9 : Nat) (j : Nat) (jo : Int32) (μw : St) (hw : Int64) (H : Heap) (locs : List Loc), pn - j < N9 → jo = nI j → j ≤ pn → WM G μw hw s H → va_S (aM G) s.heap H locs → SC μ μw → hw = f7 (fun i => nI (P i)) (dgB n S q V) j → ∀ ls : Array Slot, lv_has ls 2 [(1, .int jo), (0, .ref (gm G 0))] → W p l e (headSpec (w1 yX4_digest cX4_digest 2 (some .long)) ({ frames := 6, cells := 0, slots := 0, locals := 146 })).room s m [.ref (gm G 0)].toArray below meth c H locs 0 0 (MQ below (QlM G (fun r u9 => r = dgA n S q V ch pn P rd ∧ SC μ u9.1)) [.ref (gm G 0)].toArray s 0 0 (aM G)) (F0 m 79 ls []) := by
            intro N9
            induction N9 with
            | zero => intro j jo μw hw H locs hN; exact absurd hN (Nat.not_lt_zero _)
            | succ N9 ih =>
              intro j jo μw hw H locs hN e_jo hi0_79 hW hS hw0_79 hw1_79 ls hl
              subst e_jo
              have ih_79 := ih
              have hsc := hw0_79
              have hgc := hsc.rm hg
              have hpc := hsc.rp hp
              have hrc : μw 0 7 = rd := (congrFun (hsc 0 (by decide) (by decide)) 7).trans hrd
              refine lv_iload_n hx hb dX4_digest_79 rfl (lv_at hl 0 rfl) ?_
              refine lv_aload_n hx hb dX4_digest_80 rfl (lv_at hl 1 rfl) ?_
              refine rd_X4_47 hx hb hown hW dX4_digest_81 ?_
              refine lv_eqi (y := nI pn) hpc.1.1 ?_
              refine lv_icmp_ge (tgt := 104) hx hb dX4_digest_84 (by decide) (fun c_84 => ?_) (fun c_84 => ?_)
              · skip
                have q_84 := tN_le pn j c_84 rfl rfl (by omega) (by omega)
                refine lv_iconst (v := 0) hx hb dX4_digest_104 (by decide) ?_
                refine lv_istore_n (lv' := [(1, .int 0), (0, .ref (gm G 0))]) hx hb dX4_digest_105 rfl hl (by decide) rfl (fun ls hl => ?_)
                have loop_106 : ∀ (N9 : Nat) (u : Nat) (uo : Int32) (μw : St) (hw : Int64) (H : Heap) (locs : List Loc), 8 - u < N9 → uo = nI u → u ≤ 8 → WM G μw hw s H → va_S (aM G) s.heap H locs → SC μ μw → hw = f7 (cntN n S q ch pn rd) (f7 (fun i => nI (P i)) (dgB n S q V) pn) u → ∀ ls : Array Slot, lv_has ls 2 [(1, .int uo), (0, .ref (gm G 0))] → W p l e (headSpec (w1 yX4_digest cX4_digest 2 (some .long)) ({ frames := 6, cells := 0, slots := 0, locals := 146 })).room s m [.ref (gm G 0)].toArray below meth c H locs 0 0 (MQ below (QlM G (fun r u9 => r = dgA n S q V ch pn P rd ∧ SC μ u9.1)) [.ref (gm G 0)].toArray s 0 0 (aM G)) (F0 m 106 ls []) := by
                  intro N9
                  induction N9 with
                  | zero => intro u uo μw hw H locs hN; exact absurd hN (Nat.not_lt_zero _)
                  | succ N9 ih =>
                    intro u uo μw hw H locs hN e_uo hi0_106 hW hS hw0_106 hw1_106 ls hl
                    subst e_uo
                    have ih_106 := ih
                    have hsc := hw0_106
                    have hgc := hsc.rm hg
                    have hpc := hsc.rp hp
                    have hrc : μw 0 7 = rd := (congrFun (hsc 0 (by decide) (by decide)) 7).trans hrd
                    refine lv_iload_n hx hb dX4_digest_106 rfl (lv_at hl 0 rfl) ?_
                    refine lv_bipush (v := 8) hx hb dX4_digest_107 (by decide) ?_
                    refine lv_icmp_ge (tgt := 128) hx hb dX4_digest_109 (by decide) (fun c_109 => ?_) (fun c_109 => ?_)
                    · skip
                      have q_109 := tN_le 8 u c_109 rfl rfl (by omega) (by omega)
                      refine lv_aload_n hx hb dX4_digest_128 rfl (lv_at hl 1 rfl) ?_
                      refine rd_X4_207 hx hb hown hW dX4_digest_129 ?_
                      exact W.lret (v := hw) hx hb hr (fun t9 ht9 hW9 => ⟨⟨_, (μw, hw), rfl, ⟨(by have h9 : u = 8 := (by omega); subst h9; exact hw1_106), hsc⟩, (by have h8 := hW.1; rw [← ht9] at h8; exact h8)⟩, hS.F ht9⟩) hS.2.2 dX4_digest_132
                    · skip
                      have q_109 := tN_nle 8 u c_109 rfl rfl (by omega) (by omega)
                      refine lv_aload_n hx hb dX4_digest_112 rfl (lv_at hl 1 rfl) ?_
                      refine lv_aload_n hx hb dX4_digest_113 rfl (lv_at hl 1 rfl) ?_
                      refine lv_iload_n hx hb dX4_digest_114 rfl (lv_at hl 0 rfl) ?_
                      refine cr_i (q := 846) [.int (nI u)] hx hb hml hown hG v_X4_countOf (by decide +kernel) (c_X4_countOf l G μw hw n S q V ch hgc pn P hpc rd hrc (nI u)) (preM hW _) rfl hl.1 (Nat.le_of_ble_eq_true rfl) dX4_digest_115 ⟨rfl, rfl, Nat.le_of_ble_eq_true rfl, Nat.le_of_ble_eq_true rfl⟩ ⟨Nat.le_of_ble_eq_true rfl, Nat.le_of_ble_eq_true rfl⟩ ?_
                      refine lv_eqi (y := cntN n S q ch pn rd u) (aCount_k (by omega)) ?_
                      refine lv_i2l hx hb dX4_digest_118 rfl ?_
                      refine cm_v (q := 863) [.long ((cntN n S q ch pn rd u : Int32).toInt64)] hx hb hml hown hW.2 hS v_X4_say (by decide +kernel) (c_X4_say l G μw hw ((cntN n S q ch pn rd u).toInt64)) (preM hW _) rfl hl.1 (Nat.le_of_ble_eq_true rfl) dX4_digest_119 ⟨rfl, rfl, Nat.le_of_ble_eq_true rfl, Nat.le_of_ble_eq_true rfl⟩ ⟨Nat.le_of_ble_eq_true rfl, Nat.le_of_ble_eq_true rfl⟩ (fun μ1 hs1 H locs hμ1 hW hS => ?_)
                      obtain ⟨hu9, hv9⟩ := hμ1
                      have hu9 : μ1 = μw := hu9
                      have hv_119 : hs1 = sayL hw (cntN n S q ch pn rd u) := hv9
                      have hsc : SC μ μ1 := by rw [hu9]; exact hsc
                      have hgc := hsc.rm hg
                      refine lv_iinc (v := nI (u + 1)) (lv' := [(1, .int (nI (u + 1))), (0, .ref (gm G 0))]) hx hb dX4_digest_122 hl (k := 0) rfl (inc1 u) (by decide) rfl (fun ls hl => ?_)
                      refine lv_goto (tgt := 106) hx hb dX4_digest_125 (by decide) ?_
                      exact ih_106 (u + 1) _ _ _ _ _ (by omega) rfl (by omega) hW hS hsc (by rw [hv_119, hw1_106]; rfl) ls (lv_sub hl [0, 1] rfl)
                exact loop_106 _ 0 _ _ _ _ _ (Nat.lt_succ_self _) rfl (by omega) hW hS hsc (by have h9 : j = pn := (by omega); subst h9; exact hw1_79) ls (lv_sub hl [0, 1] rfl)
              · skip
                have q_84 := tN_nle pn j c_84 rfl rfl (by omega) (by omega)
                refine lv_aload_n hx hb dX4_digest_87 rfl (lv_at hl 1 rfl) ?_
                refine lv_aload_n hx hb dX4_digest_88 rfl (lv_at hl 1 rfl) ?_
                refine rd_X4_7 hx hb hown hW dX4_digest_89 ?_
                refine lv_iload_n hx hb dX4_digest_92 rfl (lv_at hl 0 rfl) ?_
                refine al_M (k := j) 1 hx hb hW rfl (show _ < 32 by omega) dX4_digest_93 ?_
                refine lv_eqi (y := nI (P j)) (hpc.2 j (by omega)).1 ?_
                refine lv_i2l hx hb dX4_digest_94 rfl ?_
                refine cm_v (q := 863) [.long ((nI (P j) : Int32).toInt64)] hx hb hml hown hW.2 hS v_X4_say (by decide +kernel) (c_X4_say l G μw hw ((nI (P j)).toInt64)) (preM hW _) rfl hl.1 (Nat.le_of_ble_eq_true rfl) dX4_digest_95 ⟨rfl, rfl, Nat.le_of_ble_eq_true rfl, Nat.le_of_ble_eq_true rfl⟩ ⟨Nat.le_of_ble_eq_true rfl, Nat.le_of_ble_eq_true rfl⟩ (fun μ2 hs2 H locs hμ2 hW hS => ?_)
                obtain ⟨hu9, hv9⟩ := hμ2
                have hu9 : μ2 = μw := hu9
                have hv_95 : hs2 = sayL hw (nI (P j)) := hv9
                have hsc : SC μ μ2 := by rw [hu9]; exact hsc
                have hgc := hsc.rm hg
                refine lv_iinc (v := nI (j + 1)) (lv' := [(1, .int (nI (j + 1))), (0, .ref (gm G 0))]) hx hb dX4_digest_98 hl (k := 0) rfl (inc1 j) (by decide) rfl (fun ls hl => ?_)
                refine lv_goto (tgt := 79) hx hb dX4_digest_101 (by decide) ?_
                exact ih_79 (j + 1) _ _ _ _ _ (by omega) rfl (by omega) hW hS hsc (by rw [hv_95, hw1_79]; rfl) ls (lv_sub hl [0, 1] rfl)
          exact loop_79 _ 0 _ _ _ _ _ (Nat.lt_succ_self _) rfl (by omega) hW hS hsc (by have h9 : i = n := (by omega); subst h9; rw [hw1_9]; exact (if_pos (of_decide_eq_true b_32)).symm) ls (lv_sub hl [0, 1] rfl)
        · skip
          have b_32 := bI_0 c_32
          refine lv_aload_n hx hb dX4_digest_35 rfl (lv_at hl 1 rfl) ?_
          refine lv_aload_n hx hb dX4_digest_36 rfl (lv_at hl 1 rfl) ?_
          refine cr_i (q := 797) [] hx hb hml hown hG v_X4_whoseOf (by decide +kernel) (c_X4_whoseOf l G μw hw n S q V ch hgc ) (preM hW _) rfl hl.1 (Nat.le_of_ble_eq_true rfl) dX4_digest_37 ⟨rfl, rfl, Nat.le_of_ble_eq_true rfl, Nat.le_of_ble_eq_true rfl⟩ ⟨Nat.le_of_ble_eq_true rfl, Nat.le_of_ble_eq_true rfl⟩ ?_
          refine lv_i2l hx hb dX4_digest_40 rfl ?_
          refine cm_v (q := 863) [.long ((nI (whN (OKf S q V) n) : Int32).toInt64)] hx hb hml hown hW.2 hS v_X4_say (by decide +kernel) (c_X4_say l G μw hw ((nI (whN (OKf S q V) n)).toInt64)) (preM hW _) rfl hl.1 (Nat.le_of_ble_eq_true rfl) dX4_digest_41 ⟨rfl, rfl, Nat.le_of_ble_eq_true rfl, Nat.le_of_ble_eq_true rfl⟩ ⟨Nat.le_of_ble_eq_true rfl, Nat.le_of_ble_eq_true rfl⟩ (fun μ3 hs3 H locs hμ3 hW hS => ?_)
          obtain ⟨hu9, hv9⟩ := hμ3
          have hu9 : μ3 = μw := hu9
          have hv_41 : hs3 = sayL hw (nI (whN (OKf S q V) n)) := hv9
          have hsc : SC μ μ3 := by rw [hu9]; exact hsc
          have hgc := hsc.rm hg
          refine lv_aload_n hx hb dX4_digest_44 rfl (lv_at hl 1 rfl) ?_
          refine lv_aload_n hx hb dX4_digest_45 rfl (lv_at hl 1 rfl) ?_
          refine cm_i (q := 805) [] hx hb hml hown hW.2 hS v_X4_lookOf (by decide +kernel) (c_X4_lookOf l G μ3 hs3 n S q V ch hgc) (preM hW _) rfl hl.1 (Nat.le_of_ble_eq_true rfl) dX4_digest_46 ⟨rfl, rfl, Nat.le_of_ble_eq_true rfl, Nat.le_of_ble_eq_true rfl⟩ ⟨Nat.le_of_ble_eq_true rfl, Nat.le_of_ble_eq_true rfl⟩ (fun r_46 μ4 hs4 H locs hμ4 hW hS => ?_)
          obtain ⟨hr2, hk2⟩ := hμ4
          subst hr2
          have hh_46 : hs4 = hs3 := hk2.1
          have hsc : SC μ μ4 := hsc.kp hk2
          have hgc := hsc.rm hg
          refine lv_i2l hx hb dX4_digest_49 rfl ?_
          refine cm_v (q := 863) [.long (((if whN (OKf S q V) n = 0 then -1 else nI (lkN (fun t => mlN (whN (OKf S q V) n) (fun i => atN (S i) t) n n) 30).1) : Int32).toInt64)] hx hb hml hown hW.2 hS v_X4_say (by decide +kernel) (c_X4_say l G μ4 hs4 (((if whN (OKf S q V) n = 0 then -1 else nI (lkN (fun t => mlN (whN (OKf S q V) n) (fun i => atN (S i) t) n n) 30).1)).toInt64)) (preM hW _) rfl hl.1 (Nat.le_of_ble_eq_true rfl) dX4_digest_50 ⟨rfl, rfl, Nat.le_of_ble_eq_true rfl, Nat.le_of_ble_eq_true rfl⟩ ⟨Nat.le_of_ble_eq_true rfl, Nat.le_of_ble_eq_true rfl⟩ (fun μ5 hs5 H locs hμ5 hW hS => ?_)
          obtain ⟨hu9, hv9⟩ := hμ5
          have hu9 : μ5 = μ4 := hu9
          have hv_50 : hs5 = sayL hs4 ((if whN (OKf S q V) n = 0 then -1 else nI (lkN (fun t => mlN (whN (OKf S q V) n) (fun i => atN (S i) t) n n) 30).1)) := hv9
          have hsc : SC μ μ5 := by rw [hu9]; exact hsc
          have hgc := hsc.rm hg
          refine lv_aload_n hx hb dX4_digest_53 rfl (lv_at hl 1 rfl) ?_
          refine lv_aload_n hx hb dX4_digest_54 rfl (lv_at hl 1 rfl) ?_
          refine lv_bipush (v := 33) hx hb dX4_digest_55 (by decide) ?_
          refine lv_iconst (v := 0) hx hb dX4_digest_57 (by decide) ?_
          refine cm_i (q := 765) [.int 33, .int 0] hx hb hml hown hW.2 hS v_X4_coverOf (by decide +kernel) (c_X4_coverOf l G μ5 hs5 n S q V ch hgc 33 0 (by omega) (by omega)) (preM hW _) rfl hl.1 (Nat.le_of_ble_eq_true rfl) dX4_digest_58 ⟨rfl, rfl, Nat.le_of_ble_eq_true rfl, Nat.le_of_ble_eq_true rfl⟩ ⟨Nat.le_of_ble_eq_true rfl, Nat.le_of_ble_eq_true rfl⟩ (fun r_58 μ6 hs6 H locs hμ6 hW hS => ?_)
          obtain ⟨hr2, hk2⟩ := hμ6
          subst hr2
          have hh_58 : hs6 = hs5 := hk2.1
          have hsc : SC μ μ6 := hsc.kp hk2
          have hgc := hsc.rm hg
          refine lv_i2l hx hb dX4_digest_61 rfl ?_
          refine cm_v (q := 863) [.long ((covA (PL S) n 33 0 : Int32).toInt64)] hx hb hml hown hW.2 hS v_X4_say (by decide +kernel) (c_X4_say l G μ6 hs6 ((covA (PL S) n 33 0).toInt64)) (preM hW _) rfl hl.1 (Nat.le_of_ble_eq_true rfl) dX4_digest_62 ⟨rfl, rfl, Nat.le_of_ble_eq_true rfl, Nat.le_of_ble_eq_true rfl⟩ ⟨Nat.le_of_ble_eq_true rfl, Nat.le_of_ble_eq_true rfl⟩ (fun μ7 hs7 H locs hμ7 hW hS => ?_)
          obtain ⟨hu9, hv9⟩ := hμ7
          have hu9 : μ7 = μ6 := hu9
          have hv_62 : hs7 = sayL hs6 (covA (PL S) n 33 0) := hv9
          have hsc : SC μ μ7 := by rw [hu9]; exact hsc
          have hgc := hsc.rm hg
          refine lv_aload_n hx hb dX4_digest_65 rfl (lv_at hl 1 rfl) ?_
          refine lv_aload_n hx hb dX4_digest_66 rfl (lv_at hl 1 rfl) ?_
          refine lv_bipush (v := 33) hx hb dX4_digest_67 (by decide) ?_
          refine lv_iconst (v := 1) hx hb dX4_digest_69 (by decide) ?_
          refine cm_i (q := 765) [.int 33, .int 1] hx hb hml hown hW.2 hS v_X4_coverOf (by decide +kernel) (c_X4_coverOf l G μ7 hs7 n S q V ch hgc 33 1 (by omega) (by omega)) (preM hW _) rfl hl.1 (Nat.le_of_ble_eq_true rfl) dX4_digest_70 ⟨rfl, rfl, Nat.le_of_ble_eq_true rfl, Nat.le_of_ble_eq_true rfl⟩ ⟨Nat.le_of_ble_eq_true rfl, Nat.le_of_ble_eq_true rfl⟩ (fun r_70 μ8 hs8 H locs hμ8 hW hS => ?_)
          obtain ⟨hr2, hk2⟩ := hμ8
          subst hr2
          have hh_70 : hs8 = hs7 := hk2.1
          have hsc : SC μ μ8 := hsc.kp hk2
          have hgc := hsc.rm hg
          refine lv_i2l hx hb dX4_digest_73 rfl ?_
          refine cm_v (q := 863) [.long ((covA (PL S) n 33 1 : Int32).toInt64)] hx hb hml hown hW.2 hS v_X4_say (by decide +kernel) (c_X4_say l G μ8 hs8 ((covA (PL S) n 33 1).toInt64)) (preM hW _) rfl hl.1 (Nat.le_of_ble_eq_true rfl) dX4_digest_74 ⟨rfl, rfl, Nat.le_of_ble_eq_true rfl, Nat.le_of_ble_eq_true rfl⟩ ⟨Nat.le_of_ble_eq_true rfl, Nat.le_of_ble_eq_true rfl⟩ (fun μ9 hs9 H locs hμ9 hW hS => ?_)
          obtain ⟨hu9, hv9⟩ := hμ9
          have hu9 : μ9 = μ8 := hu9
          have hv_74 : hs9 = sayL hs8 (covA (PL S) n 33 1) := hv9
          have hsc : SC μ μ9 := by rw [hu9]; exact hsc
          have hgc := hsc.rm hg
          refine lv_iconst (v := 0) hx hb dX4_digest_77 (by decide) ?_
          refine lv_istore_n (lv' := [(1, .int 0), (0, .ref (gm G 0))]) hx hb dX4_digest_78 rfl hl (by decide) rfl (fun ls hl => ?_)
          have loop_79 : ∀ (N9 : Nat) (j : Nat) (jo : Int32) (μw : St) (hw : Int64) (H : Heap) (locs : List Loc), pn - j < N9 → jo = nI j → j ≤ pn → WM G μw hw s H → va_S (aM G) s.heap H locs → SC μ μw → hw = f7 (fun i => nI (P i)) (dgB n S q V) j → ∀ ls : Array Slot, lv_has ls 2 [(1, .int jo), (0, .ref (gm G 0))] → W p l e (headSpec (w1 yX4_digest cX4_digest 2 (some .long)) ({ frames := 6, cells := 0, slots := 0, locals := 146 })).room s m [.ref (gm G 0)].toArray below meth c H locs 0 0 (MQ below (QlM G (fun r u9 => r = dgA n S q V ch pn P rd ∧ SC μ u9.1)) [.ref (gm G 0)].toArray s 0 0 (aM G)) (F0 m 79 ls []) := by
            intro N9
            induction N9 with
            | zero => intro j jo μw hw H locs hN; exact absurd hN (Nat.not_lt_zero _)
            | succ N9 ih =>
              intro j jo μw hw H locs hN e_jo hi0_79 hW hS hw0_79 hw1_79 ls hl
              subst e_jo
              have ih_79 := ih
              have hsc := hw0_79
              have hgc := hsc.rm hg
              have hpc := hsc.rp hp
              have hrc : μw 0 7 = rd := (congrFun (hsc 0 (by decide) (by decide)) 7).trans hrd
              refine lv_iload_n hx hb dX4_digest_79 rfl (lv_at hl 0 rfl) ?_
              refine lv_aload_n hx hb dX4_digest_80 rfl (lv_at hl 1 rfl) ?_
              refine rd_X4_47 hx hb hown hW dX4_digest_81 ?_
              refine lv_eqi (y := nI pn) hpc.1.1 ?_
              refine lv_icmp_ge (tgt := 104) hx hb dX4_digest_84 (by decide) (fun c_84 => ?_) (fun c_84 => ?_)
              · skip
                have q_84 := tN_le pn j c_84 rfl rfl (by omega) (by omega)
                refine lv_iconst (v := 0) hx hb dX4_digest_104 (by decide) ?_
                refine lv_istore_n (lv' := [(1, .int 0), (0, .ref (gm G 0))]) hx hb dX4_digest_105 rfl hl (by decide) rfl (fun ls hl => ?_)
                have loop_106 : ∀ (N9 : Nat) (u : Nat) (uo : Int32) (μw : St) (hw : Int64) (H : Heap) (locs : List Loc), 8 - u < N9 → uo = nI u → u ≤ 8 → WM G μw hw s H → va_S (aM G) s.heap H locs → SC μ μw → hw = f7 (cntN n S q ch pn rd) (f7 (fun i => nI (P i)) (dgB n S q V) pn) u → ∀ ls : Array Slot, lv_has ls 2 [(1, .int uo), (0, .ref (gm G 0))] → W p l e (headSpec (w1 yX4_digest cX4_digest 2 (some .long)) ({ frames := 6, cells := 0, slots := 0, locals := 146 })).room s m [.ref (gm G 0)].toArray below meth c H locs 0 0 (MQ below (QlM G (fun r u9 => r = dgA n S q V ch pn P rd ∧ SC μ u9.1)) [.ref (gm G 0)].toArray s 0 0 (aM G)) (F0 m 106 ls []) := by
                  intro N9
                  induction N9 with
                  | zero => intro u uo μw hw H locs hN; exact absurd hN (Nat.not_lt_zero _)
                  | succ N9 ih =>
                    intro u uo μw hw H locs hN e_uo hi0_106 hW hS hw0_106 hw1_106 ls hl
                    subst e_uo
                    have ih_106 := ih
                    have hsc := hw0_106
                    have hgc := hsc.rm hg
                    have hpc := hsc.rp hp
                    have hrc : μw 0 7 = rd := (congrFun (hsc 0 (by decide) (by decide)) 7).trans hrd
                    refine lv_iload_n hx hb dX4_digest_106 rfl (lv_at hl 0 rfl) ?_
                    refine lv_bipush (v := 8) hx hb dX4_digest_107 (by decide) ?_
                    refine lv_icmp_ge (tgt := 128) hx hb dX4_digest_109 (by decide) (fun c_109 => ?_) (fun c_109 => ?_)
                    · skip
                      have q_109 := tN_le 8 u c_109 rfl rfl (by omega) (by omega)
                      refine lv_aload_n hx hb dX4_digest_128 rfl (lv_at hl 1 rfl) ?_
                      refine rd_X4_207 hx hb hown hW dX4_digest_129 ?_
                      exact W.lret (v := hw) hx hb hr (fun t9 ht9 hW9 => ⟨⟨_, (μw, hw), rfl, ⟨(by have h9 : u = 8 := (by omega); subst h9; exact hw1_106), hsc⟩, (by have h8 := hW.1; rw [← ht9] at h8; exact h8)⟩, hS.F ht9⟩) hS.2.2 dX4_digest_132
                    · skip
                      have q_109 := tN_nle 8 u c_109 rfl rfl (by omega) (by omega)
                      refine lv_aload_n hx hb dX4_digest_112 rfl (lv_at hl 1 rfl) ?_
                      refine lv_aload_n hx hb dX4_digest_113 rfl (lv_at hl 1 rfl) ?_
                      refine lv_iload_n hx hb dX4_digest_114 rfl (lv_at hl 0 rfl) ?_
                      refine cr_i (q := 846) [.int (nI u)] hx hb hml hown hG v_X4_countOf (by decide +kernel) (c_X4_countOf l G μw hw n S q V ch hgc pn P hpc rd hrc (nI u)) (preM hW _) rfl hl.1 (Nat.le_of_ble_eq_true rfl) dX4_digest_115 ⟨rfl, rfl, Nat.le_of_ble_eq_true rfl, Nat.le_of_ble_eq_true rfl⟩ ⟨Nat.le_of_ble_eq_true rfl, Nat.le_of_ble_eq_true rfl⟩ ?_
                      refine lv_eqi (y := cntN n S q ch pn rd u) (aCount_k (by omega)) ?_
                      refine lv_i2l hx hb dX4_digest_118 rfl ?_
                      refine cm_v (q := 863) [.long ((cntN n S q ch pn rd u : Int32).toInt64)] hx hb hml hown hW.2 hS v_X4_say (by decide +kernel) (c_X4_say l G μw hw ((cntN n S q ch pn rd u).toInt64)) (preM hW _) rfl hl.1 (Nat.le_of_ble_eq_true rfl) dX4_digest_119 ⟨rfl, rfl, Nat.le_of_ble_eq_true rfl, Nat.le_of_ble_eq_true rfl⟩ ⟨Nat.le_of_ble_eq_true rfl, Nat.le_of_ble_eq_true rfl⟩ (fun μ10 hs10 H locs hμ10 hW hS => ?_)
                      obtain ⟨hu9, hv9⟩ := hμ10
                      have hu9 : μ10 = μw := hu9
                      have hv_119 : hs10 = sayL hw (cntN n S q ch pn rd u) := hv9
                      have hsc : SC μ μ10 := by rw [hu9]; exact hsc
                      have hgc := hsc.rm hg
                      refine lv_iinc (v := nI (u + 1)) (lv' := [(1, .int (nI (u + 1))), (0, .ref (gm G 0))]) hx hb dX4_digest_122 hl (k := 0) rfl (inc1 u) (by decide) rfl (fun ls hl => ?_)
                      refine lv_goto (tgt := 106) hx hb dX4_digest_125 (by decide) ?_
                      exact ih_106 (u + 1) _ _ _ _ _ (by omega) rfl (by omega) hW hS hsc (by rw [hv_119, hw1_106]; rfl) ls (lv_sub hl [0, 1] rfl)
                exact loop_106 _ 0 _ _ _ _ _ (Nat.lt_succ_self _) rfl (by omega) hW hS hsc (by have h9 : j = pn := (by omega); subst h9; exact hw1_79) ls (lv_sub hl [0, 1] rfl)
              · skip
                have q_84 := tN_nle pn j c_84 rfl rfl (by omega) (by omega)
                refine lv_aload_n hx hb dX4_digest_87 rfl (lv_at hl 1 rfl) ?_
                refine lv_aload_n hx hb dX4_digest_88 rfl (lv_at hl 1 rfl) ?_
                refine rd_X4_7 hx hb hown hW dX4_digest_89 ?_
                refine lv_iload_n hx hb dX4_digest_92 rfl (lv_at hl 0 rfl) ?_
                refine al_M (k := j) 1 hx hb hW rfl (show _ < 32 by omega) dX4_digest_93 ?_
                refine lv_eqi (y := nI (P j)) (hpc.2 j (by omega)).1 ?_
                refine lv_i2l hx hb dX4_digest_94 rfl ?_
                refine cm_v (q := 863) [.long ((nI (P j) : Int32).toInt64)] hx hb hml hown hW.2 hS v_X4_say (by decide +kernel) (c_X4_say l G μw hw ((nI (P j)).toInt64)) (preM hW _) rfl hl.1 (Nat.le_of_ble_eq_true rfl) dX4_digest_95 ⟨rfl, rfl, Nat.le_of_ble_eq_true rfl, Nat.le_of_ble_eq_true rfl⟩ ⟨Nat.le_of_ble_eq_true rfl, Nat.le_of_ble_eq_true rfl⟩ (fun μ11 hs11 H locs hμ11 hW hS => ?_)
                obtain ⟨hu9, hv9⟩ := hμ11
                have hu9 : μ11 = μw := hu9
                have hv_95 : hs11 = sayL hw (nI (P j)) := hv9
                have hsc : SC μ μ11 := by rw [hu9]; exact hsc
                have hgc := hsc.rm hg
                refine lv_iinc (v := nI (j + 1)) (lv' := [(1, .int (nI (j + 1))), (0, .ref (gm G 0))]) hx hb dX4_digest_98 hl (k := 0) rfl (inc1 j) (by decide) rfl (fun ls hl => ?_)
                refine lv_goto (tgt := 79) hx hb dX4_digest_101 (by decide) ?_
                exact ih_79 (j + 1) _ _ _ _ _ (by omega) rfl (by omega) hW hS hsc (by rw [hv_95, hw1_79]; rfl) ls (lv_sub hl [0, 1] rfl)
          exact loop_79 _ 0 _ _ _ _ _ (Nat.lt_succ_self _) rfl (by omega) hW hS hsc (by have h9 : i = n := (by omega); subst h9; show _ = dgB i S q V; rw [dgB_n (of_decide_eq_false b_32), hv_74, hh_70, hv_62, hh_58, hv_50, hh_46, hv_41, hw1_9]) ls (lv_sub hl [0, 1] rfl)
      · skip
        have q_14 := tN_nle n i c_14 rfl rfl (by omega) (by omega)
        refine lv_aload_n hx hb dX4_digest_17 rfl (lv_at hl 1 rfl) ?_
        refine lv_iload_n hx hb dX4_digest_18 rfl (lv_at hl 0 rfl) ?_
        refine cm_v (q := 859) [.int (nI i)] hx hb hml hown hW.2 hS v_X4_sayStick (by decide +kernel) (c_X4_sayStick l G μw hw n S q V ch hgc i (by omega)) (preM hW _) rfl hl.1 (Nat.le_of_ble_eq_true rfl) dX4_digest_19 ⟨rfl, rfl, Nat.le_of_ble_eq_true rfl, Nat.le_of_ble_eq_true rfl⟩ ⟨Nat.le_of_ble_eq_true rfl, Nat.le_of_ble_eq_true rfl⟩ (fun μ12 hs12 H locs hμ12 hW hS => ?_)
        obtain ⟨hu9, hv9⟩ := hμ12
        have hv_19 : hs12 = wsH (S i) hw := hv9
        have hsc : SC μ μ12 := fun a h4 h6 => (hu9 a h4 h6).trans (hsc a h4 h6)
        refine lv_iinc (v := nI (i + 1)) (lv' := [(1, .int (nI (i + 1))), (0, .ref (gm G 0))]) hx hb dX4_digest_22 hl (k := 0) rfl (inc1 i) (by decide) rfl (fun ls hl => ?_)
        refine lv_goto (tgt := 9) hx hb dX4_digest_25 (by decide) ?_
        exact ih_9 (i + 1) _ _ _ _ _ (by omega) rfl (by omega) hW hS hsc (by rw [hv_19, hw1_9]; rfl) ls (lv_sub hl [0, 1] rfl)
  exact loop_9 _ 0 _ _ _ _ _ (Nat.lt_succ_self _) rfl (by omega) hW hS SC.rf rfl ls (lv_sub hl [0, 1] rfl)
