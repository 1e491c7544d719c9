theorem ft_le {P : Nat → Nat} : ∀ k i, ftF P k i ≤ k + i := by
  intro k
  induction k with
  | zero => intro i; show i ≤ 0 + i; omega
  | succ k ih =>
    intro i
    unfold ftF
    split
    · have := ih (i + 1); omega
    · omega
theorem ftN_le {P : Nat → Nat} {pn : Nat} : ftN P pn ≤ pn := ft_le pn 0
theorem RG_0 {μ : St} {P : Nat → Nat} : RG (up2 (up2 μ 0 3 0) 0 4 0) P 0 0 0 := ⟨(up2_nf (by decide)).trans up2_eq, up2_eq, fun k hk => absurd hk (Nat.not_lt_zero k), fun h => absurd h (by omega), fun h => absurd h (by omega)⟩
def RH (μ : St) (P : Nat → Nat) (pn : Nat) (rd : Int32) (u : StM) : Prop := (∀ V, RM u.1 ((prN P pn).1 + 1) (pgS P pn) 0 V 0) ∧ u.1 0 1 = nI 0 ∧ u.1 0 7 = rd + 1 ∧ ∀ a f, a ≠ 2 → a ≠ 3 → (a = 0 → 10 < f) → u.1 a f = μ a f
theorem RH_of {μ μ1 μw : St} {hs1 hs9 : Int64} {P : Nat → Nat} {pn : Nat} {rd : Int32} (hk : KF μ (μ1, hs1)) (hg : RG μ1 P pn (prN P pn).1 (prN P pn).2) (hv : PV P pn (prN P pn).1 (prN P pn).2) (h2 : 2 < (prN P pn).2) (h0 : ∀ f, f < 36 → μw 3 f = up2 μ1 0 5 (nI ((prN P pn).1 + 1)) 2 f) (h1 : ∀ a9, a9 ≠ 3 → μw a9 = up2 μ1 0 5 (nI ((prN P pn).1 + 1)) a9) : RH μ P pn rd (up2 (up2 (up2 (up2 μw 0 6 0) 0 10 0) 0 7 (rd + 1)) 0 1 0, hs9) := by
  have hb3 := hv.2.1
  have f3 : ∀ f, up2 (up2 (up2 (up2 μw 0 6 0) 0 10 0) 0 7 (rd + 1)) 0 1 0 3 f = μw 3 f := fun f => (up2_o (fun z => absurd z (by decide))).trans ((up2_o (fun z => absurd z (by decide))).trans ((up2_o (fun z => absurd z (by decide))).trans (up2_o (fun z => absurd z (by decide)))))
  have g3 : ∀ f, f < 36 → up2 (up2 (up2 (up2 μw 0 6 0) 0 10 0) 0 7 (rd + 1)) 0 1 0 3 f = μ1 2 f := fun f hf => (f3 f).trans ((h0 f hf).trans (up2_o (fun z => absurd z (by decide))))
  have f05 : up2 (up2 (up2 (up2 μw 0 6 0) 0 10 0) 0 7 (rd + 1)) 0 1 0 0 5 = nI ((prN P pn).1 + 1) := by
    rw [up2_nf (by decide), up2_nf (by decide), up2_nf (by decide), up2_nf (by decide), h1 0 (by decide), up2_eq]
  have f06 : up2 (up2 (up2 (up2 μw 0 6 0) 0 10 0) 0 7 (rd + 1)) 0 1 0 0 6 = 0 := by
    rw [up2_nf (by decide), up2_nf (by decide), up2_nf (by decide), up2_eq]
  have f10 : up2 (up2 (up2 (up2 μw 0 6 0) 0 10 0) 0 7 (rd + 1)) 0 1 0 0 10 = nI 0 := by
    rw [up2_nf (by decide), up2_nf (by decide), up2_eq]; rfl
  have f07 : up2 (up2 (up2 (up2 μw 0 6 0) 0 10 0) 0 7 (rd + 1)) 0 1 0 0 7 = rd + 1 := by
    rw [up2_nf (by decide), up2_eq]
  have f01 : up2 (up2 (up2 (up2 μw 0 6 0) 0 10 0) 0 7 (rd + 1)) 0 1 0 0 1 = nI 0 := by
    rw [up2_eq]; rfl
  refine ⟨fun V => ⟨⟨f05, by omega⟩, f06, ⟨f10, by omega⟩, fun k hk9 => ?_, fun i hi => absurd hi (Nat.not_lt_zero i)⟩, f01, f07, fun a f ha2 ha3 ha0 => ?_⟩
  · by_cases e9 : k = (prN P pn).1
    · rw [e9]
      obtain ⟨b1, b2, b3⟩ := hv.2.2.2.2.2 (by omega)
      exact ⟨b1, by omega, by omega, (hg.2.2.2.2 (by omega)).mv b1.2.2.1 (fun f hf => g3 _ (by omega))⟩
    · obtain ⟨b1, b2, b3⟩ := hv.2.2.2.1 k (by omega)
      exact ⟨b1, b2, by omega, (hg.2.2.1 k (by omega)).mv b1.2.2.1 (fun f hf => g3 _ (by omega))⟩
  · have e9 : up2 (up2 (up2 (up2 μw 0 6 0) 0 10 0) 0 7 (rd + 1)) 0 1 0 a f = μ a f := by
      rw [up2_o (fun z => by have := ha0 z; omega), up2_o (fun z => by have := ha0 z; omega), up2_o (fun z => by have := ha0 z; omega), up2_o (fun z => by have := ha0 z; omega), h1 a ha3, up2_o (fun z => by have := ha0 z; omega)]
      exact hk a f ha2 (fun z => by have := ha0 z; omega)
    exact e9
set_option maxHeartbeats 4000000 in
set_option maxRecDepth 100000 in
theorem c_X4_faultOf (l : Launch) (G : Gam) (μ : St) (hs : Int64) (pn : Nat) (P : Nat → Nat) (hp : RP μ pn P) : Met l yX4_faultOf (w1 yX4_faultOf cX4_faultOf 2 (some .int)) ({ frames := 2, cells := 0, slots := 0, locals := 47 }) (PcM G μ hs [.ref (gm G 0)]) (QiM G (fun r u9 => r = nI (ftN P pn) ∧ KF μ u9 ∧ (ftN P pn = pn → RG u9.1 P pn (prN P pn).1 (prN P pn).2 ∧ PV P pn (prN P pn).1 (prN P pn).2))) 0 0 (aM G) := by
  refine met_of [.ref (gm G 0)] [(0, .ref (gm G 0))] (by decide) (Nat.le_of_ble_eq_true rfl) rfl ?_
  intro p e s m below meth c hx hb hr hown hml hlocks hW ls hl
  have hG : GW s := hW.2.2.2
  have hS : va_S (aM G) s.heap s.heap [] := va_S.rf
  have hp32 := hp.1.2
  refine lv_aload_n hx hb dX4_faultOf_0 rfl (lv_at hl 0 rfl) ?_
  refine lv_iconst (v := 0) hx hb dX4_faultOf_1 (by decide) ?_
  refine wr_X4_50 hx hb hown hW hS dX4_faultOf_2 (fun H locs hW hS => ?_)
  obtain ⟨μ1, hμ1⟩ : ∃ z, z = up2 μ (0) 3 0 := ⟨_, rfl⟩
  rw [← hμ1] at hW
  refine lv_aload_n hx hb dX4_faultOf_5 rfl (lv_at hl 0 rfl) ?_
  refine lv_iconst (v := 0) hx hb dX4_faultOf_6 (by decide) ?_
  refine wr_X4_53 hx hb hown hW hS dX4_faultOf_7 (fun H locs hW hS => ?_)
  obtain ⟨μ2, hμ2⟩ : ∃ z, z = up2 μ1 (0) 4 0 := ⟨_, rfl⟩
  rw [← hμ2] at hW
  refine lv_iconst (v := 0) hx hb dX4_faultOf_10 (by decide) ?_
  refine lv_istore_n (lv' := [(1, .int 0), (0, .ref (gm G 0))]) hx hb dX4_faultOf_11 rfl hl (by decide) rfl (fun ls hl => ?_)
  have loop_12 : ∀ (N9 : Nat) (i : Nat) (io : Int32) (μw : St) (hw : Int64) (H : Heap) (locs : List Loc), pn - i < N9 → io = nI i → i ≤ pn → ftF P (pn - i) i = ftN P pn → PV P i (prN P i).1 (prN P i).2 → WM G μw hw s H → va_S (aM G) s.heap H locs → RG μw P i (prN P i).1 (prN P i).2 → KF μ (μw, hw) → ∀ ls : Array Slot, lv_has ls 2 [(1, .int io), (0, .ref (gm G 0))] → W p l e (headSpec (w1 yX4_faultOf cX4_faultOf 2 (some .int)) ({ frames := 2, cells := 0, slots := 0, locals := 47 })).room s m [.ref (gm G 0)].toArray below meth c H locs 0 0 (MQ below (QiM G (fun r u9 => r = nI (ftN P pn) ∧ KF μ u9 ∧ (ftN P pn = pn → RG u9.1 P pn (prN P pn).1 (prN P pn).2 ∧ PV P pn (prN P pn).1 (prN P pn).2))) [.ref (gm G 0)].toArray s 0 0 (aM G)) (F0 m 12 ls []) := by
    intro N9
    induction N9 with
    | zero => intro i io μw hw H locs hN; exact absurd hN (Nat.not_lt_zero _)
    | succ N9 ih =>
      intro i io μw hw H locs hN e_io hi0_12 hi1_12 hi2_12 hW hS hw0_12 hw1_12 ls hl
      subst e_io
      have ih_12 := ih
      have hpc := hw1_12.rp hp
      refine lv_iload_n hx hb dX4_faultOf_12 rfl (lv_at hl 0 rfl) ?_
      refine lv_aload_n hx hb dX4_faultOf_13 rfl (lv_at hl 1 rfl) ?_
      refine rd_X4_47 hx hb hown hW dX4_faultOf_14 ?_
      refine lv_eqi (y := nI pn) hpc.1.1 ?_
      refine lv_icmp_ge (tgt := 39) hx hb dX4_faultOf_17 (by decide) (fun c_17 => ?_) (fun c_17 => ?_)
      · skip
        have q_17 := tN_le pn i c_17 rfl rfl (by omega) (by omega)
        refine lv_iload_n hx hb dX4_faultOf_39 rfl (lv_at hl 0 rfl) ?_
        exact W.iret (v := nI i) hx hb hr (fun t9 ht9 hW9 => ⟨⟨_, (μw, hw), rfl, (by have h9 : i = pn := (by omega); subst h9; exact ⟨congrArg nI (ft_e hi1_12), hw1_12, fun _ => ⟨hw0_12, hi2_12⟩⟩), (by have h8 := hW.1; rw [← ht9] at h8; exact h8)⟩, hS.F ht9⟩) hS.2.2 dX4_faultOf_40
      · skip
        have q_17 := tN_nle pn i c_17 rfl rfl (by omega) (by omega)
        have hpi := (hp.2 i (by omega)).2
        refine lv_aload_n hx hb dX4_faultOf_20 rfl (lv_at hl 1 rfl) ?_
        refine lv_aload_n hx hb dX4_faultOf_21 rfl (lv_at hl 1 rfl) ?_
        refine rd_X4_7 hx hb hown hW dX4_faultOf_22 ?_
        refine lv_iload_n hx hb dX4_faultOf_25 rfl (lv_at hl 0 rfl) ?_
        refine al_M (k := i) 1 hx hb hW rfl (show _ < 32 by omega) dX4_faultOf_26 ?_
        refine lv_eqi (y := nI (P i)) (hpc.2 i (by omega)).1 ?_
        refine cm_i (q := 656) [.int (nI (P i))] hx hb hml hown hW.2 hS v_X4_go (by decide +kernel) (c_X4_go l G μw hw P i (prN P i).1 (prN P i).2 (P i) hw0_12 hi2_12 rfl (by omega)) (preM hW _) rfl hl.1 (Nat.le_of_ble_eq_true rfl) dX4_faultOf_27 ⟨rfl, rfl, Nat.le_of_ble_eq_true rfl, Nat.le_of_ble_eq_true rfl⟩ ⟨Nat.le_of_ble_eq_true rfl, Nat.le_of_ble_eq_true rfl⟩ (fun r_27 μ3 hs3 H locs hμ3 hW hS => ?_)
        obtain ⟨hy9, hn9, hkf⟩ := hμ3
        cases hfit : fitN (P i) (prN P i).2 (prN P i).1
        · skip
          have hr1 := hn9 hfit
          subst hr1
          refine lv_if_eq (tgt := 39) hx hb dX4_faultOf_30 (by decide) (fun c_30 => ?_) (fun c_30 => ?_)
          · skip
            refine lv_iload_n hx hb dX4_faultOf_39 rfl (lv_at hl 0 rfl) ?_
            exact W.iret (v := nI i) hx hb hr (fun t9 ht9 hW9 => ⟨⟨_, (μ3, hs3), rfl, (by have h9 := ft_n hi1_12 (by omega) hfit; exact ⟨congrArg nI h9, hw1_12.tr hkf, fun z => absurd z (by omega)⟩), (by have h8 := hW.1; rw [← ht9] at h8; exact h8)⟩, hS.F ht9⟩) hS.2.2 dX4_faultOf_40
          · skip
            exact absurd (by decide) c_30
        · skip
          obtain ⟨hr1, hg1⟩ := hy9 hfit
          subst hr1
          refine lv_if_eq (tgt := 39) hx hb dX4_faultOf_30 (by decide) (fun c_30 => ?_) (fun c_30 => ?_)
          · skip
            exact absurd c_30 (by decide)
          · skip
            refine lv_iinc (v := nI (i + 1)) (lv' := [(1, .int (nI (i + 1))), (0, .ref (gm G 0))]) hx hb dX4_faultOf_33 hl (k := 0) rfl (inc1 i) (by decide) rfl (fun ls hl => ?_)
            refine lv_goto (tgt := 12) hx hb dX4_faultOf_36 (by decide) ?_
            exact ih_12 (i + 1) _ _ _ _ _ (by omega) rfl (by omega) (ft_y hi1_12 (by omega) hfit) (hi2_12.nx hfit) hW hS hg1 (hw1_12.tr hkf) ls (lv_sub hl [0, 1] rfl)
  exact loop_12 _ 0 _ _ _ _ _ (Nat.lt_succ_self _) rfl (Nat.zero_le _) rfl PV_0 hW hS (by subst hμ2; subst hμ1; exact RG_0) (by subst hμ2; subst hμ1; exact KF.rf.u3.u4) ls (lv_sub hl [0, 1] rfl)
set_option maxHeartbeats 4000000 in
set_option maxRecDepth 100000 in
theorem c_X4_fault (l : Launch) (G : Gam) (μ : St) (hs : Int64) (pn : Nat) (P : Nat → Nat) (hp : RP μ pn P) : Met l yX4_fault (w1 yX4_fault cX4_fault 1 (some .int)) ({ frames := 3, cells := 0, slots := 0, locals := 68 }) (PcM G μ hs [.ref (gm G 0)]) (QiM G (fun r u9 => r = nI (ftN P pn) ∧ KF μ u9)) 0 0 (aM G) := by
  refine met_of [.ref (gm G 0)] [(0, .ref (gm G 0))] (by decide) (Nat.le_of_ble_eq_true rfl) rfl ?_
  intro p e s m below meth c hx hb hr hown hml hlocks hW ls hl
  have hG : GW s := hW.2.2.2
  have hS : va_S (aM G) s.heap s.heap [] := va_S.rf
  refine lv_aload_n hx hb dX4_fault_0 rfl (lv_at hl 0 rfl) ?_
  refine cm_i (q := 652) [] hx hb hml hown hW.2 hS v_X4_faultOf (by decide +kernel) (c_X4_faultOf l G μ hs pn P hp) (preM hW _) rfl hl.1 (Nat.le_of_ble_eq_true rfl) dX4_fault_1 ⟨rfl, rfl, Nat.le_of_ble_eq_true rfl, Nat.le_of_ble_eq_true rfl⟩ ⟨Nat.le_of_ble_eq_true rfl, Nat.le_of_ble_eq_true rfl⟩ (fun r_1 μ1 hs1 H locs hμ1 hW hS => ?_)
  obtain ⟨hr1, hk1, hy1⟩ := hμ1
  exact W.iret (v := r_1) hx hb hr (fun t9 ht9 hW9 => ⟨⟨_, (μ1, hs1), rfl, ⟨hr1, hk1⟩, (by have h8 := hW.1; rw [← ht9] at h8; exact h8)⟩, hS.F ht9⟩) hS.2.2 dX4_fault_4
set_option maxHeartbeats 4000000 in
set_option maxRecDepth 100000 in
theorem c_X4_hills (l : Launch) (G : Gam) (μ : St) (hs : Int64) (pn : Nat) (P : Nat → Nat) (hp : RP μ pn P) (rd : Int32) (hrd : μ 0 7 = rd) : Met l yX4_hills (w1 yX4_hills cX4_hills 2 (some .int)) ({ frames := 3, cells := 0, slots := 0, locals := 68 }) (PcM G μ hs [.ref (gm G 0)]) (QiM G (fun r u9 => (¬ (ftN P pn = pn ∧ 2 < (prN P pn).2) → r = -103 ∧ KF μ u9) ∧ ((ftN P pn = pn ∧ 2 < (prN P pn).2) → r = nI ((prN P pn).1 + 1) ∧ RH μ P pn rd u9))) 0 0 (aM G) := by
  refine met_of [.ref (gm G 0)] [(0, .ref (gm G 0))] (by decide) (Nat.le_of_ble_eq_true rfl) rfl ?_
  intro p e s m below meth c hx hb hr hown hml hlocks hW ls hl
  have hG : GW s := hW.2.2.2
  have hS : va_S (aM G) s.heap s.heap [] := va_S.rf
  have hp32 := hp.1.2
  have hft := ftN_le (P := P) (pn := pn)
  refine lv_aload_n hx hb dX4_hills_0 rfl (lv_at hl 0 rfl) ?_
  refine cm_i (q := 652) [] hx hb hml hown hW.2 hS v_X4_faultOf (by decide +kernel) (c_X4_faultOf l G μ hs pn P hp) (preM hW _) rfl hl.1 (Nat.le_of_ble_eq_true rfl) dX4_hills_1 ⟨rfl, rfl, Nat.le_of_ble_eq_true rfl, Nat.le_of_ble_eq_true rfl⟩ ⟨Nat.le_of_ble_eq_true rfl, Nat.le_of_ble_eq_true rfl⟩ (fun r_1 μ1 hs1 H locs hμ1 hW hS => ?_)
  obtain ⟨hr1, hk1, hy1⟩ := hμ1
  subst hr1
  refine lv_aload_n hx hb dX4_hills_4 rfl (lv_at hl 0 rfl) ?_
  refine rd_X4_47 hx hb hown hW dX4_hills_5 ?_
  refine lv_eqi (y := nI pn) (hk1.rp hp).1.1 ?_
  refine lv_icmp_lt (tgt := 19) hx hb dX4_hills_8 (by decide) (fun c_8 => ?_) (fun c_8 => ?_)
  · skip
    have q_8 := tN_lt (ftN P pn) pn c_8 rfl rfl (by omega) (by omega)
    refine lv_bipush (v := (-103)) hx hb dX4_hills_19 (by decide) ?_
    exact W.iret (v := (-103)) hx hb hr (fun t9 ht9 hW9 => ⟨⟨_, (μ1, hs1), rfl, ⟨fun _ => ⟨rfl, hk1⟩, fun z => absurd z.1 (by omega)⟩, (by have h8 := hW.1; rw [← ht9] at h8; exact h8)⟩, hS.F ht9⟩) hS.2.2 dX4_hills_21
  · skip
    have q_8 := tN_nlt (ftN P pn) pn c_8 rfl rfl (by omega) (by omega)
    refine lv_aload_n hx hb dX4_hills_11 rfl (lv_at hl 0 rfl) ?_
    refine rd_X4_53 hx hb hown hW dX4_hills_12 ?_
    refine lv_eqi (y := nI (min (prN P pn).2 3)) (hy1 (by omega)).1.2.1 ?_
    refine lv_iconst (v := 3) hx hb dX4_hills_15 (by decide) ?_
    refine lv_icmp_eq (tgt := 22) hx hb dX4_hills_16 (by decide) (fun c_16 => ?_) (fun c_16 => ?_)
    · skip
      have q_16 := tN_eq (min (prN P pn).2 3) 3 c_16 rfl rfl (by omega) (by omega)
      refine lv_aload_n hx hb dX4_hills_22 rfl (lv_at hl 0 rfl) ?_
      refine lv_aload_n hx hb dX4_hills_23 rfl (lv_at hl 0 rfl) ?_
      refine rd_X4_50 hx hb hown hW dX4_hills_24 ?_
      refine lv_eqi (y := nI ((prN P pn).1)) (hy1 (by omega)).1.1 ?_
      refine lv_iconst (v := 1) hx hb dX4_hills_27 (by decide) ?_
      refine ln_add ((prN P pn).1) 1 hx hb rfl rfl dX4_hills_28 ?_
      refine wr_X4_75 hx hb hown hW hS dX4_hills_29 (fun H locs hW hS => ?_)
      obtain ⟨μ2, hμ2⟩ : ∃ z, z = up2 μ1 (0) 5 (nI (((prN P pn).1) + 1)) := ⟨_, rfl⟩
      rw [← hμ2] at hW
      refine lv_iconst (v := 0) hx hb dX4_hills_32 (by decide) ?_
      refine lv_istore_n (lv' := [(1, .int 0), (0, .ref (gm G 0))]) hx hb dX4_hills_33 rfl hl (by decide) rfl (fun ls hl => ?_)
      have loop_34 : ∀ (N9 : Nat) (k : Nat) (ko : Int32) (μw : St) (hw : Int64) (H : Heap) (locs : List Loc), 36 - k < N9 → ko = nI k → k ≤ 36 → WM G μw hw s H → va_S (aM G) s.heap H locs → ((∀ f, f < k → μw 3 f = μ2 2 f)) → ((∀ a9, a9 ≠ 3 → μw a9 = μ2 a9)) → ∀ ls : Array Slot, lv_has ls 2 [(1, .int ko), (0, .ref (gm G 0))] → W p l e (headSpec (w1 yX4_hills cX4_hills 2 (some .int)) ({ frames := 3, cells := 0, slots := 0, locals := 68 })).room s m [.ref (gm G 0)].toArray below meth c H locs 0 0 (MQ below (QiM G (fun r u9 => (¬ (ftN P pn = pn ∧ 2 < (prN P pn).2) → r = -103 ∧ KF μ u9) ∧ ((ftN P pn = pn ∧ 2 < (prN P pn).2) → r = nI ((prN P pn).1 + 1) ∧ RH μ P pn rd u9))) [.ref (gm G 0)].toArray s 0 0 (aM G)) (F0 m 34 ls []) := by
        intro N9
        induction N9 with
        | zero => intro k ko μw hw H locs hN; exact absurd hN (Nat.not_lt_zero _)
        | succ N9 ih =>
          intro k ko μw hw H locs hN e_ko hi0_34 hW hS hw0_34 hw1_34 ls hl
          subst e_ko
          have ih_34 := ih
          refine lv_iload_n hx hb dX4_hills_34 rfl (lv_at hl 0 rfl) ?_
          refine lv_bipush (v := 36) hx hb dX4_hills_35 (by decide) ?_
          refine lv_icmp_ge (tgt := 58) hx hb dX4_hills_37 (by decide) (fun c_37 => ?_) (fun c_37 => ?_)
          · skip
            have q_37 := tN_le 36 k c_37 rfl rfl (by omega) (by omega)
            refine lv_aload_n hx hb dX4_hills_58 rfl (lv_at hl 1 rfl) ?_
            refine lv_iconst (v := 0) hx hb dX4_hills_59 (by decide) ?_
            refine wr_X4_78 hx hb hown hW hS dX4_hills_60 (fun H locs hW hS => ?_)
            obtain ⟨μ3, hμ3⟩ : ∃ z, z = up2 μw (0) 6 0 := ⟨_, rfl⟩
            rw [← hμ3] at hW
            refine lv_aload_n hx hb dX4_hills_63 rfl (lv_at hl 1 rfl) ?_
            refine lv_iconst (v := 0) hx hb dX4_hills_64 (by decide) ?_
            refine wr_X4_81 hx hb hown hW hS dX4_hills_65 (fun H locs hW hS => ?_)
            obtain ⟨μ4, hμ4⟩ : ∃ z, z = up2 μ3 (0) 10 0 := ⟨_, rfl⟩
            rw [← hμ4] at hW
            refine lv_aload_n hx hb dX4_hills_68 rfl (lv_at hl 1 rfl) ?_
            refine lv_dup hx hb dX4_hills_69 rfl ?_
            refine rd_X4_84 hx hb hown hW dX4_hills_70 ?_
            refine lv_eqi (y := rd) (by rw [hμ4, up2_nf (by decide), hμ3, up2_nf (by decide), hw1_34 0 (by decide), hμ2, up2_nf (by decide)]; exact (hk1 0 7 (by decide) (by decide)).trans hrd) ?_
            refine lv_iconst (v := 1) hx hb dX4_hills_73 (by decide) ?_
            refine lv_iadd hx hb dX4_hills_74 ?_
            refine wr_X4_84 hx hb hown hW hS dX4_hills_75 (fun H locs hW hS => ?_)
            obtain ⟨μ5, hμ5⟩ : ∃ z, z = up2 μ4 (0) 7 (rd + 1) := ⟨_, rfl⟩
            rw [← hμ5] at hW
            refine lv_aload_n hx hb dX4_hills_78 rfl (lv_at hl 1 rfl) ?_
            refine lv_iconst (v := 0) hx hb dX4_hills_79 (by decide) ?_
            refine wr_X4_47 hx hb hown hW hS dX4_hills_80 (fun H locs hW hS => ?_)
            obtain ⟨μ6, hμ6⟩ : ∃ z, z = up2 μ5 (0) 1 0 := ⟨_, rfl⟩
            rw [← hμ6] at hW
            refine lv_aload_n hx hb dX4_hills_83 rfl (lv_at hl 1 rfl) ?_
            refine rd_X4_75 hx hb hown hW dX4_hills_84 ?_
            refine lv_eqi (y := nI ((prN P pn).1 + 1)) (by rw [hμ6, up2_nf (by decide), hμ5, up2_nf (by decide), hμ4, up2_nf (by decide), hμ3, up2_nf (by decide), hw1_34 0 (by decide), hμ2, up2_eq]) ?_
            exact W.iret (v := nI ((prN P pn).1 + 1)) hx hb hr (fun t9 ht9 hW9 => ⟨⟨_, (μ6, hw), rfl, (by have hz := hy1 (by omega); refine ⟨fun z => absurd z (fun y => y ⟨by omega, by omega⟩), fun z => ⟨rfl, ?_⟩⟩; rw [hμ2] at hw0_34 hw1_34; subst hμ6; subst hμ5; subst hμ4; subst hμ3; exact RH_of hk1 hz.1 hz.2 z.2 (fun f hf => hw0_34 f (by omega)) hw1_34), (by have h8 := hW.1; rw [← ht9] at h8; exact h8)⟩, hS.F ht9⟩) hS.2.2 dX4_hills_87
          · skip
            have q_37 := tN_nle 36 k c_37 rfl rfl (by omega) (by omega)
            refine lv_aload_n hx hb dX4_hills_40 rfl (lv_at hl 1 rfl) ?_
            refine rd_X4_16 hx hb hown hW dX4_hills_41 ?_
            refine lv_iload_n hx hb dX4_hills_44 rfl (lv_at hl 0 rfl) ?_
            refine lv_aload_n hx hb dX4_hills_45 rfl (lv_at hl 1 rfl) ?_
            refine rd_X4_13 hx hb hown hW dX4_hills_46 ?_
            refine lv_iload_n hx hb dX4_hills_49 rfl (lv_at hl 0 rfl) ?_
            refine al_M (k := k) 2 hx hb hW rfl (show _ < 36 by omega) dX4_hills_50 ?_
            refine as_M (k := k) 3 hx hb hW hS rfl (show _ < 54 by omega) dX4_hills_51 (fun H locs hW hS => ?_)
            obtain ⟨μ7, hμ7⟩ : ∃ z, z = up2 μw 3 k (μw 2 k) := ⟨_, rfl⟩
            rw [← hμ7] at hW
            refine lv_iinc (v := nI (k + 1)) (lv' := [(1, .int (nI (k + 1))), (0, .ref (gm G 0))]) hx hb dX4_hills_52 hl (k := 0) rfl (inc1 k) (by decide) rfl (fun ls hl => ?_)
            refine lv_goto (tgt := 34) hx hb dX4_hills_55 (by decide) ?_
            exact ih_34 (k + 1) _ _ _ _ _ (by omega) rfl (by omega) hW hS (by subst hμ7; exact co_s hw0_34 (hw1_34 2 (by decide))) (fun a9 ha => by subst hμ7; rw [up2_ne ha]; exact hw1_34 a9 ha) ls (lv_sub hl [0, 1] rfl)
      exact loop_34 _ 0 _ _ _ _ _ (Nat.lt_succ_self _) rfl (by omega) hW hS (fun f hf => absurd hf (by omega)) (fun _ _ => rfl) ls (lv_sub hl [0, 1] rfl)
    · skip
      have q_16 := tN_ne (min (prN P pn).2 3) 3 c_16 rfl rfl (by omega) (by omega)
      refine lv_bipush (v := (-103)) hx hb dX4_hills_19 (by decide) ?_
      exact W.iret (v := (-103)) hx hb hr (fun t9 ht9 hW9 => ⟨⟨_, (μ1, hs1), rfl, ⟨fun _ => ⟨rfl, hk1⟩, fun z => absurd z.2 (by omega)⟩, (by have h8 := hW.1; rw [← ht9] at h8; exact h8)⟩, hS.F ht9⟩) hS.2.2 dX4_hills_21
