theorem nar_c {c : Nat} (hc : c < 65536) : vp_nar .char (nI c) = nI c := by unfold vp_nar; rw [(pk_charN hc).1]
theorem i2c_n {c : Nat} (hc : c < 65536) : ((nI c).toUInt32 % 65536).toInt32 = nI c := by rw [pk_char, pk_tn (by omega), Nat.mod_eq_of_lt hc]
/-- the page: pn letters P -/
def PG (σ : St) (pn : Nat) (P : Nat → Nat) : Prop := (σ 1 1 = nI pn ∧ pn ≤ 32) ∧ ∀ i, i < pn → σ 2 i = nI (P i) ∧ 1 ≤ P i ∧ P i ≤ 126
def setP (P : Nat → Nat) (i c : Nat) : Nat → Nat := fun k => if k = i then c else P k
def dLet (pn : Nat) (P : Nat → Nat) (x : Int32) : Int32 × Nat × (Nat → Nat) := wG x 127 (fun c => if c = 0 then (-102, pn, P) else if pn < 32 then (nI (pn + 1), pn + 1, setP P pn c) else (-104, pn, P)) (-102, pn, P)
def Chp (σ σ' : St) (pn : Nat) (P : Nat → Nat) : Prop := PG σ' pn P ∧ ∀ a, a ≠ 1 → a ≠ 2 → σ' a = σ a
theorem Dr {σ σ' : St} {D d : Int32 × Nat × (Nat → Nat)} {r : Int32} (e : D = d) (hr : r = d.1) (h : Chp σ σ' d.2.1 d.2.2) : r = D.1 ∧ Chp σ σ' D.2.1 D.2.2 := by subst e; exact ⟨hr, h⟩
theorem PG.add {σ : St} {pn c : Nat} {P : Nat → Nat} (h : PG σ pn P) (h1 : pn < 32) (hc : 1 ≤ c ∧ c ≤ 126) : Chp σ (up2 (up2 σ 2 pn (nI c)) 1 1 (nI (pn + 1))) (pn + 1) (setP P pn c) := by
  refine ⟨⟨⟨up2_eq, by omega⟩, fun i hi => ?_⟩, fun a h1 h2 => by rw [up2_ne h1, up2_ne h2]⟩
  rw [up2_nr (by omega)]
  by_cases e : i = pn
  · subst e
    rw [up2_eq, show setP P i c i = c from if_pos rfl]
    exact ⟨rfl, hc⟩
  · rw [up2_nf e, show setP P pn c i = P i from if_neg e]
    exact h.2 i (by omega)
theorem lN_and31 {n : Nat} (h : n < 2 ^ 63) : lN n &&& 2147483647 = lN (n % 2 ^ 31) := by
  apply Int64.toBitVec_inj.1
  apply BitVec.eq_of_toNat_eq
  rw [Int64.toBitVec_and, BitVec.toNat_and]
  show (BitVec.ofNat 64 n).toNat &&& (2147483647 : Nat) = (BitVec.ofNat 64 (n % 2 ^ 31)).toNat
  rw [BitVec.toNat_ofNat, BitVec.toNat_ofNat, Nat.mod_eq_of_lt (show n < 2 ^ 64 by omega), Nat.mod_eq_of_lt (show n % 2 ^ 31 < 2 ^ 64 by omega), show (2147483647 : Nat) = 2 ^ 31 - 1 from rfl, Nat.and_two_pow_sub_one_eq_mod]
def nxN (m : Nat) : Nat := (1103515245 * m + 12345) % 2 ^ 31
theorem nxN_lt (m : Nat) : nxN m < 2 ^ 31 := Nat.mod_lt _ (by omega)
theorem nxS {m : Nat} (h : m < 2 ^ 31) : (1103515245 * (nI m).toInt64 + 12345 &&& 2147483647).toInt32 = nI (nxN m) := by
  rw [nI_l h, show (1103515245 : Int64) = lN 1103515245 from rfl, show (12345 : Int64) = lN 12345 from rfl, lN_mul, lN_add, lN_and31 (by omega), lN_i]
  rfl
def sdN (m : Nat) : Nat → Nat
  | 0 => m
  | k + 1 => nxN (sdN m k)
theorem sdN_lt {m : Nat} (h : m < 2 ^ 31) : ∀ k, sdN m k < 2 ^ 31 := by
  intro k
  cases k with
  | zero => exact h
  | succ k => exact nxN_lt _
def dlN (m k : Nat) : Nat := sdN m (k + 1) / 65536 % 4
def msN (n m : Nat) : Nat → Nat
  | 0 => m
  | j + 1 => sdN (msN n m j) n
theorem msN_lt {n m : Nat} (h : m < 2 ^ 31) : ∀ j, msN n m j < 2 ^ 31 := by
  intro j
  induction j with
  | zero => exact h
  | succ j ih => exact sdN_lt ih n
def mtN (S : Nat → Sk) (n m : Nat) : Nat → Nat
  | 0 => 0
  | j + 1 => mtN S n m j + ouN (meL S (dlN (msN n m j))) n n
abbrev allP (S : Nat → Sk) (n : Nat) : Nat := popN (grN (PL S) (2 ^ n - 1) n)
def moA (n : Nat) (S : Nat → Sk) (J m u : Nat) : Int32 := if n = 0 then -103 else if u = 0 then nI (mtN S n m J) else if u = 1 then nI (allP S n) else nI (msN n m J)
def aMorn (n : Nat) (S : Nat → Sk) (x y w : Int32) : Int32 := wK x 21 (fun J => if J = 0 then -102 else if y < 0 then -102 else wK w 3 (fun u => moA n S J y.toNatClampNeg u) (-102)) (-102)
def cntN (n : Nat) (S : Nat → Sk) (q : Nat) (ch : Int32) (pn : Nat) (rd : Int32) : Nat → Int32
  | 0 => nI n
  | 1 => nI (sumN (fun k => S k 3) n)
  | 2 => nI (allP S n)
  | 3 => nI (ouN (meL S (fun i => S i 2)) n n)
  | 4 => ch
  | 5 => nI q
  | 6 => nI pn
  | _ => rd
def aCount (n : Nat) (S : Nat → Sk) (q : Nat) (ch : Int32) (pn : Nat) (rd : Int32) (x : Int32) : Int32 := wK x 8 (cntN n S q ch pn rd) (-102)
theorem sw8 {k : Nat} (h : k < 8) : k = 0 ∨ k = 1 ∨ k = 2 ∨ k = 3 ∨ k = 4 ∨ k = 5 ∨ k = 6 ∨ k = 7 := by omega
theorem sw3 {k : Nat} (h : k < 3) : k = 0 ∨ k = 1 ∨ k = 2 := by omega
theorem sw15 {k : Nat} (h : k < 15) : k = 0 ∨ k = 1 ∨ k = 2 ∨ k = 3 ∨ k = 4 ∨ k = 5 ∨ k = 6 ∨ k = 7 ∨ k = 8 ∨ k = 9 ∨ k = 10 ∨ k = 11 ∨ k = 12 ∨ k = 13 ∨ k = 14 := by omega
theorem dl_step {σ : St} {m k : Nat} (h : ∀ i, i < k → σ 3 i = nI (dlN m i)) : ∀ i, i < k + 1 → up2 σ 3 k (nI (dlN m k)) 3 i = nI (dlN m i) := by
  intro i hi
  by_cases e : i = k
  · subst e; rw [up2_eq]
  · rw [up2_nf e]; exact h i (by omega)
theorem nneg {y : Int32} (h : ¬ y < 0) : ∃ m, m < 2 ^ 31 ∧ y = nI m := nI_of h
theorem PL_lt {σ : St} {h n : Nat} {S : Nat → Sk} {q : Nat} {V : Nat → Nat} {ch : Int32} (g : GH σ h n S q V ch) {w : Nat} : grN (PL S) w n < 65536 := grN_lt (n := n) (fun i hi => orN_lt (posN_lt (g.2.2.2.1 i hi).1) 31) n (Nat.le_refl _)
set_option maxHeartbeats 4000000 in
set_option maxRecDepth 100000 in
theorem c_X1_append (l : Launch) (G : Gam) (σ : St) (pn : Nat) (P : Nat → Nat) (hp : PG σ pn P) (c9 : Nat) (hc : c9 < 65536) : Met l yX1_append (w1 yX1_append cX1_append 2 (some .boolean)) ({ frames := 0, cells := 0, slots := 0, locals := 0 }) (PcX G σ [.ref (ga G 1), .int (nI c9)]) (QiX G (fun r σ9 => (pn < 32 → r = 1 ∧ σ9 = up2 (up2 σ 2 pn (nI c9)) 1 1 (nI (pn + 1))) ∧ (¬ pn < 32 → r = 0 ∧ σ9 = σ))) 0 0 (aX G) := by
  refine met_of [.ref (ga G 1), .int (nI c9)] [(0, .ref (ga G 1)), (1, .int (nI c9))] (by decide) (Nat.le_of_ble_eq_true rfl) rfl ?_
  intro p e s m below meth c hx hb hr hown hml hlocks hW ls hl
  have hG : GW s := hW.2.2.2.1
  have hS : va_S (aX G) s.heap s.heap [] := va_S.rf
  have hp32 := hp.1.2
  refine lv_aload_n hx hb dX1_append_0 rfl (lv_at hl 0 rfl) ?_
  refine rd_X1_15 hx hb hown hW dX1_append_1 ?_
  refine lv_eqi (y := nI pn) hp.1.1 ?_
  refine lv_bipush (v := 32) hx hb dX1_append_4 (by decide) ?_
  refine lv_icmp_lt (tgt := 11) hx hb dX1_append_6 (by decide) (fun c_6 => ?_) (fun c_6 => ?_)
  · skip
    have q_6 := tN_lt pn 32 c_6 rfl rfl (by omega) (by omega)
    refine lv_aload_n hx hb dX1_append_11 rfl (lv_at hl 0 rfl) ?_
    refine rd_X1_9 hx hb hown hW dX1_append_12 ?_
    refine lv_aload_n hx hb dX1_append_15 rfl (lv_at hl 0 rfl) ?_
    refine rd_X1_15 hx hb hown hW dX1_append_16 ?_
    refine lv_eqi (y := nI pn) hp.1.1 ?_
    refine lv_iload_n hx hb dX1_append_19 rfl (lv_at hl 1 rfl) ?_
    refine as_letters (k := pn) hx hb hW hS rfl (by omega) (nar_c hc) dX1_append_20 (fun H locs hW hS => ?_)
    obtain ⟨σ1, hσ1⟩ : ∃ z, z = up2 σ (2) pn (nI c9) := ⟨_, rfl⟩
    rw [← hσ1] at hW
    refine lv_aload_n hx hb dX1_append_21 rfl (lv_at hl 0 rfl) ?_
    refine lv_dup hx hb dX1_append_22 rfl ?_
    refine rd_X1_15 hx hb hown hW dX1_append_23 ?_
    refine lv_eqi (y := nI pn) (by subst hσ1; rw [up2_nr (by omega)]; exact hp.1.1) ?_
    refine lv_iconst (v := 1) hx hb dX1_append_26 (by decide) ?_
    refine ln_add pn 1 hx hb rfl rfl dX1_append_27 ?_
    refine wr_X1_15 hx hb hown hW hS dX1_append_28 (fun H locs hW hS => ?_)
    obtain ⟨σ2, hσ2⟩ : ∃ z, z = up2 σ1 (1) 1 (nI (pn + 1)) := ⟨_, rfl⟩
    rw [← hσ2] at hW
    refine lv_iconst (v := 1) hx hb dX1_append_31 (by decide) ?_
    exact W.zret (v := 1) (ty := .boolean) hx hb hr rfl (fun t9 ht9 hW9 => ⟨⟨_, σ2, rfl, ⟨fun _ => ⟨rfl, by subst hσ2; subst hσ1; rfl⟩, fun z => absurd q_6 z⟩, (by have h8 := hW.1; rw [← ht9] at h8; exact h8)⟩, hS.F ht9⟩) hS.2.2 dX1_append_32
  · skip
    have q_6 := tN_nlt pn 32 c_6 rfl rfl (by omega) (by omega)
    refine lv_iconst (v := 0) hx hb dX1_append_9 (by decide) ?_
    exact W.zret (v := 0) (ty := .boolean) hx hb hr rfl (fun t9 ht9 hW9 => ⟨⟨_, σ, rfl, ⟨fun z => absurd z (by omega), fun _ => ⟨rfl, rfl⟩⟩, (by have h8 := hW.1; rw [← ht9] at h8; exact h8)⟩, hS.F ht9⟩) hS.2.2 dX1_append_10
set_option maxHeartbeats 4000000 in
set_option maxRecDepth 100000 in
theorem c_X3_letter (l : Launch) (G : Gam) (σ : St) (pn : Nat) (P : Nat → Nat) (hp : PG σ pn P) (x : Int32) : Met l yX3_letter (w1 yX3_letter cX3_letter 2 (some .int)) ({ frames := 1, cells := 0, slots := 0, locals := 21 }) (PcX G σ [.ref (ga G 0), .int x]) (QiX G (fun r σ9 => r = (dLet pn P x).1 ∧ Chp σ σ9 (dLet pn P x).2.1 (dLet pn P x).2.2)) 0 0 (aX G) := by
  rcases hasB_c x (n := 127) (by omega) with hx0 | ⟨k, hk, rfl⟩
  · skip
    refine met_of [.ref (ga G 0), .int x] [(0, .ref (ga G 0)), (1, .int x)] (by decide) (Nat.le_of_ble_eq_true rfl) rfl ?_
    intro p e s m below meth c hx hb hr hown hml hlocks hW ls hl
    have hG : GW s := hW.2.2.2.1
    have hS : va_S (aX G) s.heap s.heap [] := va_S.rf
    refine lv_iload_n hx hb dX3_letter_0 rfl (lv_at hl 1 rfl) ?_
    refine lv_iconst (v := 1) hx hb dX3_letter_1 (by decide) ?_
    refine lv_icmp_lt (tgt := 11) hx hb dX3_letter_2 (by decide) (fun c_2 => ?_) (fun c_2 => ?_)
    · skip
      refine lv_bipush (v := (-102)) hx hb dX3_letter_11 (by decide) ?_
      exact W.iret (v := (-102)) hx hb hr (fun t9 ht9 hW9 => ⟨⟨_, σ, rfl, (Dr (wG_f hx0) rfl ⟨hp, fun _ _ _ => rfl⟩), (by have h8 := hW.1; rw [← ht9] at h8; exact h8)⟩, hS.F ht9⟩) hS.2.2 dX3_letter_13
    · skip
      refine lv_iload_n hx hb dX3_letter_5 rfl (lv_at hl 1 rfl) ?_
      refine lv_bipush (v := 126) hx hb dX3_letter_6 (by decide) ?_
      refine lv_icmp_le (tgt := 14) hx hb dX3_letter_8 (by decide) (fun c_8 => ?_) (fun c_8 => ?_)
      · skip
        exact absurd (hB_le 126 (by omega) (nlt_mono 1 (by omega) c_2) c_8) (by rw [hx0]; decide)
      · skip
        refine lv_bipush (v := (-102)) hx hb dX3_letter_11 (by decide) ?_
        exact W.iret (v := (-102)) hx hb hr (fun t9 ht9 hW9 => ⟨⟨_, σ, rfl, (Dr (wG_f hx0) rfl ⟨hp, fun _ _ _ => rfl⟩), (by have h8 := hW.1; rw [← ht9] at h8; exact h8)⟩, hS.F ht9⟩) hS.2.2 dX3_letter_13
  · skip
    refine met_of [.ref (ga G 0), .int (nI k)] [(0, .ref (ga G 0)), (1, .int (nI k))] (by decide) (Nat.le_of_ble_eq_true rfl) rfl ?_
    intro p e s m below meth c hx hb hr hown hml hlocks hW ls hl
    have hG : GW s := hW.2.2.2.1
    have hS : va_S (aX G) s.heap s.heap [] := va_S.rf
    refine lv_iload_n hx hb dX3_letter_0 rfl (lv_at hl 1 rfl) ?_
    refine lv_iconst (v := 1) hx hb dX3_letter_1 (by decide) ?_
    refine lv_icmp_lt (tgt := 11) hx hb dX3_letter_2 (by decide) (fun c_2 => ?_) (fun c_2 => ?_)
    · skip
      have q_2 := tN_lt k 1 c_2 rfl rfl (by omega) (by omega)
      refine lv_bipush (v := (-102)) hx hb dX3_letter_11 (by decide) ?_
      exact W.iret (v := (-102)) hx hb hr (fun t9 ht9 hW9 => ⟨⟨_, σ, rfl, (Dr ((wG_k hk (by omega)).trans (if_pos (by omega))) rfl ⟨hp, fun _ _ _ => rfl⟩), (by have h8 := hW.1; rw [← ht9] at h8; exact h8)⟩, hS.F ht9⟩) hS.2.2 dX3_letter_13
    · skip
      have q_2 := tN_nlt k 1 c_2 rfl rfl (by omega) (by omega)
      refine lv_iload_n hx hb dX3_letter_5 rfl (lv_at hl 1 rfl) ?_
      refine lv_bipush (v := 126) hx hb dX3_letter_6 (by decide) ?_
      refine lv_icmp_le (tgt := 14) hx hb dX3_letter_8 (by decide) (fun c_8 => ?_) (fun c_8 => ?_)
      · skip
        have q_8 := tN_le k 126 c_8 rfl rfl (by omega) (by omega)
        refine lv_aload_n hx hb dX3_letter_14 rfl (lv_at hl 0 rfl) ?_
        refine rd_X3_10 hx hb hown hW dX3_letter_15 ?_
        refine lv_iload_n hx hb dX3_letter_18 rfl (lv_at hl 1 rfl) ?_
        refine lv_i2c hx hb dX3_letter_19 rfl ?_
        refine lv_eqi (y := nI k) (i2c_n (by omega)) ?_
        refine cw_i (q := 169) [.int (nI k)] hx hb hml hown hW.2 hS v_X1_append (by decide +kernel) (c_X1_append l G σ pn P hp k (by omega)) (preP hW _) rfl hl.1 (Nat.le_of_ble_eq_true rfl) dX3_letter_20 ⟨rfl, rfl, Nat.le_of_ble_eq_true rfl, Nat.le_of_ble_eq_true rfl⟩ ⟨Nat.le_of_ble_eq_true rfl, Nat.le_of_ble_eq_true rfl⟩ (fun r_20 σ1 H locs hσ1 hW hS => ?_)
        by_cases hq9 : pn < 32
        · skip
          obtain ⟨hr1, hs1⟩ := hσ1.1 hq9
          subst hr1
          refine lv_if_eq (tgt := 36) hx hb dX3_letter_23 (by decide) (fun c_23 => ?_) (fun c_23 => ?_)
          · skip
            exact absurd c_23 (by decide)
          · skip
            refine lv_aload_n hx hb dX3_letter_26 rfl (lv_at hl 0 rfl) ?_
            refine rd_X3_10 hx hb hown hW dX3_letter_27 ?_
            refine rd_X3_42 hx hb hown hW dX3_letter_30 ?_
            refine lv_eqi (y := nI (pn + 1)) (by rw [hs1, up2_eq]) ?_
            refine lv_goto (tgt := 38) hx hb dX3_letter_33 (by decide) ?_
            exact W.iret (v := nI (pn + 1)) hx hb hr (fun t9 ht9 hW9 => ⟨⟨_, σ1, rfl, (Dr ((wG_k hk (by omega)).trans ((if_neg (by omega)).trans (if_pos hq9))) rfl (by rw [hs1]; exact hp.add hq9 ⟨q_2, q_8⟩)), (by have h8 := hW.1; rw [← ht9] at h8; exact h8)⟩, hS.F ht9⟩) hS.2.2 dX3_letter_38
        · skip
          obtain ⟨hr1, hs1⟩ := hσ1.2 hq9
          subst hr1
          refine lv_if_eq (tgt := 36) hx hb dX3_letter_23 (by decide) (fun c_23 => ?_) (fun c_23 => ?_)
          · skip
            refine lv_bipush (v := (-104)) hx hb dX3_letter_36 (by decide) ?_
            exact W.iret (v := (-104)) hx hb hr (fun t9 ht9 hW9 => ⟨⟨_, σ1, rfl, (Dr ((wG_k hk (by omega)).trans ((if_neg (by omega)).trans (if_neg hq9))) rfl (by rw [hs1]; exact ⟨hp, fun _ _ _ => rfl⟩)), (by have h8 := hW.1; rw [← ht9] at h8; exact h8)⟩, hS.F ht9⟩) hS.2.2 dX3_letter_38
          · skip
            exact absurd (by decide) c_23
      · skip
        exact absurd (tN_nle k 126 c_8 rfl rfl (by omega) (by omega)) (by omega)
set_option maxHeartbeats 4000000 in
set_option maxRecDepth 100000 in
theorem c_X3_blank (l : Launch) (G : Gam) (σ : St) (pn : Nat) (P : Nat → Nat) (hp : PG σ pn P) : Met l yX3_blank (w1 yX3_blank cX3_blank 2 (some .int)) ({ frames := 0, cells := 0, slots := 0, locals := 0 }) (PcX G σ [.ref (ga G 0)]) (QiX G (fun r σ9 => r = nI pn ∧ σ9 = up2 σ 1 1 0)) 0 0 (aX G) := by
  refine met_of [.ref (ga G 0)] [(0, .ref (ga G 0))] (by decide) (Nat.le_of_ble_eq_true rfl) rfl ?_
  intro p e s m below meth c hx hb hr hown hml hlocks hW ls hl
  have hG : GW s := hW.2.2.2.1
  have hS : va_S (aX G) s.heap s.heap [] := va_S.rf
  refine lv_aload_n hx hb dX3_blank_0 rfl (lv_at hl 0 rfl) ?_
  refine rd_X3_10 hx hb hown hW dX3_blank_1 ?_
  refine rd_X3_42 hx hb hown hW dX3_blank_4 ?_
  refine lv_eqi (y := nI pn) hp.1.1 ?_
  refine lv_istore_n (lv' := [(1, .int (nI pn)), (0, .ref (ga G 0))]) hx hb dX3_blank_7 rfl hl (by decide) rfl (fun ls hl => ?_)
  refine lv_aload_n hx hb dX3_blank_8 rfl (lv_at hl 1 rfl) ?_
  refine rd_X3_10 hx hb hown hW dX3_blank_9 ?_
  refine lv_iconst (v := 0) hx hb dX3_blank_12 (by decide) ?_
  refine wr_X3_42 hx hb hown hW hS dX3_blank_13 (fun H locs hW hS => ?_)
  obtain ⟨σ1, hσ1⟩ : ∃ z, z = up2 σ (1) 1 0 := ⟨_, rfl⟩
  rw [← hσ1] at hW
  refine lv_iload_n hx hb dX3_blank_16 rfl (lv_at hl 0 rfl) ?_
  exact W.iret (v := nI pn) hx hb hr (fun t9 ht9 hW9 => ⟨⟨_, σ1, rfl, ⟨rfl, by subst hσ1; rfl⟩, (by have h8 := hW.1; rw [← ht9] at h8; exact h8)⟩, hS.F ht9⟩) hS.2.2 dX3_blank_17
set_option maxHeartbeats 4000000 in
set_option maxRecDepth 100000 in
theorem c_X3_drawLateness (l : Launch) (G : Gam) (σ : St) (n : Nat) (S : Nat → Sk) (q : Nat) (V : Nat → Nat) (ch : Int32) (hg : GH σ 0 n S q V ch) (m9 : Nat) (hm9 : m9 < 2 ^ 31) : Met l yX3_drawLateness (w1 yX3_drawLateness cX3_drawLateness 4 (some .int)) ({ frames := 0, cells := 0, slots := 0, locals := 0 }) (PcX G σ [.ref (ga G 0), .int (nI m9)]) (QiX G (fun r σ9 => r = nI (sdN m9 n) ∧ (∀ k, k < n → σ9 3 k = nI (dlN m9 k)) ∧ ∀ a, a ≠ 3 → σ9 a = σ a)) 0 0 (aX G) := by
  refine met_of [.ref (ga G 0), .int (nI m9)] [(0, .ref (ga G 0)), (1, .int (nI m9))] (by decide) (Nat.le_of_ble_eq_true rfl) rfl ?_
  intro p e s m below meth c hx hb hr hown hml hlocks hW ls hl
  have hG : GW s := hW.2.2.2.1
  have hS : va_S (aX G) s.heap s.heap [] := va_S.rf
  have hn6 := hg.1.2
  have hq8 := hg.2.2.1.2
  refine lv_iload_n hx hb dX3_drawLateness_0 rfl (lv_at hl 1 rfl) ?_
  refine lv_istore_n (lv' := [(2, .int (nI m9)), (0, .ref (ga G 0)), (1, .int (nI m9))]) hx hb dX3_drawLateness_1 rfl hl (by decide) rfl (fun ls hl => ?_)
  refine lv_iconst (v := 0) hx hb dX3_drawLateness_2 (by decide) ?_
  refine lv_istore_n (lv' := [(3, .int 0), (2, .int (nI m9)), (0, .ref (ga G 0)), (1, .int (nI m9))]) hx hb dX3_drawLateness_3 rfl hl (by decide) rfl (fun ls hl => ?_)
  have loop_4 : ∀ (N9 : Nat) (k : Nat) (so : Int32) (ko : Int32) (σw : St) (H : Heap) (locs : List Loc), n - k < N9 → so = nI (sdN m9 k) → ko = nI k → k ≤ n → WX G σw s H → va_S (aX G) s.heap H locs → ((∀ i, i < k → σw 3 i = nI (dlN m9 i))) → ((∀ a, a ≠ 3 → σw a = σ a)) → ∀ ls : Array Slot, lv_has ls 4 [(2, .int so), (3, .int ko), (0, .ref (ga G 0))] → W p l e (headSpec (w1 yX3_drawLateness cX3_drawLateness 4 (some .int)) ({ frames := 0, cells := 0, slots := 0, locals := 0 })).room s m [.ref (ga G 0), .int (nI m9)].toArray below meth c H locs 0 0 (MQ below (QiX G (fun r σ9 => r = nI (sdN m9 n) ∧ (∀ k, k < n → σ9 3 k = nI (dlN m9 k)) ∧ ∀ a, a ≠ 3 → σ9 a = σ a)) [.ref (ga G 0), .int (nI m9)].toArray s 0 0 (aX G)) (F0 m 4 ls []) := by
    intro N9
    induction N9 with
    | zero => intro k so ko σw H locs hN; exact absurd hN (Nat.not_lt_zero _)
    | succ N9 ih =>
      intro k so ko σw H locs hN e_so e_ko hi0_4 hW hS hw0_4 hw1_4 ls hl
      subst e_so
      subst e_ko
      have ih_4 := ih
      have hsd := sdN_lt hm9 k
      have hnx := nxN_lt (sdN m9 k)
      refine lv_iload_n hx hb dX3_drawLateness_4 rfl (lv_at hl 1 rfl) ?_
      refine lv_aload_n hx hb dX3_drawLateness_5 rfl (lv_at hl 2 rfl) ?_
      refine rd_X3_19 hx hb hown hW dX3_drawLateness_6 ?_
      refine rd_X3_57 hx hb hown hW (show 0 < 2 by omega) dX3_drawLateness_9 ?_
      refine lv_eqi (y := nI n) (by rw [hw1_4 _ (by omega)]; exact hg.1.1) ?_
      refine lv_icmp_ge (tgt := 49) hx hb dX3_drawLateness_12 (by decide) (fun c_12 => ?_) (fun c_12 => ?_)
      · skip
        have q_12 := tN_le n k c_12 rfl rfl (by omega) (by omega)
        refine lv_iload_n hx hb dX3_drawLateness_49 rfl (lv_at hl 0 rfl) ?_
        exact W.iret (v := nI (sdN m9 k)) hx hb hr (fun t9 ht9 hW9 => ⟨⟨_, σw, rfl, (by have h9 : k = n := (by omega); subst h9; exact ⟨rfl, hw0_4, hw1_4⟩), (by have h8 := hW.1; rw [← ht9] at h8; exact h8)⟩, hS.F ht9⟩) hS.2.2 dX3_drawLateness_50
      · skip
        have q_12 := tN_nle n k c_12 rfl rfl (by omega) (by omega)
        refine lv_ldc2 (v := 1103515245) hx hb hown (hG.use (i := 503) (by decide +kernel) rfl _) dX3_drawLateness_15 ?_
        refine lv_iload_n hx hb dX3_drawLateness_18 rfl (lv_at hl 0 rfl) ?_
        refine lv_i2l hx hb dX3_drawLateness_19 rfl ?_
        refine lv_lmul hx hb dX3_drawLateness_20 ?_
        refine lv_ldc2 (v := 12345) hx hb hown (hG.use (i := 504) (by decide +kernel) rfl _) dX3_drawLateness_21 ?_
        refine lv_ladd hx hb dX3_drawLateness_24 ?_
        refine lv_ldc2 (v := 2147483647) hx hb hown (hG.use (i := 505) (by decide +kernel) rfl _) dX3_drawLateness_25 ?_
        refine lv_land hx hb dX3_drawLateness_28 ?_
        refine lv_l2i hx hb dX3_drawLateness_29 rfl ?_
        refine lv_eqi (y := nI (sdN m9 (k + 1))) (nxS hsd) ?_
        refine lv_istore_n (lv' := [(2, .int (nI (sdN m9 (k + 1)))), (3, .int (nI k)), (0, .ref (ga G 0))]) hx hb dX3_drawLateness_30 rfl hl (by decide) rfl (fun ls hl => ?_)
        refine lv_aload_n hx hb dX3_drawLateness_31 rfl (lv_at hl 2 rfl) ?_
        refine rd_X3_26 hx hb hown hW dX3_drawLateness_32 ?_
        refine lv_iload_n hx hb dX3_drawLateness_35 rfl (lv_at hl 1 rfl) ?_
        refine lv_iload_n hx hb dX3_drawLateness_36 rfl (lv_at hl 0 rfl) ?_
        refine lv_ldc (v := 65536) hx hb hown (hG.use (i := 427) (by decide +kernel) rfl _) dX3_drawLateness_37 ?_
        refine ln_div (sdN m9 (k + 1)) 65536 hx hb rfl rfl (show nxN (sdN m9 k) < 2 ^ 31 from hnx) (by omega) (by omega) dX3_drawLateness_39 ?_
        refine lv_iconst (v := 4) hx hb dX3_drawLateness_40 (by decide) ?_
        refine ln_rem ((sdN m9 (k + 1)) / 65536) 4 hx hb rfl rfl (Nat.lt_of_le_of_lt (Nat.div_le_self _ _) hnx) (by omega) (by omega) dX3_drawLateness_41 ?_
        refine as_drawn (k := k) hx hb hW hS rfl (by omega) dX3_drawLateness_42 (fun H locs hW hS => ?_)
        obtain ⟨σ1, hσ1⟩ : ∃ z, z = up2 σw (3) k (nI (((sdN m9 (k + 1)) / 65536) % 4)) := ⟨_, rfl⟩
        rw [← hσ1] at hW
        refine lv_iinc (v := nI (k + 1)) (lv' := [(3, .int (nI (k + 1))), (2, .int (nI (sdN m9 (k + 1)))), (0, .ref (ga G 0))]) hx hb dX3_drawLateness_43 hl (k := 1) rfl (inc1 k) (by decide) rfl (fun ls hl => ?_)
        refine lv_goto (tgt := 4) hx hb dX3_drawLateness_46 (by decide) ?_
        exact ih_4 (k + 1) _ _ _ _ _ (by omega) rfl rfl (by omega) hW hS (by subst hσ1; exact dl_step hw0_4) (fun a ha => by subst hσ1; rw [up2_ne ha]; exact hw1_4 a ha) ls (lv_sub hl [1, 0, 2] rfl)
  exact loop_4 _ 0 _ _ _ _ _ (Nat.lt_succ_self _) rfl rfl (by omega) hW hS (fun i hi => absurd hi (by omega)) (fun _ _ => rfl) ls (lv_sub hl [1, 0, 2] rfl)
set_option maxHeartbeats 4000000 in
set_option maxRecDepth 100000 in
theorem c_X3_stick (l : Launch) (G : Gam) (σ : St) (n : Nat) (S : Nat → Sk) (q : Nat) (V : Nat → Nat) (ch : Int32) (hg : GH σ 0 n S q V ch) (x y : Int32) : Met l yX3_stick (w1 yX3_stick cX3_stick 4 (some .int)) ({ frames := 2, cells := 0, slots := 0, locals := 40 }) (PcX G σ [.ref (ga G 0), .int x, .int y]) (vp_Si (fun r => r = aStick n S x y)) 0 0 (fun _ => False) := by
  have hn6 := hg.1.2
  have hq8 := hg.2.2.1.2
  rcases hasB_c x (n := n) (by omega) with hx0 | ⟨k, hk, rfl⟩
  · skip
    refine met_of [.ref (ga G 0), .int x, .int y] [(0, .ref (ga G 0)), (1, .int x), (2, .int y)] (by decide) (Nat.le_of_ble_eq_true rfl) rfl ?_
    intro p e s m below meth c hx hb hr hown hml hlocks hW ls hl
    have hG : GW s := hW.2.2.2.1
    refine lv_aload_n hx hb dX3_stick_0 rfl (lv_at hl 0 rfl) ?_
    refine rd_X3_19 hx hb hown hW dX3_stick_1 ?_
    refine lv_iload_n hx hb dX3_stick_4 rfl (lv_at hl 1 rfl) ?_
    refine cr_i (q := 337) [.int x] hx hb hml hown hG v_X0_has (by decide +kernel) (c_X0_has l G σ 0 (by omega) n S q V ch hg (x)) (preH hW (show 0 < 2 by omega) _) rfl hl.1 (Nat.le_of_ble_eq_true rfl) dX3_stick_5 ⟨rfl, rfl, Nat.le_of_ble_eq_true rfl, Nat.le_of_ble_eq_true rfl⟩ ⟨Nat.le_of_ble_eq_true rfl, Nat.le_of_ble_eq_true rfl⟩ ?_
    refine lv_eqi (y := 0) (by rw [hx0]; rfl) ?_
    refine lv_if_ne (tgt := 14) hx hb dX3_stick_8 (by decide) (fun c_8 => ?_) (fun c_8 => ?_)
    · skip
      exact absurd (by decide) c_8
    · skip
      refine lv_bipush (v := (-101)) hx hb dX3_stick_11 (by decide) ?_
      exact W.iret (v := (-101)) hx hb hr (fun t9 ht9 hW9 => ⟨_, rfl, (wK_f hx0).symm, ht9⟩) (fun q h => by cases h) dX3_stick_13
  · skip
    rcases hasB_c y (n := 15) (by omega) with hy0 | ⟨t, ht, rfl⟩
    · skip
      refine met_of [.ref (ga G 0), .int (nI k), .int y] [(0, .ref (ga G 0)), (1, .int (nI k)), (2, .int y)] (by decide) (Nat.le_of_ble_eq_true rfl) rfl ?_
      intro p e s m below meth c hx hb hr hown hml hlocks hW ls hl
      have hG : GW s := hW.2.2.2.1
      refine lv_aload_n hx hb dX3_stick_0 rfl (lv_at hl 0 rfl) ?_
      refine rd_X3_19 hx hb hown hW dX3_stick_1 ?_
      refine lv_iload_n hx hb dX3_stick_4 rfl (lv_at hl 1 rfl) ?_
      refine cr_i (q := 337) [.int (nI k)] hx hb hml hown hG v_X0_has (by decide +kernel) (c_X0_has l G σ 0 (by omega) n S q V ch hg (nI k)) (preH hW (show 0 < 2 by omega) _) rfl hl.1 (Nat.le_of_ble_eq_true rfl) dX3_stick_5 ⟨rfl, rfl, Nat.le_of_ble_eq_true rfl, Nat.le_of_ble_eq_true rfl⟩ ⟨Nat.le_of_ble_eq_true rfl, Nat.le_of_ble_eq_true rfl⟩ ?_
      refine lv_eqi (y := 1) (by rw [hasB_k hk (by omega)]; rfl) ?_
      refine lv_if_ne (tgt := 14) hx hb dX3_stick_8 (by decide) (fun c_8 => ?_) (fun c_8 => ?_)
      · skip
        refine lv_aload_n hx hb dX3_stick_14 rfl (lv_at hl 0 rfl) ?_
        refine rd_X3_19 hx hb hown hW dX3_stick_15 ?_
        refine rd_X3_64 hx hb hown hW (show 0 < 2 by omega) dX3_stick_18 ?_
        refine lv_iload_n hx hb dX3_stick_21 rfl (lv_at hl 1 rfl) ?_
        refine al_sticks (k := k) hx hb hW (show 0 < 2 by omega) rfl (by omega) dX3_stick_22 ?_
        refine lv_astore_n (lv' := [(3, .ref (ga G (3 * (6 * 0 + k) + 14))), (0, .ref (ga G 0)), (1, .int (nI k)), (2, .int y)]) hx hb dX3_stick_23 rfl hl (by decide) rfl (fun ls hl => ?_)
        refine lv_iload_n hx hb dX3_stick_24 rfl (lv_at hl 3 rfl) ?_
        refine lv_bipush (v := 10) hx hb dX3_stick_25 (by decide) ?_
        refine lv_icmp_lt (tgt := 45) hx hb dX3_stick_27 (by decide) (fun c_27 => ?_) (fun c_27 => ?_)
        · skip
          refine lv_iload_n hx hb dX3_stick_45 rfl (lv_at hl 3 rfl) ?_
          refine lv_tableOut (tgt := 144) hx hb dX3_stick_46 (hB_out 15 6 (by omega) (by omega) hy0) (by decide) ?_
          refine lv_bipush (v := (-102)) hx hb dX3_stick_144 (by decide) ?_
          exact W.iret (v := (-102)) hx hb hr (fun t9 ht9 hW9 => ⟨_, rfl, (by rw [aStick, wK_k hk (by omega), wK_f hy0]), ht9⟩) (fun q h => by cases h) dX3_stick_146
        · skip
          refine lv_iload_n hx hb dX3_stick_30 rfl (lv_at hl 3 rfl) ?_
          refine lv_bipush (v := 15) hx hb dX3_stick_31 (by decide) ?_
          refine lv_icmp_ge (tgt := 45) hx hb dX3_stick_33 (by decide) (fun c_33 => ?_) (fun c_33 => ?_)
          · skip
            refine lv_iload_n hx hb dX3_stick_45 rfl (lv_at hl 3 rfl) ?_
            refine lv_tableOut (tgt := 144) hx hb dX3_stick_46 (hB_out 15 6 (by omega) (by omega) hy0) (by decide) ?_
            refine lv_bipush (v := (-102)) hx hb dX3_stick_144 (by decide) ?_
            exact W.iret (v := (-102)) hx hb hr (fun t9 ht9 hW9 => ⟨_, rfl, (by rw [aStick, wK_k hk (by omega), wK_f hy0]), ht9⟩) (fun q h => by cases h) dX3_stick_146
          · skip
            exact absurd (hB_of (nlt_mono 10 (by omega) c_27) c_33) (by rw [hy0]; decide)
      · skip
        exact absurd c_8 (by decide)
    · skip
      rcases sw15 ht with rfl | rfl | rfl | rfl | rfl | rfl | rfl | rfl | rfl | rfl | rfl | rfl | rfl | rfl | rfl
      · skip
        refine met_of [.ref (ga G 0), .int (nI k), .int 0] [(0, .ref (ga G 0)), (1, .int (nI k)), (2, .int 0)] (by decide) (Nat.le_of_ble_eq_true rfl) rfl ?_
        intro p e s m below meth c hx hb hr hown hml hlocks hW ls hl
        have hG : GW s := hW.2.2.2.1
        refine lv_aload_n hx hb dX3_stick_0 rfl (lv_at hl 0 rfl) ?_
        refine rd_X3_19 hx hb hown hW dX3_stick_1 ?_
        refine lv_iload_n hx hb dX3_stick_4 rfl (lv_at hl 1 rfl) ?_
        refine cr_i (q := 337) [.int (nI k)] hx hb hml hown hG v_X0_has (by decide +kernel) (c_X0_has l G σ 0 (by omega) n S q V ch hg (nI k)) (preH hW (show 0 < 2 by omega) _) rfl hl.1 (Nat.le_of_ble_eq_true rfl) dX3_stick_5 ⟨rfl, rfl, Nat.le_of_ble_eq_true rfl, Nat.le_of_ble_eq_true rfl⟩ ⟨Nat.le_of_ble_eq_true rfl, Nat.le_of_ble_eq_true rfl⟩ ?_
        refine lv_eqi (y := 1) (by rw [hasB_k hk (by omega)]; rfl) ?_
        refine lv_if_ne (tgt := 14) hx hb dX3_stick_8 (by decide) (fun c_8 => ?_) (fun c_8 => ?_)
        · skip
          refine lv_aload_n hx hb dX3_stick_14 rfl (lv_at hl 0 rfl) ?_
          refine rd_X3_19 hx hb hown hW dX3_stick_15 ?_
          refine rd_X3_64 hx hb hown hW (show 0 < 2 by omega) dX3_stick_18 ?_
          refine lv_iload_n hx hb dX3_stick_21 rfl (lv_at hl 1 rfl) ?_
          refine al_sticks (k := k) hx hb hW (show 0 < 2 by omega) rfl (by omega) dX3_stick_22 ?_
          refine lv_astore_n (lv' := [(3, .ref (ga G (3 * (6 * 0 + k) + 14))), (0, .ref (ga G 0)), (1, .int (nI k)), (2, .int 0)]) hx hb dX3_stick_23 rfl hl (by decide) rfl (fun ls hl => ?_)
          refine lv_iload_n hx hb dX3_stick_24 rfl (lv_at hl 3 rfl) ?_
          refine lv_bipush (v := 10) hx hb dX3_stick_25 (by decide) ?_
          refine lv_icmp_lt (tgt := 45) hx hb dX3_stick_27 (by decide) (fun c_27 => ?_) (fun c_27 => ?_)
          · skip
            refine lv_iload_n hx hb dX3_stick_45 rfl (lv_at hl 3 rfl) ?_
            refine lv_tableIn (off := 42) (tgt := 88) hx hb dX3_stick_46 (by decide) (by decide) rfl (by decide) ?_
            refine lv_aload_n hx hb dX3_stick_88 rfl (lv_at hl 0 rfl) ?_
            refine rd_X3_74 hx hb hown hW (by omega) dX3_stick_89 ?_
            refine lv_eqi (y := nI (S k 0)) (hg.2.2.2.1 k (by omega)).2.1.1 ?_
            exact W.iret (v := nI (S k 0)) hx hb hr (fun t9 ht9 hW9 => ⟨_, rfl, (by rw [aStick, wK_k hk (by omega)]; exact (wK_k (f := tellN (S k)) (by omega) (by omega)).symm), ht9⟩) (fun q h => by cases h) dX3_stick_92
          · skip
            exact absurd (by decide) c_27
        · skip
          exact absurd c_8 (by decide)
      · skip
        refine met_of [.ref (ga G 0), .int (nI k), .int 1] [(0, .ref (ga G 0)), (1, .int (nI k)), (2, .int 1)] (by decide) (Nat.le_of_ble_eq_true rfl) rfl ?_
        intro p e s m below meth c hx hb hr hown hml hlocks hW ls hl
        have hG : GW s := hW.2.2.2.1
        refine lv_aload_n hx hb dX3_stick_0 rfl (lv_at hl 0 rfl) ?_
        refine rd_X3_19 hx hb hown hW dX3_stick_1 ?_
        refine lv_iload_n hx hb dX3_stick_4 rfl (lv_at hl 1 rfl) ?_
        refine cr_i (q := 337) [.int (nI k)] hx hb hml hown hG v_X0_has (by decide +kernel) (c_X0_has l G σ 0 (by omega) n S q V ch hg (nI k)) (preH hW (show 0 < 2 by omega) _) rfl hl.1 (Nat.le_of_ble_eq_true rfl) dX3_stick_5 ⟨rfl, rfl, Nat.le_of_ble_eq_true rfl, Nat.le_of_ble_eq_true rfl⟩ ⟨Nat.le_of_ble_eq_true rfl, Nat.le_of_ble_eq_true rfl⟩ ?_
        refine lv_eqi (y := 1) (by rw [hasB_k hk (by omega)]; rfl) ?_
        refine lv_if_ne (tgt := 14) hx hb dX3_stick_8 (by decide) (fun c_8 => ?_) (fun c_8 => ?_)
        · skip
          refine lv_aload_n hx hb dX3_stick_14 rfl (lv_at hl 0 rfl) ?_
          refine rd_X3_19 hx hb hown hW dX3_stick_15 ?_
          refine rd_X3_64 hx hb hown hW (show 0 < 2 by omega) dX3_stick_18 ?_
          refine lv_iload_n hx hb dX3_stick_21 rfl (lv_at hl 1 rfl) ?_
          refine al_sticks (k := k) hx hb hW (show 0 < 2 by omega) rfl (by omega) dX3_stick_22 ?_
          refine lv_astore_n (lv' := [(3, .ref (ga G (3 * (6 * 0 + k) + 14))), (0, .ref (ga G 0)), (1, .int (nI k)), (2, .int 1)]) hx hb dX3_stick_23 rfl hl (by decide) rfl (fun ls hl => ?_)
          refine lv_iload_n hx hb dX3_stick_24 rfl (lv_at hl 3 rfl) ?_
          refine lv_bipush (v := 10) hx hb dX3_stick_25 (by decide) ?_
          refine lv_icmp_lt (tgt := 45) hx hb dX3_stick_27 (by decide) (fun c_27 => ?_) (fun c_27 => ?_)
          · skip
            refine lv_iload_n hx hb dX3_stick_45 rfl (lv_at hl 3 rfl) ?_
            refine lv_tableIn (off := 47) (tgt := 93) hx hb dX3_stick_46 (by decide) (by decide) rfl (by decide) ?_
            refine lv_aload_n hx hb dX3_stick_93 rfl (lv_at hl 0 rfl) ?_
            refine rd_X3_77 hx hb hown hW (by omega) dX3_stick_94 ?_
            refine lv_eqi (y := nI (S k 1)) (hg.2.2.2.1 k (by omega)).2.1.2.1 ?_
            exact W.iret (v := nI (S k 1)) hx hb hr (fun t9 ht9 hW9 => ⟨_, rfl, (by rw [aStick, wK_k hk (by omega)]; exact (wK_k (f := tellN (S k)) (by omega) (by omega)).symm), ht9⟩) (fun q h => by cases h) dX3_stick_97
          · skip
            exact absurd (by decide) c_27
        · skip
          exact absurd c_8 (by decide)
      · skip
        refine met_of [.ref (ga G 0), .int (nI k), .int 2] [(0, .ref (ga G 0)), (1, .int (nI k)), (2, .int 2)] (by decide) (Nat.le_of_ble_eq_true rfl) rfl ?_
        intro p e s m below meth c hx hb hr hown hml hlocks hW ls hl
        have hG : GW s := hW.2.2.2.1
        refine lv_aload_n hx hb dX3_stick_0 rfl (lv_at hl 0 rfl) ?_
        refine rd_X3_19 hx hb hown hW dX3_stick_1 ?_
        refine lv_iload_n hx hb dX3_stick_4 rfl (lv_at hl 1 rfl) ?_
        refine cr_i (q := 337) [.int (nI k)] hx hb hml hown hG v_X0_has (by decide +kernel) (c_X0_has l G σ 0 (by omega) n S q V ch hg (nI k)) (preH hW (show 0 < 2 by omega) _) rfl hl.1 (Nat.le_of_ble_eq_true rfl) dX3_stick_5 ⟨rfl, rfl, Nat.le_of_ble_eq_true rfl, Nat.le_of_ble_eq_true rfl⟩ ⟨Nat.le_of_ble_eq_true rfl, Nat.le_of_ble_eq_true rfl⟩ ?_
        refine lv_eqi (y := 1) (by rw [hasB_k hk (by omega)]; rfl) ?_
        refine lv_if_ne (tgt := 14) hx hb dX3_stick_8 (by decide) (fun c_8 => ?_) (fun c_8 => ?_)
        · skip
          refine lv_aload_n hx hb dX3_stick_14 rfl (lv_at hl 0 rfl) ?_
          refine rd_X3_19 hx hb hown hW dX3_stick_15 ?_
          refine rd_X3_64 hx hb hown hW (show 0 < 2 by omega) dX3_stick_18 ?_
          refine lv_iload_n hx hb dX3_stick_21 rfl (lv_at hl 1 rfl) ?_
          refine al_sticks (k := k) hx hb hW (show 0 < 2 by omega) rfl (by omega) dX3_stick_22 ?_
          refine lv_astore_n (lv' := [(3, .ref (ga G (3 * (6 * 0 + k) + 14))), (0, .ref (ga G 0)), (1, .int (nI k)), (2, .int 2)]) hx hb dX3_stick_23 rfl hl (by decide) rfl (fun ls hl => ?_)
          refine lv_iload_n hx hb dX3_stick_24 rfl (lv_at hl 3 rfl) ?_
          refine lv_bipush (v := 10) hx hb dX3_stick_25 (by decide) ?_
          refine lv_icmp_lt (tgt := 45) hx hb dX3_stick_27 (by decide) (fun c_27 => ?_) (fun c_27 => ?_)
          · skip
            refine lv_iload_n hx hb dX3_stick_45 rfl (lv_at hl 3 rfl) ?_
            refine lv_tableIn (off := 52) (tgt := 98) hx hb dX3_stick_46 (by decide) (by decide) rfl (by decide) ?_
            refine lv_aload_n hx hb dX3_stick_98 rfl (lv_at hl 0 rfl) ?_
            refine rd_X3_80 hx hb hown hW (by omega) dX3_stick_99 ?_
            refine lv_eqi (y := nI (S k 3)) (hg.2.2.2.1 k (by omega)).2.1.2.2.1 ?_
            exact W.iret (v := nI (S k 3)) hx hb hr (fun t9 ht9 hW9 => ⟨_, rfl, (by rw [aStick, wK_k hk (by omega)]; exact (wK_k (f := tellN (S k)) (by omega) (by omega)).symm), ht9⟩) (fun q h => by cases h) dX3_stick_102
          · skip
            exact absurd (by decide) c_27
        · skip
          exact absurd c_8 (by decide)
      · skip
        refine met_of [.ref (ga G 0), .int (nI k), .int 3] [(0, .ref (ga G 0)), (1, .int (nI k)), (2, .int 3)] (by decide) (Nat.le_of_ble_eq_true rfl) rfl ?_
        intro p e s m below meth c hx hb hr hown hml hlocks hW ls hl
        have hG : GW s := hW.2.2.2.1
        refine lv_aload_n hx hb dX3_stick_0 rfl (lv_at hl 0 rfl) ?_
        refine rd_X3_19 hx hb hown hW dX3_stick_1 ?_
        refine lv_iload_n hx hb dX3_stick_4 rfl (lv_at hl 1 rfl) ?_
        refine cr_i (q := 337) [.int (nI k)] hx hb hml hown hG v_X0_has (by decide +kernel) (c_X0_has l G σ 0 (by omega) n S q V ch hg (nI k)) (preH hW (show 0 < 2 by omega) _) rfl hl.1 (Nat.le_of_ble_eq_true rfl) dX3_stick_5 ⟨rfl, rfl, Nat.le_of_ble_eq_true rfl, Nat.le_of_ble_eq_true rfl⟩ ⟨Nat.le_of_ble_eq_true rfl, Nat.le_of_ble_eq_true rfl⟩ ?_
        refine lv_eqi (y := 1) (by rw [hasB_k hk (by omega)]; rfl) ?_
        refine lv_if_ne (tgt := 14) hx hb dX3_stick_8 (by decide) (fun c_8 => ?_) (fun c_8 => ?_)
        · skip
          refine lv_aload_n hx hb dX3_stick_14 rfl (lv_at hl 0 rfl) ?_
          refine rd_X3_19 hx hb hown hW dX3_stick_15 ?_
          refine rd_X3_64 hx hb hown hW (show 0 < 2 by omega) dX3_stick_18 ?_
          refine lv_iload_n hx hb dX3_stick_21 rfl (lv_at hl 1 rfl) ?_
          refine al_sticks (k := k) hx hb hW (show 0 < 2 by omega) rfl (by omega) dX3_stick_22 ?_
          refine lv_astore_n (lv' := [(3, .ref (ga G (3 * (6 * 0 + k) + 14))), (0, .ref (ga G 0)), (1, .int (nI k)), (2, .int 3)]) hx hb dX3_stick_23 rfl hl (by decide) rfl (fun ls hl => ?_)
          refine lv_iload_n hx hb dX3_stick_24 rfl (lv_at hl 3 rfl) ?_
          refine lv_bipush (v := 10) hx hb dX3_stick_25 (by decide) ?_
          refine lv_icmp_lt (tgt := 45) hx hb dX3_stick_27 (by decide) (fun c_27 => ?_) (fun c_27 => ?_)
          · skip
            refine lv_iload_n hx hb dX3_stick_45 rfl (lv_at hl 3 rfl) ?_
            refine lv_tableIn (off := 57) (tgt := 103) hx hb dX3_stick_46 (by decide) (by decide) rfl (by decide) ?_
            refine lv_aload_n hx hb dX3_stick_103 rfl (lv_at hl 1 rfl) ?_
            refine rd_X3_19 hx hb hown hW dX3_stick_104 ?_
            refine rd_X3_83 hx hb hown hW (show 0 < 2 by omega) dX3_stick_107 ?_
            refine lv_iload_n hx hb dX3_stick_110 rfl (lv_at hl 2 rfl) ?_
            refine al_lateBy (k := k) hx hb hW (show 0 < 2 by omega) rfl (by omega) dX3_stick_111 ?_
            refine lv_eqi (y := nI (S k 2)) (hg.2.2.2.1 k (by omega)).2.2.2.1 ?_
            exact W.iret (v := nI (S k 2)) hx hb hr (fun t9 ht9 hW9 => ⟨_, rfl, (by rw [aStick, wK_k hk (by omega)]; exact (wK_k (f := tellN (S k)) (by omega) (by omega)).symm), ht9⟩) (fun q h => by cases h) dX3_stick_112
          · skip
            exact absurd (by decide) c_27
        · skip
          exact absurd c_8 (by decide)
      · skip
        refine met_of [.ref (ga G 0), .int (nI k), .int 4] [(0, .ref (ga G 0)), (1, .int (nI k)), (2, .int 4)] (by decide) (Nat.le_of_ble_eq_true rfl) rfl ?_
        intro p e s m below meth c hx hb hr hown hml hlocks hW ls hl
        have hG : GW s := hW.2.2.2.1
        refine lv_aload_n hx hb dX3_stick_0 rfl (lv_at hl 0 rfl) ?_
        refine rd_X3_19 hx hb hown hW dX3_stick_1 ?_
        refine lv_iload_n hx hb dX3_stick_4 rfl (lv_at hl 1 rfl) ?_
        refine cr_i (q := 337) [.int (nI k)] hx hb hml hown hG v_X0_has (by decide +kernel) (c_X0_has l G σ 0 (by omega) n S q V ch hg (nI k)) (preH hW (show 0 < 2 by omega) _) rfl hl.1 (Nat.le_of_ble_eq_true rfl) dX3_stick_5 ⟨rfl, rfl, Nat.le_of_ble_eq_true rfl, Nat.le_of_ble_eq_true rfl⟩ ⟨Nat.le_of_ble_eq_true rfl, Nat.le_of_ble_eq_true rfl⟩ ?_
        refine lv_eqi (y := 1) (by rw [hasB_k hk (by omega)]; rfl) ?_
        refine lv_if_ne (tgt := 14) hx hb dX3_stick_8 (by decide) (fun c_8 => ?_) (fun c_8 => ?_)
        · skip
          refine lv_aload_n hx hb dX3_stick_14 rfl (lv_at hl 0 rfl) ?_
          refine rd_X3_19 hx hb hown hW dX3_stick_15 ?_
          refine rd_X3_64 hx hb hown hW (show 0 < 2 by omega) dX3_stick_18 ?_
          refine lv_iload_n hx hb dX3_stick_21 rfl (lv_at hl 1 rfl) ?_
          refine al_sticks (k := k) hx hb hW (show 0 < 2 by omega) rfl (by omega) dX3_stick_22 ?_
          refine lv_astore_n (lv' := [(3, .ref (ga G (3 * (6 * 0 + k) + 14))), (0, .ref (ga G 0)), (1, .int (nI k)), (2, .int 4)]) hx hb dX3_stick_23 rfl hl (by decide) rfl (fun ls hl => ?_)
          refine lv_iload_n hx hb dX3_stick_24 rfl (lv_at hl 3 rfl) ?_
          refine lv_bipush (v := 10) hx hb dX3_stick_25 (by decide) ?_
          refine lv_icmp_lt (tgt := 45) hx hb dX3_stick_27 (by decide) (fun c_27 => ?_) (fun c_27 => ?_)
          · skip
            refine lv_iload_n hx hb dX3_stick_45 rfl (lv_at hl 3 rfl) ?_
            refine lv_tableIn (off := 67) (tgt := 113) hx hb dX3_stick_46 (by decide) (by decide) rfl (by decide) ?_
            refine lv_aload_n hx hb dX3_stick_113 rfl (lv_at hl 1 rfl) ?_
            refine rd_X3_19 hx hb hown hW dX3_stick_114 ?_
            refine rd_X3_83 hx hb hown hW (show 0 < 2 by omega) dX3_stick_117 ?_
            refine lv_iload_n hx hb dX3_stick_120 rfl (lv_at hl 2 rfl) ?_
            refine al_lateBy (k := k) hx hb hW (show 0 < 2 by omega) rfl (by omega) dX3_stick_121 ?_
            refine lv_eqi (y := nI (S k 2)) (hg.2.2.2.1 k (by omega)).2.2.2.1 ?_
            refine lv_aload_n hx hb dX3_stick_122 rfl (lv_at hl 0 rfl) ?_
            refine cr_i (q := 345) [] hx hb hml hown hG v_X2_hoursOfWalk (by decide +kernel) (c_X2_hoursOfWalk l G σ (6 * 0 + k) (by omega) (S k) (hg.2.2.2.1 k hk).1 (hg.2.2.2.1 k hk).2.1) (preK hW (by omega) _) rfl hl.1 (Nat.le_of_ble_eq_true rfl) dX3_stick_123 ⟨rfl, rfl, Nat.le_of_ble_eq_true rfl, Nat.le_of_ble_eq_true rfl⟩ ⟨Nat.le_of_ble_eq_true rfl, Nat.le_of_ble_eq_true rfl⟩ ?_
            refine ln_add (S k 2) (hwN (S k 0) (S k 3)) hx hb rfl rfl dX3_stick_126 ?_
            exact W.iret (v := nI ((S k 2) + (hwN (S k 0) (S k 3)))) hx hb hr (fun t9 ht9 hW9 => ⟨_, rfl, (by rw [aStick, wK_k hk (by omega)]; exact (wK_k (f := tellN (S k)) (by omega) (by omega)).symm), ht9⟩) (fun q h => by cases h) dX3_stick_127
          · skip
            exact absurd (by decide) c_27
        · skip
          exact absurd c_8 (by decide)
      · skip
        refine met_of [.ref (ga G 0), .int (nI k), .int 5] [(0, .ref (ga G 0)), (1, .int (nI k)), (2, .int 5)] (by decide) (Nat.le_of_ble_eq_true rfl) rfl ?_
        intro p e s m below meth c hx hb hr hown hml hlocks hW ls hl
        have hG : GW s := hW.2.2.2.1
        refine lv_aload_n hx hb dX3_stick_0 rfl (lv_at hl 0 rfl) ?_
        refine rd_X3_19 hx hb hown hW dX3_stick_1 ?_
        refine lv_iload_n hx hb dX3_stick_4 rfl (lv_at hl 1 rfl) ?_
        refine cr_i (q := 337) [.int (nI k)] hx hb hml hown hG v_X0_has (by decide +kernel) (c_X0_has l G σ 0 (by omega) n S q V ch hg (nI k)) (preH hW (show 0 < 2 by omega) _) rfl hl.1 (Nat.le_of_ble_eq_true rfl) dX3_stick_5 ⟨rfl, rfl, Nat.le_of_ble_eq_true rfl, Nat.le_of_ble_eq_true rfl⟩ ⟨Nat.le_of_ble_eq_true rfl, Nat.le_of_ble_eq_true rfl⟩ ?_
        refine lv_eqi (y := 1) (by rw [hasB_k hk (by omega)]; rfl) ?_
        refine lv_if_ne (tgt := 14) hx hb dX3_stick_8 (by decide) (fun c_8 => ?_) (fun c_8 => ?_)
        · skip
          refine lv_aload_n hx hb dX3_stick_14 rfl (lv_at hl 0 rfl) ?_
          refine rd_X3_19 hx hb hown hW dX3_stick_15 ?_
          refine rd_X3_64 hx hb hown hW (show 0 < 2 by omega) dX3_stick_18 ?_
          refine lv_iload_n hx hb dX3_stick_21 rfl (lv_at hl 1 rfl) ?_
          refine al_sticks (k := k) hx hb hW (show 0 < 2 by omega) rfl (by omega) dX3_stick_22 ?_
          refine lv_astore_n (lv' := [(3, .ref (ga G (3 * (6 * 0 + k) + 14))), (0, .ref (ga G 0)), (1, .int (nI k)), (2, .int 5)]) hx hb dX3_stick_23 rfl hl (by decide) rfl (fun ls hl => ?_)
          refine lv_iload_n hx hb dX3_stick_24 rfl (lv_at hl 3 rfl) ?_
          refine lv_bipush (v := 10) hx hb dX3_stick_25 (by decide) ?_
          refine lv_icmp_lt (tgt := 45) hx hb dX3_stick_27 (by decide) (fun c_27 => ?_) (fun c_27 => ?_)
          · skip
            refine lv_iload_n hx hb dX3_stick_45 rfl (lv_at hl 3 rfl) ?_
            refine lv_tableIn (off := 82) (tgt := 128) hx hb dX3_stick_46 (by decide) (by decide) rfl (by decide) ?_
            refine lv_aload_n hx hb dX3_stick_128 rfl (lv_at hl 0 rfl) ?_
            refine rd_X3_89 hx hb hown hW (by omega) dX3_stick_129 ?_
            refine lv_bipush (v := 30) hx hb dX3_stick_132 (by decide) ?_
            refine al_trail (k := 30) hx hb hW (by omega) rfl (by omega) dX3_stick_134 ?_
            refine lv_eqi (y := nI (posN (S k) 30)) ((hg.2.2.2.1 k (by omega)).2.2.1.1 30 (by omega)) ?_
            exact W.iret (v := nI (posN (S k) 30)) hx hb hr (fun t9 ht9 hW9 => ⟨_, rfl, (by rw [aStick, wK_k hk (by omega)]; exact (wK_k (f := tellN (S k)) (by omega) (by omega)).symm), ht9⟩) (fun q h => by cases h) dX3_stick_135
          · skip
            exact absurd (by decide) c_27
        · skip
          exact absurd c_8 (by decide)
      · skip
        refine met_of [.ref (ga G 0), .int (nI k), .int 6] [(0, .ref (ga G 0)), (1, .int (nI k)), (2, .int 6)] (by decide) (Nat.le_of_ble_eq_true rfl) rfl ?_
        intro p e s m below meth c hx hb hr hown hml hlocks hW ls hl
        have hG : GW s := hW.2.2.2.1
        refine lv_aload_n hx hb dX3_stick_0 rfl (lv_at hl 0 rfl) ?_
        refine rd_X3_19 hx hb hown hW dX3_stick_1 ?_
        refine lv_iload_n hx hb dX3_stick_4 rfl (lv_at hl 1 rfl) ?_
        refine cr_i (q := 337) [.int (nI k)] hx hb hml hown hG v_X0_has (by decide +kernel) (c_X0_has l G σ 0 (by omega) n S q V ch hg (nI k)) (preH hW (show 0 < 2 by omega) _) rfl hl.1 (Nat.le_of_ble_eq_true rfl) dX3_stick_5 ⟨rfl, rfl, Nat.le_of_ble_eq_true rfl, Nat.le_of_ble_eq_true rfl⟩ ⟨Nat.le_of_ble_eq_true rfl, Nat.le_of_ble_eq_true rfl⟩ ?_
        refine lv_eqi (y := 1) (by rw [hasB_k hk (by omega)]; rfl) ?_
        refine lv_if_ne (tgt := 14) hx hb dX3_stick_8 (by decide) (fun c_8 => ?_) (fun c_8 => ?_)
        · skip
          refine lv_aload_n hx hb dX3_stick_14 rfl (lv_at hl 0 rfl) ?_
          refine rd_X3_19 hx hb hown hW dX3_stick_15 ?_
          refine rd_X3_64 hx hb hown hW (show 0 < 2 by omega) dX3_stick_18 ?_
          refine lv_iload_n hx hb dX3_stick_21 rfl (lv_at hl 1 rfl) ?_
          refine al_sticks (k := k) hx hb hW (show 0 < 2 by omega) rfl (by omega) dX3_stick_22 ?_
          refine lv_astore_n (lv' := [(3, .ref (ga G (3 * (6 * 0 + k) + 14))), (0, .ref (ga G 0)), (1, .int (nI k)), (2, .int 6)]) hx hb dX3_stick_23 rfl hl (by decide) rfl (fun ls hl => ?_)
          refine lv_iload_n hx hb dX3_stick_24 rfl (lv_at hl 3 rfl) ?_
          refine lv_bipush (v := 10) hx hb dX3_stick_25 (by decide) ?_
          refine lv_icmp_lt (tgt := 45) hx hb dX3_stick_27 (by decide) (fun c_27 => ?_) (fun c_27 => ?_)
          · skip
            refine lv_iload_n hx hb dX3_stick_45 rfl (lv_at hl 3 rfl) ?_
            refine lv_tableIn (off := 90) (tgt := 136) hx hb dX3_stick_46 (by decide) (by decide) rfl (by decide) ?_
            refine lv_aload_n hx hb dX3_stick_136 rfl (lv_at hl 0 rfl) ?_
            refine rd_X3_92 hx hb hown hW (by omega) dX3_stick_137 ?_
            refine lv_eqi (y := nI (orN (posN (S k)) 31)) (hg.2.2.2.1 k (by omega)).2.2.1.2 ?_
            refine cs_i (q := 346) [.int (nI (orN (posN (S k)) 31))] hx hb hml hown hG v_J6_bitCount_0f7a4 (by decide +kernel) (c_J6_bitCount l (orN (posN (S k)) 31) (orN_lt (posN_lt (hg.2.2.2.1 k hk).1) 31)) (preG hG _) rfl hl.1 (Nat.le_of_ble_eq_true rfl) dX3_stick_140 ⟨rfl, rfl, Nat.le_of_ble_eq_true rfl, Nat.le_of_ble_eq_true rfl⟩ ⟨Nat.le_of_ble_eq_true rfl, Nat.le_of_ble_eq_true rfl⟩ ?_
            exact W.iret (v := nI (popN (orN (posN (S k)) 31))) hx hb hr (fun t9 ht9 hW9 => ⟨_, rfl, (by rw [aStick, wK_k hk (by omega)]; exact (wK_k (f := tellN (S k)) (by omega) (by omega)).symm), ht9⟩) (fun q h => by cases h) dX3_stick_143
          · skip
            exact absurd (by decide) c_27
        · skip
          exact absurd c_8 (by decide)
      · skip
        refine met_of [.ref (ga G 0), .int (nI k), .int 7] [(0, .ref (ga G 0)), (1, .int (nI k)), (2, .int 7)] (by decide) (Nat.le_of_ble_eq_true rfl) rfl ?_
        intro p e s m below meth c hx hb hr hown hml hlocks hW ls hl
        have hG : GW s := hW.2.2.2.1
        refine lv_aload_n hx hb dX3_stick_0 rfl (lv_at hl 0 rfl) ?_
        refine rd_X3_19 hx hb hown hW dX3_stick_1 ?_
        refine lv_iload_n hx hb dX3_stick_4 rfl (lv_at hl 1 rfl) ?_
        refine cr_i (q := 337) [.int (nI k)] hx hb hml hown hG v_X0_has (by decide +kernel) (c_X0_has l G σ 0 (by omega) n S q V ch hg (nI k)) (preH hW (show 0 < 2 by omega) _) rfl hl.1 (Nat.le_of_ble_eq_true rfl) dX3_stick_5 ⟨rfl, rfl, Nat.le_of_ble_eq_true rfl, Nat.le_of_ble_eq_true rfl⟩ ⟨Nat.le_of_ble_eq_true rfl, Nat.le_of_ble_eq_true rfl⟩ ?_
        refine lv_eqi (y := 1) (by rw [hasB_k hk (by omega)]; rfl) ?_
        refine lv_if_ne (tgt := 14) hx hb dX3_stick_8 (by decide) (fun c_8 => ?_) (fun c_8 => ?_)
        · skip
          refine lv_aload_n hx hb dX3_stick_14 rfl (lv_at hl 0 rfl) ?_
          refine rd_X3_19 hx hb hown hW dX3_stick_15 ?_
          refine rd_X3_64 hx hb hown hW (show 0 < 2 by omega) dX3_stick_18 ?_
          refine lv_iload_n hx hb dX3_stick_21 rfl (lv_at hl 1 rfl) ?_
          refine al_sticks (k := k) hx hb hW (show 0 < 2 by omega) rfl (by omega) dX3_stick_22 ?_
          refine lv_astore_n (lv' := [(3, .ref (ga G (3 * (6 * 0 + k) + 14))), (0, .ref (ga G 0)), (1, .int (nI k)), (2, .int 7)]) hx hb dX3_stick_23 rfl hl (by decide) rfl (fun ls hl => ?_)
          refine lv_iload_n hx hb dX3_stick_24 rfl (lv_at hl 3 rfl) ?_
          refine lv_bipush (v := 10) hx hb dX3_stick_25 (by decide) ?_
          refine lv_icmp_lt (tgt := 45) hx hb dX3_stick_27 (by decide) (fun c_27 => ?_) (fun c_27 => ?_)
          · skip
            refine lv_iload_n hx hb dX3_stick_45 rfl (lv_at hl 3 rfl) ?_
            refine lv_tableOut (tgt := 144) hx hb dX3_stick_46 (by decide) (by decide) ?_
            refine lv_bipush (v := (-102)) hx hb dX3_stick_144 (by decide) ?_
            exact W.iret (v := (-102)) hx hb hr (fun t9 ht9 hW9 => ⟨_, rfl, (by rw [aStick, wK_k hk (by omega)]; exact (wK_k (f := tellN (S k)) (by omega) (by omega)).symm), ht9⟩) (fun q h => by cases h) dX3_stick_146
          · skip
            exact absurd (by decide) c_27
        · skip
          exact absurd c_8 (by decide)
      · skip
        refine met_of [.ref (ga G 0), .int (nI k), .int 8] [(0, .ref (ga G 0)), (1, .int (nI k)), (2, .int 8)] (by decide) (Nat.le_of_ble_eq_true rfl) rfl ?_
        intro p e s m below meth c hx hb hr hown hml hlocks hW ls hl
        have hG : GW s := hW.2.2.2.1
        refine lv_aload_n hx hb dX3_stick_0 rfl (lv_at hl 0 rfl) ?_
        refine rd_X3_19 hx hb hown hW dX3_stick_1 ?_
        refine lv_iload_n hx hb dX3_stick_4 rfl (lv_at hl 1 rfl) ?_
        refine cr_i (q := 337) [.int (nI k)] hx hb hml hown hG v_X0_has (by decide +kernel) (c_X0_has l G σ 0 (by omega) n S q V ch hg (nI k)) (preH hW (show 0 < 2 by omega) _) rfl hl.1 (Nat.le_of_ble_eq_true rfl) dX3_stick_5 ⟨rfl, rfl, Nat.le_of_ble_eq_true rfl, Nat.le_of_ble_eq_true rfl⟩ ⟨Nat.le_of_ble_eq_true rfl, Nat.le_of_ble_eq_true rfl⟩ ?_
        refine lv_eqi (y := 1) (by rw [hasB_k hk (by omega)]; rfl) ?_
        refine lv_if_ne (tgt := 14) hx hb dX3_stick_8 (by decide) (fun c_8 => ?_) (fun c_8 => ?_)
        · skip
          refine lv_aload_n hx hb dX3_stick_14 rfl (lv_at hl 0 rfl) ?_
          refine rd_X3_19 hx hb hown hW dX3_stick_15 ?_
          refine rd_X3_64 hx hb hown hW (show 0 < 2 by omega) dX3_stick_18 ?_
          refine lv_iload_n hx hb dX3_stick_21 rfl (lv_at hl 1 rfl) ?_
          refine al_sticks (k := k) hx hb hW (show 0 < 2 by omega) rfl (by omega) dX3_stick_22 ?_
          refine lv_astore_n (lv' := [(3, .ref (ga G (3 * (6 * 0 + k) + 14))), (0, .ref (ga G 0)), (1, .int (nI k)), (2, .int 8)]) hx hb dX3_stick_23 rfl hl (by decide) rfl (fun ls hl => ?_)
          refine lv_iload_n hx hb dX3_stick_24 rfl (lv_at hl 3 rfl) ?_
          refine lv_bipush (v := 10) hx hb dX3_stick_25 (by decide) ?_
          refine lv_icmp_lt (tgt := 45) hx hb dX3_stick_27 (by decide) (fun c_27 => ?_) (fun c_27 => ?_)
          · skip
            refine lv_iload_n hx hb dX3_stick_45 rfl (lv_at hl 3 rfl) ?_
            refine lv_tableOut (tgt := 144) hx hb dX3_stick_46 (by decide) (by decide) ?_
            refine lv_bipush (v := (-102)) hx hb dX3_stick_144 (by decide) ?_
            exact W.iret (v := (-102)) hx hb hr (fun t9 ht9 hW9 => ⟨_, rfl, (by rw [aStick, wK_k hk (by omega)]; exact (wK_k (f := tellN (S k)) (by omega) (by omega)).symm), ht9⟩) (fun q h => by cases h) dX3_stick_146
          · skip
            exact absurd (by decide) c_27
        · skip
          exact absurd c_8 (by decide)
      · skip
        refine met_of [.ref (ga G 0), .int (nI k), .int 9] [(0, .ref (ga G 0)), (1, .int (nI k)), (2, .int 9)] (by decide) (Nat.le_of_ble_eq_true rfl) rfl ?_
        intro p e s m below meth c hx hb hr hown hml hlocks hW ls hl
        have hG : GW s := hW.2.2.2.1
        refine lv_aload_n hx hb dX3_stick_0 rfl (lv_at hl 0 rfl) ?_
        refine rd_X3_19 hx hb hown hW dX3_stick_1 ?_
        refine lv_iload_n hx hb dX3_stick_4 rfl (lv_at hl 1 rfl) ?_
        refine cr_i (q := 337) [.int (nI k)] hx hb hml hown hG v_X0_has (by decide +kernel) (c_X0_has l G σ 0 (by omega) n S q V ch hg (nI k)) (preH hW (show 0 < 2 by omega) _) rfl hl.1 (Nat.le_of_ble_eq_true rfl) dX3_stick_5 ⟨rfl, rfl, Nat.le_of_ble_eq_true rfl, Nat.le_of_ble_eq_true rfl⟩ ⟨Nat.le_of_ble_eq_true rfl, Nat.le_of_ble_eq_true rfl⟩ ?_
        refine lv_eqi (y := 1) (by rw [hasB_k hk (by omega)]; rfl) ?_
        refine lv_if_ne (tgt := 14) hx hb dX3_stick_8 (by decide) (fun c_8 => ?_) (fun c_8 => ?_)
        · skip
          refine lv_aload_n hx hb dX3_stick_14 rfl (lv_at hl 0 rfl) ?_
          refine rd_X3_19 hx hb hown hW dX3_stick_15 ?_
          refine rd_X3_64 hx hb hown hW (show 0 < 2 by omega) dX3_stick_18 ?_
          refine lv_iload_n hx hb dX3_stick_21 rfl (lv_at hl 1 rfl) ?_
          refine al_sticks (k := k) hx hb hW (show 0 < 2 by omega) rfl (by omega) dX3_stick_22 ?_
          refine lv_astore_n (lv' := [(3, .ref (ga G (3 * (6 * 0 + k) + 14))), (0, .ref (ga G 0)), (1, .int (nI k)), (2, .int 9)]) hx hb dX3_stick_23 rfl hl (by decide) rfl (fun ls hl => ?_)
          refine lv_iload_n hx hb dX3_stick_24 rfl (lv_at hl 3 rfl) ?_
          refine lv_bipush (v := 10) hx hb dX3_stick_25 (by decide) ?_
          refine lv_icmp_lt (tgt := 45) hx hb dX3_stick_27 (by decide) (fun c_27 => ?_) (fun c_27 => ?_)
          · skip
            refine lv_iload_n hx hb dX3_stick_45 rfl (lv_at hl 3 rfl) ?_
            refine lv_tableOut (tgt := 144) hx hb dX3_stick_46 (by decide) (by decide) ?_
            refine lv_bipush (v := (-102)) hx hb dX3_stick_144 (by decide) ?_
            exact W.iret (v := (-102)) hx hb hr (fun t9 ht9 hW9 => ⟨_, rfl, (by rw [aStick, wK_k hk (by omega)]; exact (wK_k (f := tellN (S k)) (by omega) (by omega)).symm), ht9⟩) (fun q h => by cases h) dX3_stick_146
          · skip
            exact absurd (by decide) c_27
        · skip
          exact absurd c_8 (by decide)
      · skip
        refine met_of [.ref (ga G 0), .int (nI k), .int 10] [(0, .ref (ga G 0)), (1, .int (nI k)), (2, .int 10)] (by decide) (Nat.le_of_ble_eq_true rfl) rfl ?_
        intro p e s m below meth c hx hb hr hown hml hlocks hW ls hl
        have hG : GW s := hW.2.2.2.1
        refine lv_aload_n hx hb dX3_stick_0 rfl (lv_at hl 0 rfl) ?_
        refine rd_X3_19 hx hb hown hW dX3_stick_1 ?_
        refine lv_iload_n hx hb dX3_stick_4 rfl (lv_at hl 1 rfl) ?_
        refine cr_i (q := 337) [.int (nI k)] hx hb hml hown hG v_X0_has (by decide +kernel) (c_X0_has l G σ 0 (by omega) n S q V ch hg (nI k)) (preH hW (show 0 < 2 by omega) _) rfl hl.1 (Nat.le_of_ble_eq_true rfl) dX3_stick_5 ⟨rfl, rfl, Nat.le_of_ble_eq_true rfl, Nat.le_of_ble_eq_true rfl⟩ ⟨Nat.le_of_ble_eq_true rfl, Nat.le_of_ble_eq_true rfl⟩ ?_
        refine lv_eqi (y := 1) (by rw [hasB_k hk (by omega)]; rfl) ?_
        refine lv_if_ne (tgt := 14) hx hb dX3_stick_8 (by decide) (fun c_8 => ?_) (fun c_8 => ?_)
        · skip
          refine lv_aload_n hx hb dX3_stick_14 rfl (lv_at hl 0 rfl) ?_
          refine rd_X3_19 hx hb hown hW dX3_stick_15 ?_
          refine rd_X3_64 hx hb hown hW (show 0 < 2 by omega) dX3_stick_18 ?_
          refine lv_iload_n hx hb dX3_stick_21 rfl (lv_at hl 1 rfl) ?_
          refine al_sticks (k := k) hx hb hW (show 0 < 2 by omega) rfl (by omega) dX3_stick_22 ?_
          refine lv_astore_n (lv' := [(3, .ref (ga G (3 * (6 * 0 + k) + 14))), (0, .ref (ga G 0)), (1, .int (nI k)), (2, .int 10)]) hx hb dX3_stick_23 rfl hl (by decide) rfl (fun ls hl => ?_)
          refine lv_iload_n hx hb dX3_stick_24 rfl (lv_at hl 3 rfl) ?_
          refine lv_bipush (v := 10) hx hb dX3_stick_25 (by decide) ?_
          refine lv_icmp_lt (tgt := 45) hx hb dX3_stick_27 (by decide) (fun c_27 => ?_) (fun c_27 => ?_)
          · skip
            exact absurd c_27 (by decide)
          · skip
            refine lv_iload_n hx hb dX3_stick_30 rfl (lv_at hl 3 rfl) ?_
            refine lv_bipush (v := 15) hx hb dX3_stick_31 (by decide) ?_
            refine lv_icmp_ge (tgt := 45) hx hb dX3_stick_33 (by decide) (fun c_33 => ?_) (fun c_33 => ?_)
            · skip
              exact absurd c_33 (by decide)
            · skip
              refine lv_aload_n hx hb dX3_stick_36 rfl (lv_at hl 0 rfl) ?_
              refine lv_iload_n hx hb dX3_stick_37 rfl (lv_at hl 3 rfl) ?_
              refine lv_bipush (v := 10) hx hb dX3_stick_38 (by decide) ?_
              refine ln_sub 10 10 hx hb rfl rfl (by omega) dX3_stick_40 ?_
              refine lv_eqi (y := 0) rfl ?_
              refine cr_i (q := 341) [.int 0] hx hb hml hown hG v_X2_stepOrNone (by decide +kernel) (c_X2_stepOrNone l G σ (6 * 0 + k) (by omega) (S k) (hg.2.2.2.1 k hk).1 (hg.2.2.2.1 k hk).2.1 0 (by omega)) (preK hW (by omega) _) rfl hl.1 (Nat.le_of_ble_eq_true rfl) dX3_stick_41 ⟨rfl, rfl, Nat.le_of_ble_eq_true rfl, Nat.le_of_ble_eq_true rfl⟩ ⟨Nat.le_of_ble_eq_true rfl, Nat.le_of_ble_eq_true rfl⟩ ?_
              exact W.iret (v := (if 0 < S k 3 then nI (S k (4 + 0)) else -1)) hx hb hr (fun t9 ht9 hW9 => ⟨_, rfl, (by rw [aStick, wK_k hk (by omega)]; exact (wK_k (f := tellN (S k)) (by omega) (by omega)).symm), ht9⟩) (fun q h => by cases h) dX3_stick_44
        · skip
          exact absurd c_8 (by decide)
      · skip
        refine met_of [.ref (ga G 0), .int (nI k), .int 11] [(0, .ref (ga G 0)), (1, .int (nI k)), (2, .int 11)] (by decide) (Nat.le_of_ble_eq_true rfl) rfl ?_
        intro p e s m below meth c hx hb hr hown hml hlocks hW ls hl
        have hG : GW s := hW.2.2.2.1
        refine lv_aload_n hx hb dX3_stick_0 rfl (lv_at hl 0 rfl) ?_
        refine rd_X3_19 hx hb hown hW dX3_stick_1 ?_
        refine lv_iload_n hx hb dX3_stick_4 rfl (lv_at hl 1 rfl) ?_
        refine cr_i (q := 337) [.int (nI k)] hx hb hml hown hG v_X0_has (by decide +kernel) (c_X0_has l G σ 0 (by omega) n S q V ch hg (nI k)) (preH hW (show 0 < 2 by omega) _) rfl hl.1 (Nat.le_of_ble_eq_true rfl) dX3_stick_5 ⟨rfl, rfl, Nat.le_of_ble_eq_true rfl, Nat.le_of_ble_eq_true rfl⟩ ⟨Nat.le_of_ble_eq_true rfl, Nat.le_of_ble_eq_true rfl⟩ ?_
        refine lv_eqi (y := 1) (by rw [hasB_k hk (by omega)]; rfl) ?_
        refine lv_if_ne (tgt := 14) hx hb dX3_stick_8 (by decide) (fun c_8 => ?_) (fun c_8 => ?_)
        · skip
          refine lv_aload_n hx hb dX3_stick_14 rfl (lv_at hl 0 rfl) ?_
          refine rd_X3_19 hx hb hown hW dX3_stick_15 ?_
          refine rd_X3_64 hx hb hown hW (show 0 < 2 by omega) dX3_stick_18 ?_
          refine lv_iload_n hx hb dX3_stick_21 rfl (lv_at hl 1 rfl) ?_
          refine al_sticks (k := k) hx hb hW (show 0 < 2 by omega) rfl (by omega) dX3_stick_22 ?_
          refine lv_astore_n (lv' := [(3, .ref (ga G (3 * (6 * 0 + k) + 14))), (0, .ref (ga G 0)), (1, .int (nI k)), (2, .int 11)]) hx hb dX3_stick_23 rfl hl (by decide) rfl (fun ls hl => ?_)
          refine lv_iload_n hx hb dX3_stick_24 rfl (lv_at hl 3 rfl) ?_
          refine lv_bipush (v := 10) hx hb dX3_stick_25 (by decide) ?_
          refine lv_icmp_lt (tgt := 45) hx hb dX3_stick_27 (by decide) (fun c_27 => ?_) (fun c_27 => ?_)
          · skip
            exact absurd c_27 (by decide)
          · skip
            refine lv_iload_n hx hb dX3_stick_30 rfl (lv_at hl 3 rfl) ?_
            refine lv_bipush (v := 15) hx hb dX3_stick_31 (by decide) ?_
            refine lv_icmp_ge (tgt := 45) hx hb dX3_stick_33 (by decide) (fun c_33 => ?_) (fun c_33 => ?_)
            · skip
              exact absurd c_33 (by decide)
            · skip
              refine lv_aload_n hx hb dX3_stick_36 rfl (lv_at hl 0 rfl) ?_
              refine lv_iload_n hx hb dX3_stick_37 rfl (lv_at hl 3 rfl) ?_
              refine lv_bipush (v := 10) hx hb dX3_stick_38 (by decide) ?_
              refine ln_sub 11 10 hx hb rfl rfl (by omega) dX3_stick_40 ?_
              refine lv_eqi (y := 1) rfl ?_
              refine cr_i (q := 341) [.int 1] hx hb hml hown hG v_X2_stepOrNone (by decide +kernel) (c_X2_stepOrNone l G σ (6 * 0 + k) (by omega) (S k) (hg.2.2.2.1 k hk).1 (hg.2.2.2.1 k hk).2.1 1 (by omega)) (preK hW (by omega) _) rfl hl.1 (Nat.le_of_ble_eq_true rfl) dX3_stick_41 ⟨rfl, rfl, Nat.le_of_ble_eq_true rfl, Nat.le_of_ble_eq_true rfl⟩ ⟨Nat.le_of_ble_eq_true rfl, Nat.le_of_ble_eq_true rfl⟩ ?_
              exact W.iret (v := (if 1 < S k 3 then nI (S k (4 + 1)) else -1)) hx hb hr (fun t9 ht9 hW9 => ⟨_, rfl, (by rw [aStick, wK_k hk (by omega)]; exact (wK_k (f := tellN (S k)) (by omega) (by omega)).symm), ht9⟩) (fun q h => by cases h) dX3_stick_44
        · skip
          exact absurd c_8 (by decide)
      · skip
        refine met_of [.ref (ga G 0), .int (nI k), .int 12] [(0, .ref (ga G 0)), (1, .int (nI k)), (2, .int 12)] (by decide) (Nat.le_of_ble_eq_true rfl) rfl ?_
        intro p e s m below meth c hx hb hr hown hml hlocks hW ls hl
        have hG : GW s := hW.2.2.2.1
        refine lv_aload_n hx hb dX3_stick_0 rfl (lv_at hl 0 rfl) ?_
        refine rd_X3_19 hx hb hown hW dX3_stick_1 ?_
        refine lv_iload_n hx hb dX3_stick_4 rfl (lv_at hl 1 rfl) ?_
        refine cr_i (q := 337) [.int (nI k)] hx hb hml hown hG v_X0_has (by decide +kernel) (c_X0_has l G σ 0 (by omega) n S q V ch hg (nI k)) (preH hW (show 0 < 2 by omega) _) rfl hl.1 (Nat.le_of_ble_eq_true rfl) dX3_stick_5 ⟨rfl, rfl, Nat.le_of_ble_eq_true rfl, Nat.le_of_ble_eq_true rfl⟩ ⟨Nat.le_of_ble_eq_true rfl, Nat.le_of_ble_eq_true rfl⟩ ?_
        refine lv_eqi (y := 1) (by rw [hasB_k hk (by omega)]; rfl) ?_
        refine lv_if_ne (tgt := 14) hx hb dX3_stick_8 (by decide) (fun c_8 => ?_) (fun c_8 => ?_)
        · skip
          refine lv_aload_n hx hb dX3_stick_14 rfl (lv_at hl 0 rfl) ?_
          refine rd_X3_19 hx hb hown hW dX3_stick_15 ?_
          refine rd_X3_64 hx hb hown hW (show 0 < 2 by omega) dX3_stick_18 ?_
          refine lv_iload_n hx hb dX3_stick_21 rfl (lv_at hl 1 rfl) ?_
          refine al_sticks (k := k) hx hb hW (show 0 < 2 by omega) rfl (by omega) dX3_stick_22 ?_
          refine lv_astore_n (lv' := [(3, .ref (ga G (3 * (6 * 0 + k) + 14))), (0, .ref (ga G 0)), (1, .int (nI k)), (2, .int 12)]) hx hb dX3_stick_23 rfl hl (by decide) rfl (fun ls hl => ?_)
          refine lv_iload_n hx hb dX3_stick_24 rfl (lv_at hl 3 rfl) ?_
          refine lv_bipush (v := 10) hx hb dX3_stick_25 (by decide) ?_
          refine lv_icmp_lt (tgt := 45) hx hb dX3_stick_27 (by decide) (fun c_27 => ?_) (fun c_27 => ?_)
          · skip
            exact absurd c_27 (by decide)
          · skip
            refine lv_iload_n hx hb dX3_stick_30 rfl (lv_at hl 3 rfl) ?_
            refine lv_bipush (v := 15) hx hb dX3_stick_31 (by decide) ?_
            refine lv_icmp_ge (tgt := 45) hx hb dX3_stick_33 (by decide) (fun c_33 => ?_) (fun c_33 => ?_)
            · skip
              exact absurd c_33 (by decide)
            · skip
              refine lv_aload_n hx hb dX3_stick_36 rfl (lv_at hl 0 rfl) ?_
              refine lv_iload_n hx hb dX3_stick_37 rfl (lv_at hl 3 rfl) ?_
              refine lv_bipush (v := 10) hx hb dX3_stick_38 (by decide) ?_
              refine ln_sub 12 10 hx hb rfl rfl (by omega) dX3_stick_40 ?_
              refine lv_eqi (y := 2) rfl ?_
              refine cr_i (q := 341) [.int 2] hx hb hml hown hG v_X2_stepOrNone (by decide +kernel) (c_X2_stepOrNone l G σ (6 * 0 + k) (by omega) (S k) (hg.2.2.2.1 k hk).1 (hg.2.2.2.1 k hk).2.1 2 (by omega)) (preK hW (by omega) _) rfl hl.1 (Nat.le_of_ble_eq_true rfl) dX3_stick_41 ⟨rfl, rfl, Nat.le_of_ble_eq_true rfl, Nat.le_of_ble_eq_true rfl⟩ ⟨Nat.le_of_ble_eq_true rfl, Nat.le_of_ble_eq_true rfl⟩ ?_
              exact W.iret (v := (if 2 < S k 3 then nI (S k (4 + 2)) else -1)) hx hb hr (fun t9 ht9 hW9 => ⟨_, rfl, (by rw [aStick, wK_k hk (by omega)]; exact (wK_k (f := tellN (S k)) (by omega) (by omega)).symm), ht9⟩) (fun q h => by cases h) dX3_stick_44
        · skip
          exact absurd c_8 (by decide)
      · skip
        refine met_of [.ref (ga G 0), .int (nI k), .int 13] [(0, .ref (ga G 0)), (1, .int (nI k)), (2, .int 13)] (by decide) (Nat.le_of_ble_eq_true rfl) rfl ?_
        intro p e s m below meth c hx hb hr hown hml hlocks hW ls hl
        have hG : GW s := hW.2.2.2.1
        refine lv_aload_n hx hb dX3_stick_0 rfl (lv_at hl 0 rfl) ?_
        refine rd_X3_19 hx hb hown hW dX3_stick_1 ?_
        refine lv_iload_n hx hb dX3_stick_4 rfl (lv_at hl 1 rfl) ?_
        refine cr_i (q := 337) [.int (nI k)] hx hb hml hown hG v_X0_has (by decide +kernel) (c_X0_has l G σ 0 (by omega) n S q V ch hg (nI k)) (preH hW (show 0 < 2 by omega) _) rfl hl.1 (Nat.le_of_ble_eq_true rfl) dX3_stick_5 ⟨rfl, rfl, Nat.le_of_ble_eq_true rfl, Nat.le_of_ble_eq_true rfl⟩ ⟨Nat.le_of_ble_eq_true rfl, Nat.le_of_ble_eq_true rfl⟩ ?_
        refine lv_eqi (y := 1) (by rw [hasB_k hk (by omega)]; rfl) ?_
        refine lv_if_ne (tgt := 14) hx hb dX3_stick_8 (by decide) (fun c_8 => ?_) (fun c_8 => ?_)
        · skip
          refine lv_aload_n hx hb dX3_stick_14 rfl (lv_at hl 0 rfl) ?_
          refine rd_X3_19 hx hb hown hW dX3_stick_15 ?_
          refine rd_X3_64 hx hb hown hW (show 0 < 2 by omega) dX3_stick_18 ?_
          refine lv_iload_n hx hb dX3_stick_21 rfl (lv_at hl 1 rfl) ?_
          refine al_sticks (k := k) hx hb hW (show 0 < 2 by omega) rfl (by omega) dX3_stick_22 ?_
          refine lv_astore_n (lv' := [(3, .ref (ga G (3 * (6 * 0 + k) + 14))), (0, .ref (ga G 0)), (1, .int (nI k)), (2, .int 13)]) hx hb dX3_stick_23 rfl hl (by decide) rfl (fun ls hl => ?_)
          refine lv_iload_n hx hb dX3_stick_24 rfl (lv_at hl 3 rfl) ?_
          refine lv_bipush (v := 10) hx hb dX3_stick_25 (by decide) ?_
          refine lv_icmp_lt (tgt := 45) hx hb dX3_stick_27 (by decide) (fun c_27 => ?_) (fun c_27 => ?_)
          · skip
            exact absurd c_27 (by decide)
          · skip
            refine lv_iload_n hx hb dX3_stick_30 rfl (lv_at hl 3 rfl) ?_
            refine lv_bipush (v := 15) hx hb dX3_stick_31 (by decide) ?_
            refine lv_icmp_ge (tgt := 45) hx hb dX3_stick_33 (by decide) (fun c_33 => ?_) (fun c_33 => ?_)
            · skip
              exact absurd c_33 (by decide)
            · skip
              refine lv_aload_n hx hb dX3_stick_36 rfl (lv_at hl 0 rfl) ?_
              refine lv_iload_n hx hb dX3_stick_37 rfl (lv_at hl 3 rfl) ?_
              refine lv_bipush (v := 10) hx hb dX3_stick_38 (by decide) ?_
              refine ln_sub 13 10 hx hb rfl rfl (by omega) dX3_stick_40 ?_
              refine lv_eqi (y := 3) rfl ?_
              refine cr_i (q := 341) [.int 3] hx hb hml hown hG v_X2_stepOrNone (by decide +kernel) (c_X2_stepOrNone l G σ (6 * 0 + k) (by omega) (S k) (hg.2.2.2.1 k hk).1 (hg.2.2.2.1 k hk).2.1 3 (by omega)) (preK hW (by omega) _) rfl hl.1 (Nat.le_of_ble_eq_true rfl) dX3_stick_41 ⟨rfl, rfl, Nat.le_of_ble_eq_true rfl, Nat.le_of_ble_eq_true rfl⟩ ⟨Nat.le_of_ble_eq_true rfl, Nat.le_of_ble_eq_true rfl⟩ ?_
              exact W.iret (v := (if 3 < S k 3 then nI (S k (4 + 3)) else -1)) hx hb hr (fun t9 ht9 hW9 => ⟨_, rfl, (by rw [aStick, wK_k hk (by omega)]; exact (wK_k (f := tellN (S k)) (by omega) (by omega)).symm), ht9⟩) (fun q h => by cases h) dX3_stick_44
        · skip
          exact absurd c_8 (by decide)
      · skip
        refine met_of [.ref (ga G 0), .int (nI k), .int 14] [(0, .ref (ga G 0)), (1, .int (nI k)), (2, .int 14)] (by decide) (Nat.le_of_ble_eq_true rfl) rfl ?_
        intro p e s m below meth c hx hb hr hown hml hlocks hW ls hl
        have hG : GW s := hW.2.2.2.1
        refine lv_aload_n hx hb dX3_stick_0 rfl (lv_at hl 0 rfl) ?_
        refine rd_X3_19 hx hb hown hW dX3_stick_1 ?_
        refine lv_iload_n hx hb dX3_stick_4 rfl (lv_at hl 1 rfl) ?_
        refine cr_i (q := 337) [.int (nI k)] hx hb hml hown hG v_X0_has (by decide +kernel) (c_X0_has l G σ 0 (by omega) n S q V ch hg (nI k)) (preH hW (show 0 < 2 by omega) _) rfl hl.1 (Nat.le_of_ble_eq_true rfl) dX3_stick_5 ⟨rfl, rfl, Nat.le_of_ble_eq_true rfl, Nat.le_of_ble_eq_true rfl⟩ ⟨Nat.le_of_ble_eq_true rfl, Nat.le_of_ble_eq_true rfl⟩ ?_
        refine lv_eqi (y := 1) (by rw [hasB_k hk (by omega)]; rfl) ?_
        refine lv_if_ne (tgt := 14) hx hb dX3_stick_8 (by decide) (fun c_8 => ?_) (fun c_8 => ?_)
        · skip
          refine lv_aload_n hx hb dX3_stick_14 rfl (lv_at hl 0 rfl) ?_
          refine rd_X3_19 hx hb hown hW dX3_stick_15 ?_
          refine rd_X3_64 hx hb hown hW (show 0 < 2 by omega) dX3_stick_18 ?_
          refine lv_iload_n hx hb dX3_stick_21 rfl (lv_at hl 1 rfl) ?_
          refine al_sticks (k := k) hx hb hW (show 0 < 2 by omega) rfl (by omega) dX3_stick_22 ?_
          refine lv_astore_n (lv' := [(3, .ref (ga G (3 * (6 * 0 + k) + 14))), (0, .ref (ga G 0)), (1, .int (nI k)), (2, .int 14)]) hx hb dX3_stick_23 rfl hl (by decide) rfl (fun ls hl => ?_)
          refine lv_iload_n hx hb dX3_stick_24 rfl (lv_at hl 3 rfl) ?_
          refine lv_bipush (v := 10) hx hb dX3_stick_25 (by decide) ?_
          refine lv_icmp_lt (tgt := 45) hx hb dX3_stick_27 (by decide) (fun c_27 => ?_) (fun c_27 => ?_)
          · skip
            exact absurd c_27 (by decide)
          · skip
            refine lv_iload_n hx hb dX3_stick_30 rfl (lv_at hl 3 rfl) ?_
            refine lv_bipush (v := 15) hx hb dX3_stick_31 (by decide) ?_
            refine lv_icmp_ge (tgt := 45) hx hb dX3_stick_33 (by decide) (fun c_33 => ?_) (fun c_33 => ?_)
            · skip
              exact absurd c_33 (by decide)
            · skip
              refine lv_aload_n hx hb dX3_stick_36 rfl (lv_at hl 0 rfl) ?_
              refine lv_iload_n hx hb dX3_stick_37 rfl (lv_at hl 3 rfl) ?_
              refine lv_bipush (v := 10) hx hb dX3_stick_38 (by decide) ?_
              refine ln_sub 14 10 hx hb rfl rfl (by omega) dX3_stick_40 ?_
              refine lv_eqi (y := 4) rfl ?_
              refine cr_i (q := 341) [.int 4] hx hb hml hown hG v_X2_stepOrNone (by decide +kernel) (c_X2_stepOrNone l G σ (6 * 0 + k) (by omega) (S k) (hg.2.2.2.1 k hk).1 (hg.2.2.2.1 k hk).2.1 4 (by omega)) (preK hW (by omega) _) rfl hl.1 (Nat.le_of_ble_eq_true rfl) dX3_stick_41 ⟨rfl, rfl, Nat.le_of_ble_eq_true rfl, Nat.le_of_ble_eq_true rfl⟩ ⟨Nat.le_of_ble_eq_true rfl, Nat.le_of_ble_eq_true rfl⟩ ?_
              exact W.iret (v := (if 4 < S k 3 then nI (S k (4 + 4)) else -1)) hx hb hr (fun t9 ht9 hW9 => ⟨_, rfl, (by rw [aStick, wK_k hk (by omega)]; exact (wK_k (f := tellN (S k)) (by omega) (by omega)).symm), ht9⟩) (fun q h => by cases h) dX3_stick_44
        · skip
          exact absurd c_8 (by decide)
set_option maxHeartbeats 4000000 in
set_option maxRecDepth 100000 in
theorem c_X3_count (l : Launch) (G : Gam) (σ : St) (n : Nat) (S : Nat → Sk) (q : Nat) (V : Nat → Nat) (ch : Int32) (hg : GH σ 0 n S q V ch) (pn : Nat) (P : Nat → Nat) (hp : PG σ pn P) (rd : Int32) (hrd : σ 0 5 = rd) (x : Int32) : Met l yX3_count (w1 yX3_count cX3_count 2 (some .int)) ({ frames := 3, cells := 0, slots := 0, locals := 73 }) (PcX G σ [.ref (ga G 0), .int x]) (vp_Si (fun r => r = aCount n S q ch pn rd x)) 0 0 (fun _ => False) := by
  have hn6 := hg.1.2
  have hq8 := hg.2.2.1.2
  rcases hasB_c x (n := 8) (by omega) with hx0 | ⟨u9, hu9, rfl⟩
  · skip
    refine met_of [.ref (ga G 0), .int x] [(0, .ref (ga G 0)), (1, .int x)] (by decide) (Nat.le_of_ble_eq_true rfl) rfl ?_
    intro p e s m below meth c hx hb hr hown hml hlocks hW ls hl
    have hG : GW s := hW.2.2.2.1
    refine lv_iload_n hx hb dX3_count_0 rfl (lv_at hl 1 rfl) ?_
    refine lv_tableOut (tgt := 119) hx hb dX3_count_1 (hB_out 8 7 (by omega) (by omega) hx0) (by decide) ?_
    refine lv_bipush (v := (-102)) hx hb dX3_count_119 (by decide) ?_
    exact W.iret (v := (-102)) hx hb hr (fun t9 ht9 hW9 => ⟨_, rfl, (wK_f hx0).symm, ht9⟩) (fun q h => by cases h) dX3_count_121
  · skip
    rcases sw8 hu9 with rfl | rfl | rfl | rfl | rfl | rfl | rfl | rfl
    · skip
      refine met_of [.ref (ga G 0), .int 0] [(0, .ref (ga G 0)), (1, .int 0)] (by decide) (Nat.le_of_ble_eq_true rfl) rfl ?_
      intro p e s m below meth c hx hb hr hown hml hlocks hW ls hl
      have hG : GW s := hW.2.2.2.1
      refine lv_iload_n hx hb dX3_count_0 rfl (lv_at hl 1 rfl) ?_
      refine lv_tableIn (off := 47) (tgt := 48) hx hb dX3_count_1 (by decide) (by decide) rfl (by decide) ?_
      refine lv_aload_n hx hb dX3_count_48 rfl (lv_at hl 0 rfl) ?_
      refine rd_X3_19 hx hb hown hW dX3_count_49 ?_
      refine rd_X3_57 hx hb hown hW (show 0 < 2 by omega) dX3_count_52 ?_
      refine lv_eqi (y := nI n) hg.1.1 ?_
      exact W.iret (v := nI n) hx hb hr (fun t9 ht9 hW9 => ⟨_, rfl, (by rw [aCount]; exact (wK_k (f := cntN n S q ch pn rd) (by omega) (by omega)).symm), ht9⟩) (fun q h => by cases h) dX3_count_55
    · skip
      refine met_of [.ref (ga G 0), .int 1] [(0, .ref (ga G 0)), (1, .int 1)] (by decide) (Nat.le_of_ble_eq_true rfl) rfl ?_
      intro p e s m below meth c hx hb hr hown hml hlocks hW ls hl
      have hG : GW s := hW.2.2.2.1
      refine lv_iload_n hx hb dX3_count_0 rfl (lv_at hl 1 rfl) ?_
      refine lv_tableIn (off := 55) (tgt := 56) hx hb dX3_count_1 (by decide) (by decide) rfl (by decide) ?_
      refine lv_aload_n hx hb dX3_count_56 rfl (lv_at hl 0 rfl) ?_
      refine rd_X3_19 hx hb hown hW dX3_count_57 ?_
      refine cr_i (q := 539) [] hx hb hml hown hG v_X0_stepsOfAll (by decide +kernel) (c_X0_stepsOfAll l G σ 0 (by omega) n S q V ch hg) (preH hW (show 0 < 2 by omega) _) rfl hl.1 (Nat.le_of_ble_eq_true rfl) dX3_count_60 ⟨rfl, rfl, Nat.le_of_ble_eq_true rfl, Nat.le_of_ble_eq_true rfl⟩ ⟨Nat.le_of_ble_eq_true rfl, Nat.le_of_ble_eq_true rfl⟩ ?_
      exact W.iret (v := nI (sumN (fun k => S k 3) n)) hx hb hr (fun t9 ht9 hW9 => ⟨_, rfl, (by rw [aCount]; exact (wK_k (f := cntN n S q ch pn rd) (by omega) (by omega)).symm), ht9⟩) (fun q h => by cases h) dX3_count_63
    · skip
      refine met_of [.ref (ga G 0), .int 2] [(0, .ref (ga G 0)), (1, .int 2)] (by decide) (Nat.le_of_ble_eq_true rfl) rfl ?_
      intro p e s m below meth c hx hb hr hown hml hlocks hW ls hl
      have hG : GW s := hW.2.2.2.1
      refine lv_iload_n hx hb dX3_count_0 rfl (lv_at hl 1 rfl) ?_
      refine lv_tableIn (off := 63) (tgt := 64) hx hb dX3_count_1 (by decide) (by decide) rfl (by decide) ?_
      refine lv_aload_n hx hb dX3_count_64 rfl (lv_at hl 0 rfl) ?_
      refine rd_X3_19 hx hb hown hW dX3_count_65 ?_
      refine cr_i (q := 511) [] hx hb hml hown hG v_X0_placesSeen (by decide +kernel) (c_X0_placesSeen l G σ 0 (by omega) n S q V ch hg) (preH hW (show 0 < 2 by omega) _) rfl hl.1 (Nat.le_of_ble_eq_true rfl) dX3_count_68 ⟨rfl, rfl, Nat.le_of_ble_eq_true rfl, Nat.le_of_ble_eq_true rfl⟩ ⟨Nat.le_of_ble_eq_true rfl, Nat.le_of_ble_eq_true rfl⟩ ?_
      refine cs_i (q := 346) [.int (nI (grN (PL S) (2 ^ n - 1) n))] hx hb hml hown hG v_J6_bitCount_0f7a4 (by decide +kernel) (c_J6_bitCount l (grN (PL S) (2 ^ n - 1) n) (PL_lt hg)) (preG hG _) rfl hl.1 (Nat.le_of_ble_eq_true rfl) dX3_count_71 ⟨rfl, rfl, Nat.le_of_ble_eq_true rfl, Nat.le_of_ble_eq_true rfl⟩ ⟨Nat.le_of_ble_eq_true rfl, Nat.le_of_ble_eq_true rfl⟩ ?_
      exact W.iret (v := nI (allP S n)) hx hb hr (fun t9 ht9 hW9 => ⟨_, rfl, (by rw [aCount]; exact (wK_k (f := cntN n S q ch pn rd) (by omega) (by omega)).symm), ht9⟩) (fun q h => by cases h) dX3_count_74
    · skip
      refine met_of [.ref (ga G 0), .int 3] [(0, .ref (ga G 0)), (1, .int 3)] (by decide) (Nat.le_of_ble_eq_true rfl) rfl ?_
      intro p e s m below meth c hx hb hr hown hml hlocks hW ls hl
      have hG : GW s := hW.2.2.2.1
      refine lv_iload_n hx hb dX3_count_0 rfl (lv_at hl 1 rfl) ?_
      refine lv_tableIn (off := 74) (tgt := 75) hx hb dX3_count_1 (by decide) (by decide) rfl (by decide) ?_
      refine lv_aload_n hx hb dX3_count_75 rfl (lv_at hl 0 rfl) ?_
      refine rd_X3_19 hx hb hown hW dX3_count_76 ?_
      refine lv_aload_n hx hb dX3_count_79 rfl (lv_at hl 0 rfl) ?_
      refine rd_X3_19 hx hb hown hW dX3_count_80 ?_
      refine rd_X3_83 hx hb hown hW (show 0 < 2 by omega) dX3_count_83 ?_
      refine cr_i (q := 506) [.ref (ga G (5 * 0 + 6))] hx hb hml hown hG v_X0_meetings (by decide +kernel) (c_X0_meetings l G σ 0 (by omega) n S q V ch hg (5 * 0 + 6) ⟨by omega, fun r => rfl⟩ (fun i => S i 2) (fun k hk => ⟨(hg.2.2.2.1 k hk).2.2.2.1, (hg.2.2.2.1 k hk).2.2.2.2⟩)) (preH hW (show 0 < 2 by omega) _) rfl hl.1 (Nat.le_of_ble_eq_true rfl) dX3_count_86 ⟨rfl, rfl, Nat.le_of_ble_eq_true rfl, Nat.le_of_ble_eq_true rfl⟩ ⟨Nat.le_of_ble_eq_true rfl, Nat.le_of_ble_eq_true rfl⟩ ?_
      exact W.iret (v := nI (ouN (meL S (fun i => S i 2)) n n)) hx hb hr (fun t9 ht9 hW9 => ⟨_, rfl, (by rw [aCount]; exact (wK_k (f := cntN n S q ch pn rd) (by omega) (by omega)).symm), ht9⟩) (fun q h => by cases h) dX3_count_89
    · skip
      refine met_of [.ref (ga G 0), .int 4] [(0, .ref (ga G 0)), (1, .int 4)] (by decide) (Nat.le_of_ble_eq_true rfl) rfl ?_
      intro p e s m below meth c hx hb hr hown hml hlocks hW ls hl
      have hG : GW s := hW.2.2.2.1
      refine lv_iload_n hx hb dX3_count_0 rfl (lv_at hl 1 rfl) ?_
      refine lv_tableIn (off := 89) (tgt := 90) hx hb dX3_count_1 (by decide) (by decide) rfl (by decide) ?_
      refine lv_aload_n hx hb dX3_count_90 rfl (lv_at hl 0 rfl) ?_
      refine rd_X3_19 hx hb hown hW dX3_count_91 ?_
      refine rd_X3_124 hx hb hown hW (show 0 < 2 by omega) dX3_count_94 ?_
      refine lv_eqi (y := ch) hg.2.1 ?_
      exact W.iret (v := ch) hx hb hr (fun t9 ht9 hW9 => ⟨_, rfl, (by rw [aCount]; exact (wK_k (f := cntN n S q ch pn rd) (by omega) (by omega)).symm), ht9⟩) (fun q h => by cases h) dX3_count_97
    · skip
      refine met_of [.ref (ga G 0), .int 5] [(0, .ref (ga G 0)), (1, .int 5)] (by decide) (Nat.le_of_ble_eq_true rfl) rfl ?_
      intro p e s m below meth c hx hb hr hown hml hlocks hW ls hl
      have hG : GW s := hW.2.2.2.1
      refine lv_iload_n hx hb dX3_count_0 rfl (lv_at hl 1 rfl) ?_
      refine lv_tableIn (off := 97) (tgt := 98) hx hb dX3_count_1 (by decide) (by decide) rfl (by decide) ?_
      refine lv_aload_n hx hb dX3_count_98 rfl (lv_at hl 0 rfl) ?_
      refine rd_X3_19 hx hb hown hW dX3_count_99 ?_
      refine rd_X3_148 hx hb hown hW (show 0 < 2 by omega) dX3_count_102 ?_
      refine lv_eqi (y := nI q) hg.2.2.1.1 ?_
      exact W.iret (v := nI q) hx hb hr (fun t9 ht9 hW9 => ⟨_, rfl, (by rw [aCount]; exact (wK_k (f := cntN n S q ch pn rd) (by omega) (by omega)).symm), ht9⟩) (fun q h => by cases h) dX3_count_105
    · skip
      refine met_of [.ref (ga G 0), .int 6] [(0, .ref (ga G 0)), (1, .int 6)] (by decide) (Nat.le_of_ble_eq_true rfl) rfl ?_
      intro p e s m below meth c hx hb hr hown hml hlocks hW ls hl
      have hG : GW s := hW.2.2.2.1
      refine lv_iload_n hx hb dX3_count_0 rfl (lv_at hl 1 rfl) ?_
      refine lv_tableIn (off := 105) (tgt := 106) hx hb dX3_count_1 (by decide) (by decide) rfl (by decide) ?_
      refine lv_aload_n hx hb dX3_count_106 rfl (lv_at hl 0 rfl) ?_
      refine rd_X3_10 hx hb hown hW dX3_count_107 ?_
      refine rd_X3_42 hx hb hown hW dX3_count_110 ?_
      refine lv_eqi (y := nI pn) hp.1.1 ?_
      exact W.iret (v := nI pn) hx hb hr (fun t9 ht9 hW9 => ⟨_, rfl, (by rw [aCount]; exact (wK_k (f := cntN n S q ch pn rd) (by omega) (by omega)).symm), ht9⟩) (fun q h => by cases h) dX3_count_113
    · skip
      refine met_of [.ref (ga G 0), .int 7] [(0, .ref (ga G 0)), (1, .int 7)] (by decide) (Nat.le_of_ble_eq_true rfl) rfl ?_
      intro p e s m below meth c hx hb hr hown hml hlocks hW ls hl
      have hG : GW s := hW.2.2.2.1
      refine lv_iload_n hx hb dX3_count_0 rfl (lv_at hl 1 rfl) ?_
      refine lv_tableIn (off := 113) (tgt := 114) hx hb dX3_count_1 (by decide) (by decide) rfl (by decide) ?_
      refine lv_aload_n hx hb dX3_count_114 rfl (lv_at hl 0 rfl) ?_
      refine rd_X3_34 hx hb hown hW dX3_count_115 ?_
      refine lv_eqi (y := rd) hrd ?_
      exact W.iret (v := rd) hx hb hr (fun t9 ht9 hW9 => ⟨_, rfl, (by rw [aCount]; exact (wK_k (f := cntN n S q ch pn rd) (by omega) (by omega)).symm), ht9⟩) (fun q h => by cases h) dX3_count_118
set_option maxHeartbeats 4000000 in
set_option maxRecDepth 100000 in
theorem c_X3_image (l : Launch) (G : Gam) (σ : St) (n : Nat) (S : Nat → Sk) (q : Nat) (V : Nat → Nat) (ch : Int32) (hg : GH σ 0 n S q V ch) (hax : AX σ) : Met l yX3_image (w1 yX3_image cX3_image 1 (some .int)) ({ frames := 5, cells := 0, slots := 0, locals := 106 }) (PcX G σ [.ref (ga G 0)]) (QiX G (fun r σ9 => (n = 0 → r = -103 ∧ σ9 = σ) ∧ (n ≠ 0 → r = ch ∧ ∃ σ8, CZ σ 1 0 σ8 ∧ σ9 = up2 σ8 0 4 1))) 0 0 (aX G) := by
  refine met_of [.ref (ga G 0)] [(0, .ref (ga G 0))] (by decide) (Nat.le_of_ble_eq_true rfl) rfl ?_
  intro p e s m below meth c hx hb hr hown hml hlocks hW ls hl
  have hG : GW s := hW.2.2.2.1
  have hS : va_S (aX G) s.heap s.heap [] := va_S.rf
  have hn6 := hg.1.2
  have hq8 := hg.2.2.1.2
  refine lv_aload_n hx hb dX3_image_0 rfl (lv_at hl 0 rfl) ?_
  refine rd_X3_19 hx hb hown hW dX3_image_1 ?_
  refine rd_X3_57 hx hb hown hW (show 0 < 2 by omega) dX3_image_4 ?_
  refine lv_eqi (y := nI n) hg.1.1 ?_
  refine lv_if_ne (tgt := 13) hx hb dX3_image_7 (by decide) (fun c_7 => ?_) (fun c_7 => ?_)
  · skip
    have q_7 := tN_ne n 0 c_7 rfl rfl (by omega) (by omega)
    refine lv_aload_n hx hb dX3_image_13 rfl (lv_at hl 0 rfl) ?_
    refine rd_X3_23 hx hb hown hW dX3_image_14 ?_
    refine lv_aload_n hx hb dX3_image_17 rfl (lv_at hl 0 rfl) ?_
    refine rd_X3_19 hx hb hown hW dX3_image_18 ?_
    refine cw_v (q := 519) [.ref (ga G (5 * 0 + 4))] hx hb hml hown hW.2 hS v_X0_copyFrom (by decide +kernel) (c_X0_copyFrom l G σ 1 0 (by omega) (by omega) (by omega) hax) (preH hW (show 1 < 2 by omega) _) rfl hl.1 (Nat.le_of_ble_eq_true rfl) dX3_image_21 ⟨rfl, rfl, Nat.le_of_ble_eq_true rfl, Nat.le_of_ble_eq_true rfl⟩ ⟨Nat.le_of_ble_eq_true rfl, Nat.le_of_ble_eq_true rfl⟩ (fun σ1 H locs hσ1 hW hS => ?_)
    refine lv_aload_n hx hb dX3_image_24 rfl (lv_at hl 0 rfl) ?_
    refine lv_iconst (v := 1) hx hb dX3_image_25 (by decide) ?_
    refine wr_X3_30 hx hb hown hW hS rfl rfl dX3_image_26 (fun H locs hW hS => ?_)
    obtain ⟨σ2, hσ2⟩ : ∃ z, z = up2 σ1 (0) 4 1 := ⟨_, rfl⟩
    rw [← hσ2] at hW
    refine lv_aload_n hx hb dX3_image_29 rfl (lv_at hl 0 rfl) ?_
    refine rd_X3_19 hx hb hown hW dX3_image_30 ?_
    refine rd_X3_124 hx hb hown hW (show 0 < 2 by omega) dX3_image_33 ?_
    refine lv_eqi (y := ch) (by subst hσ2; rw [up2_nr (by omega), hσ1.1 _ (by unfold OutH; omega)]; exact hg.2.1) ?_
    exact W.iret (v := ch) hx hb hr (fun t9 ht9 hW9 => ⟨⟨_, σ2, rfl, ⟨fun z => absurd z q_7, fun _ => ⟨rfl, _, hσ1, by subst hσ2; rfl⟩⟩, (by have h8 := hW.1; rw [← ht9] at h8; exact h8)⟩, hS.F ht9⟩) hS.2.2 dX3_image_36
  · skip
    have q_7 := tN_eq n 0 c_7 rfl rfl (by omega) (by omega)
    refine lv_bipush (v := (-103)) hx hb dX3_image_10 (by decide) ?_
    exact W.iret (v := (-103)) hx hb hr (fun t9 ht9 hW9 => ⟨⟨_, σ, rfl, ⟨fun _ => ⟨rfl, rfl⟩, fun z => absurd q_7 z⟩, (by have h8 := hW.1; rw [← ht9] at h8; exact h8)⟩, hS.F ht9⟩) hS.2.2 dX3_image_12
set_option maxHeartbeats 4000000 in
set_option maxRecDepth 100000 in
theorem c_X3_restore (l : Launch) (G : Gam) (σ : St) (hax : AX σ) (kp : Bool) (hkp : σ 0 4 = bI kp) : Met l yX3_restore (w1 yX3_restore cX3_restore 1 (some .int)) ({ frames := 5, cells := 0, slots := 0, locals := 106 }) (PcX G σ [.ref (ga G 0)]) (QiX G (fun r σ9 => (kp = false → r = -103 ∧ σ9 = σ) ∧ (kp = true → r = σ9 (5 * 0 + 4) 5 ∧ CZ σ 0 1 σ9))) 0 0 (aX G) := by
  refine met_of [.ref (ga G 0)] [(0, .ref (ga G 0))] (by decide) (Nat.le_of_ble_eq_true rfl) rfl ?_
  intro p e s m below meth c hx hb hr hown hml hlocks hW ls hl
  have hG : GW s := hW.2.2.2.1
  have hS : va_S (aX G) s.heap s.heap [] := va_S.rf
  refine lv_aload_n hx hb dX3_restore_0 rfl (lv_at hl 0 rfl) ?_
  refine rd_X3_30 hx hb hown hW dX3_restore_1 ?_
  refine lv_eqi (y := bI kp) hkp ?_
  refine lv_if_ne (tgt := 10) hx hb dX3_restore_4 (by decide) (fun c_4 => ?_) (fun c_4 => ?_)
  · skip
    have b_4 := bI_1 c_4
    refine lv_aload_n hx hb dX3_restore_10 rfl (lv_at hl 0 rfl) ?_
    refine rd_X3_19 hx hb hown hW dX3_restore_11 ?_
    refine lv_aload_n hx hb dX3_restore_14 rfl (lv_at hl 0 rfl) ?_
    refine rd_X3_23 hx hb hown hW dX3_restore_15 ?_
    refine cw_v (q := 519) [.ref (ga G (5 * 1 + 4))] hx hb hml hown hW.2 hS v_X0_copyFrom (by decide +kernel) (c_X0_copyFrom l G σ 0 1 (by omega) (by omega) (by omega) hax) (preH hW (show 0 < 2 by omega) _) rfl hl.1 (Nat.le_of_ble_eq_true rfl) dX3_restore_18 ⟨rfl, rfl, Nat.le_of_ble_eq_true rfl, Nat.le_of_ble_eq_true rfl⟩ ⟨Nat.le_of_ble_eq_true rfl, Nat.le_of_ble_eq_true rfl⟩ (fun σ1 H locs hσ1 hW hS => ?_)
    refine lv_aload_n hx hb dX3_restore_21 rfl (lv_at hl 0 rfl) ?_
    refine rd_X3_19 hx hb hown hW dX3_restore_22 ?_
    refine rd_X3_124 hx hb hown hW (show 0 < 2 by omega) dX3_restore_25 ?_
    exact W.iret (v := σ1 (5 * 0 + 4) 5) hx hb hr (fun t9 ht9 hW9 => ⟨⟨_, σ1, rfl, ⟨fun z => absurd (b_4.symm.trans z) (by decide), fun _ => ⟨rfl, hσ1⟩⟩, (by have h8 := hW.1; rw [← ht9] at h8; exact h8)⟩, hS.F ht9⟩) hS.2.2 dX3_restore_28
  · skip
    have b_4 := bI_0 c_4
    refine lv_bipush (v := (-103)) hx hb dX3_restore_7 (by decide) ?_
    exact W.iret (v := (-103)) hx hb hr (fun t9 ht9 hW9 => ⟨⟨_, σ, rfl, ⟨fun _ => ⟨rfl, rfl⟩, fun z => absurd (b_4.symm.trans z) (by decide)⟩, (by have h8 := hW.1; rw [← ht9] at h8; exact h8)⟩, hS.F ht9⟩) hS.2.2 dX3_restore_9
