/-! ===== the reference ===== -/
theorem lgc_lt {x y : Int64} : lg_cmp x y < 0 ↔ x < y := by
  unfold lg_cmp
  by_cases h1 : y < x
  · rw [if_pos h1]
    constructor
    · intro h; exact absurd h (by decide)
    · intro h; rw [Int64.lt_iff_toInt_lt] at h h1; omega
  · rw [if_neg h1]
    by_cases h2 : x < y
    · have h3 : ¬ y = x := fun e => by rw [Int64.lt_iff_toInt_lt, e] at h2; omega
      first
        | (rw [if_pos h2]; exact ⟨fun _ => h2, fun _ => by decide⟩)
        | (simp only [h3, h2, if_true, if_false]; exact ⟨fun _ => trivial, fun _ => by decide⟩)
        | (have h4 : ¬ x = y := fun e => h3 e.symm
           rw [if_neg h4]; exact ⟨fun _ => h2, fun _ => by decide⟩)
    · have h3 : x = y := by
        apply Int64.toInt_inj.mp
        rw [Int64.lt_iff_toInt_lt] at h1 h2; omega
      subst h3
      first
        | (rw [if_neg h2]; exact ⟨fun h => absurd h (by decide), fun h => absurd h h2⟩)
        | (simp [h2])
theorem lgc_gt {x y : Int64} : 0 < lg_cmp x y ↔ y < x := by
  unfold lg_cmp
  by_cases h1 : y < x
  · rw [if_pos h1]; exact ⟨fun _ => h1, fun _ => by decide⟩
  · rw [if_neg h1]
    constructor
    · intro h
      exfalso
      revert h
      first
        | (split <;> decide)
        | (split <;> (try split) <;> decide)
    · intro h; exact absurd h h1
def inL (v lo hi : Int64) : Bool := decide (¬ v < lo ∧ ¬ hi < v)
theorem i64 (x : Int32) : x.toInt64.toInt = x.toInt := Int32.toInt_toInt64 x
theorem l_lt (x y : Int64) : x < y ↔ x.toInt < y.toInt := Int64.lt_iff_toInt_lt
theorem inL_h (x : Int32) (m : Nat) (hm : m < 1000000) : inL x.toInt64 0 (lN m) = hasB x (m + 1) := by
  unfold inL hasB
  congr 1
  rw [l_lt, l_lt, i64, lN_toInt (by omega), i_lt, i_le, nI_toInt (by omega)]
  show (¬ x.toInt < 0 ∧ ¬ (m : Int) < x.toInt) = (¬ x.toInt < 0 ∧ ¬ ((m + 1 : Nat) : Int) ≤ x.toInt)
  apply propext
  constructor
  · rintro ⟨a, b⟩; exact ⟨a, by omega⟩
  · rintro ⟨a, b⟩; exact ⟨a, by omega⟩
theorem inL_s (x : Int32) (n : Nat) (hn : n < 1000000) : inL x.toInt64 0 (nI n - 1).toInt64 = hasB x n := by
  unfold inL hasB
  congr 1
  have e : (nI n - 1).toInt = (n : Int) - 1 := pk_sub_toInt (a := n) (b := 1) (by omega) (by omega)
  rw [l_lt, l_lt, i64, i64, e, i_lt, i_le, nI_toInt (by omega)]
  show (¬ x.toInt < 0 ∧ ¬ (n : Int) - 1 < x.toInt) = (¬ x.toInt < 0 ∧ ¬ (n : Int) ≤ x.toInt)
  apply propext
  constructor
  · rintro ⟨a, b⟩; exact ⟨a, by omega⟩
  · rintro ⟨a, b⟩; exact ⟨a, by omega⟩
theorem inL_n {t lo hi : Nat} (ht : t < 2 ^ 31) (hlo : lo < 2 ^ 31) (hhi : hi < 2 ^ 31) : inL (nI t).toInt64 (lN lo) (lN hi) = decide (lo ≤ t ∧ t ≤ hi) := by
  unfold inL
  rw [nI_l ht]
  congr 1
  rw [lN_lt ht hlo, lN_lt hhi ht]
  apply propext
  constructor
  · rintro ⟨a, b⟩; omega
  · rintro ⟨a, b⟩; omega
/-- the reference's row k holds S -/
def RR (μ : St) (k : Nat) (S : Sk) : Prop := μ 3 (9 * k) = nI (S 0) ∧ μ 3 (9 * k + 1) = nI (S 1) ∧ μ 3 (9 * k + 2) = nI (S 2) ∧ μ 3 (9 * k + 3) = nI (S 3) ∧ ∀ i, i < S 3 → μ 3 (9 * k + 4 + i) = nI (S (4 + i))
def stI (S : Sk) (h : Nat) : Int32 := if h ≤ hwN (S 0) (S 3) ∧ h % hpN (S 0) = 0 then nI (dirN S (h / hpN (S 0) - 1)) else -1
theorem dir_lame {S : Sk} {h : Nat} (hK : S 0 = 2) (h0 : h / 2 - 1 < S 3) : dirN S (h / 2 - 1) = S (4 + (h / 2 - 1)) := by
  unfold dirN
  rw [Nat.div_eq_of_lt h0, if_neg (by omega), if_neg (by omega), Nat.mod_eq_of_lt h0]
theorem dir_back {S : Sk} {n : Nat} (h0 : 0 < S 3) (hb : S 3 ≤ n % (2 * S 3)) : dirN S n = (S (4 + (2 * S 3 - 1 - n % (2 * S 3))) + 2) % 4 := by
  have e : n % (2 * S 3) = n % S 3 + S 3 * (n / S 3 % 2) := by rw [Nat.mul_comm 2 (S 3)]; exact Nat.mod_mul
  have hm := Nat.mod_lt n h0
  have h2 : n / S 3 % 2 = 0 ∨ n / S 3 % 2 = 1 := by omega
  rcases h2 with h2 | h2
  · rw [e, h2] at hb; omega
  · unfold dirN
    rw [if_pos h2, e, h2, show 2 * S 3 - 1 - (n % S 3 + S 3 * 1) = S 3 - 1 - n % S 3 by omega]
theorem dir_forth {S : Sk} {n : Nat} (h0 : 0 < S 3) (hb : n % (2 * S 3) < S 3) : dirN S n = if S 0 = 3 then (S (4 + n % (2 * S 3)) + 2) % 4 else S (4 + n % (2 * S 3)) := by
  have e : n % (2 * S 3) = n % S 3 + S 3 * (n / S 3 % 2) := by rw [Nat.mul_comm 2 (S 3)]; exact Nat.mod_mul
  have hm := Nat.mod_lt n h0
  have h2 : n / S 3 % 2 = 0 ∨ n / S 3 % 2 = 1 := by omega
  rcases h2 with h2 | h2
  · unfold dirN
    rw [if_neg (by omega), e, h2]; simp
  · rw [e, h2] at hb; omega
theorem sub_lt {a b j : Nat} (h : a < b) (hb : b < 2 ^ 30) (hj : j < 2 ^ 30) : nI a - nI b < nI j := by
  rw [i_lt, pk_sub_toInt (by omega) hb, nI_toInt (by omega)]; omega
set_option maxHeartbeats 4000000 in
set_option maxRecDepth 100000 in
theorem c_X4_in (l : Launch) (v lo hi : Int64) : Met l yX4_in (w1 yX4_in cX4_in 6 (some .boolean)) ({ frames := 0, cells := 0, slots := 0, locals := 0 }) (PcT [.long v, .long lo, .long hi]) (vp_Si (fun r => r = bI (inL v lo hi))) 0 0 (fun _ => False) := by
  refine met_of [.long v, .long lo, .long hi] [(0, .long v), (2, .long lo), (4, .long hi)] (by decide) (Nat.le_of_ble_eq_true rfl) rfl ?_
  intro p e s m below meth c hx hb hr hown hml hlocks hW ls hl
  refine lv_lload_n hx hb dX4_in_0 rfl (lv_at hl 0 rfl) ?_
  refine lv_lload_n hx hb dX4_in_1 rfl (lv_at hl 1 rfl) ?_
  refine W.lcmp hx hb dX4_in_2 ?_
  refine lv_if_lt (tgt := 17) hx hb dX4_in_3 (by decide) (fun c_3 => ?_) (fun c_3 => ?_)
  · skip
    have k_3 := lgc_lt.mp c_3
    refine lv_iconst (v := 0) hx hb dX4_in_17 (by decide) ?_
    exact W.zret (v := 0) (ty := .boolean) hx hb hr rfl (fun t9 ht9 hW9 => ⟨_, rfl, (by unfold inL; rw [decide_eq_false (fun z => z.1 k_3)]; rfl), ht9⟩) (fun q h => by cases h) dX4_in_18
  · skip
    have k_3 : ¬ v < lo := fun z => c_3 (lgc_lt.mpr z)
    refine lv_lload_n hx hb dX4_in_6 rfl (lv_at hl 0 rfl) ?_
    refine lv_lload hx hb dX4_in_7 (lv_at hl 2 rfl) ?_
    refine W.lcmp hx hb dX4_in_9 ?_
    refine lv_if_gt (tgt := 17) hx hb dX4_in_10 (by decide) (fun c_10 => ?_) (fun c_10 => ?_)
    · skip
      have k_10 := lgc_gt.mp c_10
      refine lv_iconst (v := 0) hx hb dX4_in_17 (by decide) ?_
      exact W.zret (v := 0) (ty := .boolean) hx hb hr rfl (fun t9 ht9 hW9 => ⟨_, rfl, (by unfold inL; rw [decide_eq_false (fun z => z.2 k_10)]; rfl), ht9⟩) (fun q h => by cases h) dX4_in_18
    · skip
      have k_10 : ¬ hi < v := fun z => c_10 (lgc_gt.mpr z)
      refine lv_iconst (v := 1) hx hb dX4_in_13 (by decide) ?_
      refine lv_goto (tgt := 18) hx hb dX4_in_14 (by decide) ?_
      exact W.zret (v := 1) (ty := .boolean) hx hb hr rfl (fun t9 ht9 hW9 => ⟨_, rfl, (by unfold inL; rw [decide_eq_true ⟨k_3, k_10⟩]; rfl), ht9⟩) (fun q h => by cases h) dX4_in_18
set_option maxHeartbeats 4000000 in
set_option maxRecDepth 100000 in
theorem c_X4_ones (l : Launch) (x : Nat) (h6 : x < 65536) : Met l yX4_ones (w1 yX4_ones cX4_ones 3 (some .int)) ({ frames := 0, cells := 0, slots := 0, locals := 0 }) (PcT [.int (nI x)]) (vp_Si (fun r => r = nI (popN x))) 0 0 (fun _ => False) := by
  refine met_of [.int (nI x)] [(0, .int (nI x))] (by decide) (Nat.le_of_ble_eq_true rfl) rfl ?_
  intro p e s m below meth c hx hb hr hown hml hlocks hW ls hl
  refine lv_iconst (v := 0) hx hb dX4_ones_0 (by decide) ?_
  refine lv_istore_n (lv' := [(1, .int 0), (0, .int (nI x))]) hx hb dX4_ones_1 rfl hl (by decide) rfl (fun ls hl => ?_)
  refine lv_iconst (v := 0) hx hb dX4_ones_2 (by decide) ?_
  refine lv_istore_n (lv' := [(2, .int 0), (1, .int 0), (0, .int (nI x))]) hx hb dX4_ones_3 rfl hl (by decide) rfl (fun ls hl => ?_)
  have loop_4 : ∀ (N9 : Nat) (i : Nat) (to : Int32) (io : Int32), 16 - i < N9 → to = nI (onN x i) → io = nI i → i ≤ 16 → ∀ ls : Array Slot, lv_has ls 3 [(1, .int to), (2, .int io), (0, .int (nI x))] → W p l e (headSpec (w1 yX4_ones cX4_ones 3 (some .int)) ({ frames := 0, cells := 0, slots := 0, locals := 0 })).room s m [.int (nI x)].toArray below meth c s.heap [] 0 0 (MQ below (vp_Si (fun r => r = nI (popN x))) [.int (nI x)].toArray s 0 0 (fun _ => False)) (F0 m 4 ls []) := by
    intro N9
    induction N9 with
    | zero => intro i to io hN; exact absurd hN (Nat.not_lt_zero _)
    | succ N9 ih =>
      intro i to io hN e_to e_io hi0_4 ls hl
      subst e_to
      subst e_io
      have ih_4 := ih
      refine lv_iload_n hx hb dX4_ones_4 rfl (lv_at hl 1 rfl) ?_
      refine lv_bipush (v := 16) hx hb dX4_ones_5 (by decide) ?_
      refine lv_icmp_ge (tgt := 24) hx hb dX4_ones_7 (by decide) (fun c_7 => ?_) (fun c_7 => ?_)
      · skip
        have q_7 := tN_le 16 i c_7 rfl rfl (by omega) (by omega)
        refine lv_iload_n hx hb dX4_ones_24 rfl (lv_at hl 0 rfl) ?_
        exact W.iret (v := nI (onN x i)) hx hb hr (fun t9 ht9 hW9 => ⟨_, rfl, (by have h9 : i = 16 := (by omega); subst h9; rfl), ht9⟩) (fun q h => by cases h) dX4_ones_25
      · skip
        have q_7 := tN_nle 16 i c_7 rfl rfl (by omega) (by omega)
        refine lv_iload_n hx hb dX4_ones_10 rfl (lv_at hl 0 rfl) ?_
        refine lv_iload_n hx hb dX4_ones_11 rfl (lv_at hl 2 rfl) ?_
        refine lv_iload_n hx hb dX4_ones_12 rfl (lv_at hl 1 rfl) ?_
        refine lv_ishr hx hb dX4_ones_13 ?_
        refine lv_iconst (v := 1) hx hb dX4_ones_14 (by decide) ?_
        refine lv_iand hx hb dX4_ones_15 ?_
        refine lv_eqi (y := nI (x / 2 ^ i % 2)) (bitT (by omega) (by omega)) ?_
        refine ln_add (onN x i) (x / 2 ^ i % 2) hx hb rfl rfl dX4_ones_16 ?_
        refine lv_istore_n (lv' := [(1, .int (nI ((onN x i) + (x / 2 ^ i % 2)))), (2, .int (nI i)), (0, .int (nI x))]) hx hb dX4_ones_17 rfl hl (by decide) rfl (fun ls hl => ?_)
        refine lv_iinc (v := nI (i + 1)) (lv' := [(2, .int (nI (i + 1))), (1, .int (nI ((onN x i) + (x / 2 ^ i % 2)))), (0, .int (nI x))]) hx hb dX4_ones_18 hl (k := 1) rfl (inc1 i) (by decide) rfl (fun ls hl => ?_)
        refine lv_goto (tgt := 4) hx hb dX4_ones_21 (by decide) ?_
        exact ih_4 (i + 1) _ _ (by omega) rfl rfl (by omega) ls (lv_sub hl [1, 0, 2] rfl)
  exact loop_4 _ 0 _ _ (Nat.lt_succ_self _) rfl rfl (by omega) ls (lv_sub hl [1, 0, 2] rfl)
set_option maxHeartbeats 4000000 in
set_option maxRecDepth 100000 in
theorem c_X4_stepped (l : Launch) (pl d : Nat) (hp : pl < 16) (hd : d < 4) : Met l yX4_stepped (w1 yX4_stepped cX4_stepped 4 (some .int)) ({ frames := 1, cells := 0, slots := 0, locals := 25 }) (PcG [.int (nI pl), .int (nI d)]) (vp_Si (fun r => r = nI (stepN pl d))) 0 0 (fun _ => False) := by
  rcases sw4 hd with rfl | rfl | rfl | rfl
  · skip
    refine met_of [.int (nI pl), .int 0] [(0, .int (nI pl)), (1, .int 0)] (by decide) (Nat.le_of_ble_eq_true rfl) rfl ?_
    intro p e s m below meth c hx hb hr hown hml hlocks hW ls hl
    have hG : GW s := hW
    refine lv_iload_n hx hb dX4_stepped_0 rfl (lv_at hl 0 rfl) ?_
    refine lv_iconst (v := 4) hx hb dX4_stepped_1 (by decide) ?_
    refine ln_div pl 4 hx hb rfl rfl (by omega) (by omega) (by omega) dX4_stepped_2 ?_
    refine lv_istore_n (lv' := [(2, .int (nI (pl / 4))), (0, .int (nI pl)), (1, .int 0)]) hx hb dX4_stepped_3 rfl hl (by decide) rfl (fun ls hl => ?_)
    refine lv_iload_n hx hb dX4_stepped_4 rfl (lv_at hl 1 rfl) ?_
    refine lv_iconst (v := 4) hx hb dX4_stepped_5 (by decide) ?_
    refine ln_rem pl 4 hx hb rfl rfl (by omega) (by omega) (by omega) dX4_stepped_6 ?_
    refine lv_istore_n (lv' := [(3, .int (nI (pl % 4))), (2, .int (nI (pl / 4))), (0, .int (nI pl)), (1, .int 0)]) hx hb dX4_stepped_7 rfl hl (by decide) rfl (fun ls hl => ?_)
    refine lv_iload_n hx hb dX4_stepped_8 rfl (lv_at hl 1 rfl) ?_
    refine lv_iload_n hx hb dX4_stepped_9 rfl (lv_at hl 3 rfl) ?_
    refine lv_if_ne (tgt := 17) hx hb dX4_stepped_10 (by decide) (fun c_10 => ?_) (fun c_10 => ?_)
    · skip
      exact absurd (by decide) c_10
    · skip
      refine lv_iconst (v := (-1)) hx hb dX4_stepped_13 (by decide) ?_
      refine lv_goto (tgt := 27) hx hb dX4_stepped_14 (by decide) ?_
      refine lv_iadd hx hb dX4_stepped_27 ?_
      refine lv_istore_n (lv' := [(2, .int ((nI (pl / 4)) + ((-1)))), (3, .int (nI (pl % 4))), (0, .int (nI pl)), (1, .int 0)]) hx hb dX4_stepped_28 rfl hl (by decide) rfl (fun ls hl => ?_)
      refine lv_iload_n hx hb dX4_stepped_29 rfl (lv_at hl 1 rfl) ?_
      refine lv_iload_n hx hb dX4_stepped_30 rfl (lv_at hl 3 rfl) ?_
      refine lv_iconst (v := 1) hx hb dX4_stepped_31 (by decide) ?_
      refine lv_icmp_ne (tgt := 39) hx hb dX4_stepped_32 (by decide) (fun c_32 => ?_) (fun c_32 => ?_)
      · skip
        refine lv_iload_n hx hb dX4_stepped_39 rfl (lv_at hl 3 rfl) ?_
        refine lv_iconst (v := 3) hx hb dX4_stepped_40 (by decide) ?_
        refine lv_icmp_ne (tgt := 48) hx hb dX4_stepped_41 (by decide) (fun c_41 => ?_) (fun c_41 => ?_)
        · skip
          refine lv_iconst (v := 0) hx hb dX4_stepped_48 (by decide) ?_
          refine lv_iadd hx hb dX4_stepped_49 ?_
          refine lv_istore_n (lv' := [(3, .int ((nI (pl % 4)) + 0)), (2, .int ((nI (pl / 4)) + ((-1)))), (0, .int (nI pl)), (1, .int 0)]) hx hb dX4_stepped_50 rfl hl (by decide) rfl (fun ls hl => ?_)
          refine lv_iload_n hx hb dX4_stepped_51 rfl (lv_at hl 1 rfl) ?_
          refine lv_i2l hx hb dX4_stepped_52 rfl ?_
          refine lv_lconst (v := 0) hx hb dX4_stepped_53 rfl ?_
          refine lv_ldc2 (v := 3) hx hb hown (hG.use (i := 705) (by decide +kernel) rfl _) dX4_stepped_54 ?_
          refine cs_i (q := 641) [.long (((nI (pl / 4)) + ((-1)) : Int32).toInt64), .long 0, .long 3] hx hb hml hown hG v_X4_in (by decide +kernel) (c_X4_in l (((nI (pl / 4)) + ((-1)) : Int32).toInt64) (0) (3)) (preT _) rfl hl.1 (Nat.le_of_ble_eq_true rfl) dX4_stepped_57 ⟨rfl, rfl, Nat.le_of_ble_eq_true rfl, Nat.le_of_ble_eq_true rfl⟩ ⟨Nat.le_of_ble_eq_true rfl, Nat.le_of_ble_eq_true rfl⟩ ?_
          refine lv_if_eq (tgt := 83) hx hb dX4_stepped_60 (by decide) (fun c_60 => ?_) (fun c_60 => ?_)
          · skip
            have b_60 := bI_0 c_60
            refine lv_iload_n hx hb dX4_stepped_83 rfl (lv_at hl 2 rfl) ?_
            exact W.iret (v := nI pl) hx hb hr (fun t9 ht9 hW9 => ⟨_, rfl, ((by decide +kernel : ∀ pl, pl < 16 → inL (((nI (pl / 4)) + ((-1)) : Int32).toInt64) (0) (3) = false → nI pl = nI (stepN pl 0)) pl hp b_60), ht9⟩) (fun q h => by cases h) dX4_stepped_84
          · skip
            have b_60 := bI_1 c_60
            refine lv_iload_n hx hb dX4_stepped_63 rfl (lv_at hl 0 rfl) ?_
            refine lv_i2l hx hb dX4_stepped_64 rfl ?_
            refine lv_lconst (v := 0) hx hb dX4_stepped_65 rfl ?_
            refine lv_ldc2 (v := 3) hx hb hown (hG.use (i := 705) (by decide +kernel) rfl _) dX4_stepped_66 ?_
            refine cs_i (q := 641) [.long (((nI (pl % 4)) + 0 : Int32).toInt64), .long 0, .long 3] hx hb hml hown hG v_X4_in (by decide +kernel) (c_X4_in l (((nI (pl % 4)) + 0 : Int32).toInt64) (0) (3)) (preT _) rfl hl.1 (Nat.le_of_ble_eq_true rfl) dX4_stepped_69 ⟨rfl, rfl, Nat.le_of_ble_eq_true rfl, Nat.le_of_ble_eq_true rfl⟩ ⟨Nat.le_of_ble_eq_true rfl, Nat.le_of_ble_eq_true rfl⟩ ?_
            refine lv_if_eq (tgt := 83) hx hb dX4_stepped_72 (by decide) (fun c_72 => ?_) (fun c_72 => ?_)
            · skip
              have b_72 := bI_0 c_72
              refine lv_iload_n hx hb dX4_stepped_83 rfl (lv_at hl 2 rfl) ?_
              exact W.iret (v := nI pl) hx hb hr (fun t9 ht9 hW9 => ⟨_, rfl, ((by decide +kernel : ∀ pl, pl < 16 → inL (((nI (pl / 4)) + ((-1)) : Int32).toInt64) (0) (3) = true → inL (((nI (pl % 4)) + 0 : Int32).toInt64) (0) (3) = false → nI pl = nI (stepN pl 0)) pl hp b_60 b_72), ht9⟩) (fun q h => by cases h) dX4_stepped_84
            · skip
              have b_72 := bI_1 c_72
              refine lv_iconst (v := 4) hx hb dX4_stepped_75 (by decide) ?_
              refine lv_iload_n hx hb dX4_stepped_76 rfl (lv_at hl 1 rfl) ?_
              refine lv_imul hx hb dX4_stepped_77 ?_
              refine lv_iload_n hx hb dX4_stepped_78 rfl (lv_at hl 0 rfl) ?_
              refine lv_iadd hx hb dX4_stepped_79 ?_
              refine lv_goto (tgt := 84) hx hb dX4_stepped_80 (by decide) ?_
              exact W.iret (v := (4 * ((nI (pl / 4)) + ((-1)))) + ((nI (pl % 4)) + 0)) hx hb hr (fun t9 ht9 hW9 => ⟨_, rfl, ((by decide +kernel : ∀ pl, pl < 16 → inL (((nI (pl / 4)) + ((-1)) : Int32).toInt64) (0) (3) = true → inL (((nI (pl % 4)) + 0 : Int32).toInt64) (0) (3) = true → (4 * ((nI (pl / 4)) + ((-1)))) + ((nI (pl % 4)) + 0) = nI (stepN pl 0)) pl hp b_60 b_72), ht9⟩) (fun q h => by cases h) dX4_stepped_84
        · skip
          exact absurd c_41 (by decide)
      · skip
        exact absurd c_32 (by decide)
  · skip
    refine met_of [.int (nI pl), .int 1] [(0, .int (nI pl)), (1, .int 1)] (by decide) (Nat.le_of_ble_eq_true rfl) rfl ?_
    intro p e s m below meth c hx hb hr hown hml hlocks hW ls hl
    have hG : GW s := hW
    refine lv_iload_n hx hb dX4_stepped_0 rfl (lv_at hl 0 rfl) ?_
    refine lv_iconst (v := 4) hx hb dX4_stepped_1 (by decide) ?_
    refine ln_div pl 4 hx hb rfl rfl (by omega) (by omega) (by omega) dX4_stepped_2 ?_
    refine lv_istore_n (lv' := [(2, .int (nI (pl / 4))), (0, .int (nI pl)), (1, .int 1)]) hx hb dX4_stepped_3 rfl hl (by decide) rfl (fun ls hl => ?_)
    refine lv_iload_n hx hb dX4_stepped_4 rfl (lv_at hl 1 rfl) ?_
    refine lv_iconst (v := 4) hx hb dX4_stepped_5 (by decide) ?_
    refine ln_rem pl 4 hx hb rfl rfl (by omega) (by omega) (by omega) dX4_stepped_6 ?_
    refine lv_istore_n (lv' := [(3, .int (nI (pl % 4))), (2, .int (nI (pl / 4))), (0, .int (nI pl)), (1, .int 1)]) hx hb dX4_stepped_7 rfl hl (by decide) rfl (fun ls hl => ?_)
    refine lv_iload_n hx hb dX4_stepped_8 rfl (lv_at hl 1 rfl) ?_
    refine lv_iload_n hx hb dX4_stepped_9 rfl (lv_at hl 3 rfl) ?_
    refine lv_if_ne (tgt := 17) hx hb dX4_stepped_10 (by decide) (fun c_10 => ?_) (fun c_10 => ?_)
    · skip
      refine lv_iload_n hx hb dX4_stepped_17 rfl (lv_at hl 3 rfl) ?_
      refine lv_iconst (v := 2) hx hb dX4_stepped_18 (by decide) ?_
      refine lv_icmp_ne (tgt := 26) hx hb dX4_stepped_19 (by decide) (fun c_19 => ?_) (fun c_19 => ?_)
      · skip
        refine lv_iconst (v := 0) hx hb dX4_stepped_26 (by decide) ?_
        refine lv_iadd hx hb dX4_stepped_27 ?_
        refine lv_istore_n (lv' := [(2, .int ((nI (pl / 4)) + 0)), (3, .int (nI (pl % 4))), (0, .int (nI pl)), (1, .int 1)]) hx hb dX4_stepped_28 rfl hl (by decide) rfl (fun ls hl => ?_)
        refine lv_iload_n hx hb dX4_stepped_29 rfl (lv_at hl 1 rfl) ?_
        refine lv_iload_n hx hb dX4_stepped_30 rfl (lv_at hl 3 rfl) ?_
        refine lv_iconst (v := 1) hx hb dX4_stepped_31 (by decide) ?_
        refine lv_icmp_ne (tgt := 39) hx hb dX4_stepped_32 (by decide) (fun c_32 => ?_) (fun c_32 => ?_)
        · skip
          exact absurd (by decide) c_32
        · skip
          refine lv_iconst (v := 1) hx hb dX4_stepped_35 (by decide) ?_
          refine lv_goto (tgt := 49) hx hb dX4_stepped_36 (by decide) ?_
          refine lv_iadd hx hb dX4_stepped_49 ?_
          refine lv_istore_n (lv' := [(3, .int ((nI (pl % 4)) + 1)), (2, .int ((nI (pl / 4)) + 0)), (0, .int (nI pl)), (1, .int 1)]) hx hb dX4_stepped_50 rfl hl (by decide) rfl (fun ls hl => ?_)
          refine lv_iload_n hx hb dX4_stepped_51 rfl (lv_at hl 1 rfl) ?_
          refine lv_i2l hx hb dX4_stepped_52 rfl ?_
          refine lv_lconst (v := 0) hx hb dX4_stepped_53 rfl ?_
          refine lv_ldc2 (v := 3) hx hb hown (hG.use (i := 705) (by decide +kernel) rfl _) dX4_stepped_54 ?_
          refine cs_i (q := 641) [.long (((nI (pl / 4)) + 0 : Int32).toInt64), .long 0, .long 3] hx hb hml hown hG v_X4_in (by decide +kernel) (c_X4_in l (((nI (pl / 4)) + 0 : Int32).toInt64) (0) (3)) (preT _) rfl hl.1 (Nat.le_of_ble_eq_true rfl) dX4_stepped_57 ⟨rfl, rfl, Nat.le_of_ble_eq_true rfl, Nat.le_of_ble_eq_true rfl⟩ ⟨Nat.le_of_ble_eq_true rfl, Nat.le_of_ble_eq_true rfl⟩ ?_
          refine lv_if_eq (tgt := 83) hx hb dX4_stepped_60 (by decide) (fun c_60 => ?_) (fun c_60 => ?_)
          · skip
            have b_60 := bI_0 c_60
            refine lv_iload_n hx hb dX4_stepped_83 rfl (lv_at hl 2 rfl) ?_
            exact W.iret (v := nI pl) hx hb hr (fun t9 ht9 hW9 => ⟨_, rfl, ((by decide +kernel : ∀ pl, pl < 16 → inL (((nI (pl / 4)) + 0 : Int32).toInt64) (0) (3) = false → nI pl = nI (stepN pl 1)) pl hp b_60), ht9⟩) (fun q h => by cases h) dX4_stepped_84
          · skip
            have b_60 := bI_1 c_60
            refine lv_iload_n hx hb dX4_stepped_63 rfl (lv_at hl 0 rfl) ?_
            refine lv_i2l hx hb dX4_stepped_64 rfl ?_
            refine lv_lconst (v := 0) hx hb dX4_stepped_65 rfl ?_
            refine lv_ldc2 (v := 3) hx hb hown (hG.use (i := 705) (by decide +kernel) rfl _) dX4_stepped_66 ?_
            refine cs_i (q := 641) [.long (((nI (pl % 4)) + 1 : Int32).toInt64), .long 0, .long 3] hx hb hml hown hG v_X4_in (by decide +kernel) (c_X4_in l (((nI (pl % 4)) + 1 : Int32).toInt64) (0) (3)) (preT _) rfl hl.1 (Nat.le_of_ble_eq_true rfl) dX4_stepped_69 ⟨rfl, rfl, Nat.le_of_ble_eq_true rfl, Nat.le_of_ble_eq_true rfl⟩ ⟨Nat.le_of_ble_eq_true rfl, Nat.le_of_ble_eq_true rfl⟩ ?_
            refine lv_if_eq (tgt := 83) hx hb dX4_stepped_72 (by decide) (fun c_72 => ?_) (fun c_72 => ?_)
            · skip
              have b_72 := bI_0 c_72
              refine lv_iload_n hx hb dX4_stepped_83 rfl (lv_at hl 2 rfl) ?_
              exact W.iret (v := nI pl) hx hb hr (fun t9 ht9 hW9 => ⟨_, rfl, ((by decide +kernel : ∀ pl, pl < 16 → inL (((nI (pl / 4)) + 0 : Int32).toInt64) (0) (3) = true → inL (((nI (pl % 4)) + 1 : Int32).toInt64) (0) (3) = false → nI pl = nI (stepN pl 1)) pl hp b_60 b_72), ht9⟩) (fun q h => by cases h) dX4_stepped_84
            · skip
              have b_72 := bI_1 c_72
              refine lv_iconst (v := 4) hx hb dX4_stepped_75 (by decide) ?_
              refine lv_iload_n hx hb dX4_stepped_76 rfl (lv_at hl 1 rfl) ?_
              refine lv_imul hx hb dX4_stepped_77 ?_
              refine lv_iload_n hx hb dX4_stepped_78 rfl (lv_at hl 0 rfl) ?_
              refine lv_iadd hx hb dX4_stepped_79 ?_
              refine lv_goto (tgt := 84) hx hb dX4_stepped_80 (by decide) ?_
              exact W.iret (v := (4 * ((nI (pl / 4)) + 0)) + ((nI (pl % 4)) + 1)) hx hb hr (fun t9 ht9 hW9 => ⟨_, rfl, ((by decide +kernel : ∀ pl, pl < 16 → inL (((nI (pl / 4)) + 0 : Int32).toInt64) (0) (3) = true → inL (((nI (pl % 4)) + 1 : Int32).toInt64) (0) (3) = true → (4 * ((nI (pl / 4)) + 0)) + ((nI (pl % 4)) + 1) = nI (stepN pl 1)) pl hp b_60 b_72), ht9⟩) (fun q h => by cases h) dX4_stepped_84
      · skip
        exact absurd c_19 (by decide)
    · skip
      exact absurd c_10 (by decide)
  · skip
    refine met_of [.int (nI pl), .int 2] [(0, .int (nI pl)), (1, .int 2)] (by decide) (Nat.le_of_ble_eq_true rfl) rfl ?_
    intro p e s m below meth c hx hb hr hown hml hlocks hW ls hl
    have hG : GW s := hW
    refine lv_iload_n hx hb dX4_stepped_0 rfl (lv_at hl 0 rfl) ?_
    refine lv_iconst (v := 4) hx hb dX4_stepped_1 (by decide) ?_
    refine ln_div pl 4 hx hb rfl rfl (by omega) (by omega) (by omega) dX4_stepped_2 ?_
    refine lv_istore_n (lv' := [(2, .int (nI (pl / 4))), (0, .int (nI pl)), (1, .int 2)]) hx hb dX4_stepped_3 rfl hl (by decide) rfl (fun ls hl => ?_)
    refine lv_iload_n hx hb dX4_stepped_4 rfl (lv_at hl 1 rfl) ?_
    refine lv_iconst (v := 4) hx hb dX4_stepped_5 (by decide) ?_
    refine ln_rem pl 4 hx hb rfl rfl (by omega) (by omega) (by omega) dX4_stepped_6 ?_
    refine lv_istore_n (lv' := [(3, .int (nI (pl % 4))), (2, .int (nI (pl / 4))), (0, .int (nI pl)), (1, .int 2)]) hx hb dX4_stepped_7 rfl hl (by decide) rfl (fun ls hl => ?_)
    refine lv_iload_n hx hb dX4_stepped_8 rfl (lv_at hl 1 rfl) ?_
    refine lv_iload_n hx hb dX4_stepped_9 rfl (lv_at hl 3 rfl) ?_
    refine lv_if_ne (tgt := 17) hx hb dX4_stepped_10 (by decide) (fun c_10 => ?_) (fun c_10 => ?_)
    · skip
      refine lv_iload_n hx hb dX4_stepped_17 rfl (lv_at hl 3 rfl) ?_
      refine lv_iconst (v := 2) hx hb dX4_stepped_18 (by decide) ?_
      refine lv_icmp_ne (tgt := 26) hx hb dX4_stepped_19 (by decide) (fun c_19 => ?_) (fun c_19 => ?_)
      · skip
        exact absurd (by decide) c_19
      · skip
        refine lv_iconst (v := 1) hx hb dX4_stepped_22 (by decide) ?_
        refine lv_goto (tgt := 27) hx hb dX4_stepped_23 (by decide) ?_
        refine lv_iadd hx hb dX4_stepped_27 ?_
        refine lv_istore_n (lv' := [(2, .int ((nI (pl / 4)) + 1)), (3, .int (nI (pl % 4))), (0, .int (nI pl)), (1, .int 2)]) hx hb dX4_stepped_28 rfl hl (by decide) rfl (fun ls hl => ?_)
        refine lv_iload_n hx hb dX4_stepped_29 rfl (lv_at hl 1 rfl) ?_
        refine lv_iload_n hx hb dX4_stepped_30 rfl (lv_at hl 3 rfl) ?_
        refine lv_iconst (v := 1) hx hb dX4_stepped_31 (by decide) ?_
        refine lv_icmp_ne (tgt := 39) hx hb dX4_stepped_32 (by decide) (fun c_32 => ?_) (fun c_32 => ?_)
        · skip
          refine lv_iload_n hx hb dX4_stepped_39 rfl (lv_at hl 3 rfl) ?_
          refine lv_iconst (v := 3) hx hb dX4_stepped_40 (by decide) ?_
          refine lv_icmp_ne (tgt := 48) hx hb dX4_stepped_41 (by decide) (fun c_41 => ?_) (fun c_41 => ?_)
          · skip
            refine lv_iconst (v := 0) hx hb dX4_stepped_48 (by decide) ?_
            refine lv_iadd hx hb dX4_stepped_49 ?_
            refine lv_istore_n (lv' := [(3, .int ((nI (pl % 4)) + 0)), (2, .int ((nI (pl / 4)) + 1)), (0, .int (nI pl)), (1, .int 2)]) hx hb dX4_stepped_50 rfl hl (by decide) rfl (fun ls hl => ?_)
            refine lv_iload_n hx hb dX4_stepped_51 rfl (lv_at hl 1 rfl) ?_
            refine lv_i2l hx hb dX4_stepped_52 rfl ?_
            refine lv_lconst (v := 0) hx hb dX4_stepped_53 rfl ?_
            refine lv_ldc2 (v := 3) hx hb hown (hG.use (i := 705) (by decide +kernel) rfl _) dX4_stepped_54 ?_
            refine cs_i (q := 641) [.long (((nI (pl / 4)) + 1 : Int32).toInt64), .long 0, .long 3] hx hb hml hown hG v_X4_in (by decide +kernel) (c_X4_in l (((nI (pl / 4)) + 1 : Int32).toInt64) (0) (3)) (preT _) rfl hl.1 (Nat.le_of_ble_eq_true rfl) dX4_stepped_57 ⟨rfl, rfl, Nat.le_of_ble_eq_true rfl, Nat.le_of_ble_eq_true rfl⟩ ⟨Nat.le_of_ble_eq_true rfl, Nat.le_of_ble_eq_true rfl⟩ ?_
            refine lv_if_eq (tgt := 83) hx hb dX4_stepped_60 (by decide) (fun c_60 => ?_) (fun c_60 => ?_)
            · skip
              have b_60 := bI_0 c_60
              refine lv_iload_n hx hb dX4_stepped_83 rfl (lv_at hl 2 rfl) ?_
              exact W.iret (v := nI pl) hx hb hr (fun t9 ht9 hW9 => ⟨_, rfl, ((by decide +kernel : ∀ pl, pl < 16 → inL (((nI (pl / 4)) + 1 : Int32).toInt64) (0) (3) = false → nI pl = nI (stepN pl 2)) pl hp b_60), ht9⟩) (fun q h => by cases h) dX4_stepped_84
            · skip
              have b_60 := bI_1 c_60
              refine lv_iload_n hx hb dX4_stepped_63 rfl (lv_at hl 0 rfl) ?_
              refine lv_i2l hx hb dX4_stepped_64 rfl ?_
              refine lv_lconst (v := 0) hx hb dX4_stepped_65 rfl ?_
              refine lv_ldc2 (v := 3) hx hb hown (hG.use (i := 705) (by decide +kernel) rfl _) dX4_stepped_66 ?_
              refine cs_i (q := 641) [.long (((nI (pl % 4)) + 0 : Int32).toInt64), .long 0, .long 3] hx hb hml hown hG v_X4_in (by decide +kernel) (c_X4_in l (((nI (pl % 4)) + 0 : Int32).toInt64) (0) (3)) (preT _) rfl hl.1 (Nat.le_of_ble_eq_true rfl) dX4_stepped_69 ⟨rfl, rfl, Nat.le_of_ble_eq_true rfl, Nat.le_of_ble_eq_true rfl⟩ ⟨Nat.le_of_ble_eq_true rfl, Nat.le_of_ble_eq_true rfl⟩ ?_
              refine lv_if_eq (tgt := 83) hx hb dX4_stepped_72 (by decide) (fun c_72 => ?_) (fun c_72 => ?_)
              · skip
                have b_72 := bI_0 c_72
                refine lv_iload_n hx hb dX4_stepped_83 rfl (lv_at hl 2 rfl) ?_
                exact W.iret (v := nI pl) hx hb hr (fun t9 ht9 hW9 => ⟨_, rfl, ((by decide +kernel : ∀ pl, pl < 16 → inL (((nI (pl / 4)) + 1 : Int32).toInt64) (0) (3) = true → inL (((nI (pl % 4)) + 0 : Int32).toInt64) (0) (3) = false → nI pl = nI (stepN pl 2)) pl hp b_60 b_72), ht9⟩) (fun q h => by cases h) dX4_stepped_84
              · skip
                have b_72 := bI_1 c_72
                refine lv_iconst (v := 4) hx hb dX4_stepped_75 (by decide) ?_
                refine lv_iload_n hx hb dX4_stepped_76 rfl (lv_at hl 1 rfl) ?_
                refine lv_imul hx hb dX4_stepped_77 ?_
                refine lv_iload_n hx hb dX4_stepped_78 rfl (lv_at hl 0 rfl) ?_
                refine lv_iadd hx hb dX4_stepped_79 ?_
                refine lv_goto (tgt := 84) hx hb dX4_stepped_80 (by decide) ?_
                exact W.iret (v := (4 * ((nI (pl / 4)) + 1)) + ((nI (pl % 4)) + 0)) hx hb hr (fun t9 ht9 hW9 => ⟨_, rfl, ((by decide +kernel : ∀ pl, pl < 16 → inL (((nI (pl / 4)) + 1 : Int32).toInt64) (0) (3) = true → inL (((nI (pl % 4)) + 0 : Int32).toInt64) (0) (3) = true → (4 * ((nI (pl / 4)) + 1)) + ((nI (pl % 4)) + 0) = nI (stepN pl 2)) pl hp b_60 b_72), ht9⟩) (fun q h => by cases h) dX4_stepped_84
          · skip
            exact absurd c_41 (by decide)
        · skip
          exact absurd c_32 (by decide)
    · skip
      exact absurd c_10 (by decide)
  · skip
    refine met_of [.int (nI pl), .int 3] [(0, .int (nI pl)), (1, .int 3)] (by decide) (Nat.le_of_ble_eq_true rfl) rfl ?_
    intro p e s m below meth c hx hb hr hown hml hlocks hW ls hl
    have hG : GW s := hW
    refine lv_iload_n hx hb dX4_stepped_0 rfl (lv_at hl 0 rfl) ?_
    refine lv_iconst (v := 4) hx hb dX4_stepped_1 (by decide) ?_
    refine ln_div pl 4 hx hb rfl rfl (by omega) (by omega) (by omega) dX4_stepped_2 ?_
    refine lv_istore_n (lv' := [(2, .int (nI (pl / 4))), (0, .int (nI pl)), (1, .int 3)]) hx hb dX4_stepped_3 rfl hl (by decide) rfl (fun ls hl => ?_)
    refine lv_iload_n hx hb dX4_stepped_4 rfl (lv_at hl 1 rfl) ?_
    refine lv_iconst (v := 4) hx hb dX4_stepped_5 (by decide) ?_
    refine ln_rem pl 4 hx hb rfl rfl (by omega) (by omega) (by omega) dX4_stepped_6 ?_
    refine lv_istore_n (lv' := [(3, .int (nI (pl % 4))), (2, .int (nI (pl / 4))), (0, .int (nI pl)), (1, .int 3)]) hx hb dX4_stepped_7 rfl hl (by decide) rfl (fun ls hl => ?_)
    refine lv_iload_n hx hb dX4_stepped_8 rfl (lv_at hl 1 rfl) ?_
    refine lv_iload_n hx hb dX4_stepped_9 rfl (lv_at hl 3 rfl) ?_
    refine lv_if_ne (tgt := 17) hx hb dX4_stepped_10 (by decide) (fun c_10 => ?_) (fun c_10 => ?_)
    · skip
      refine lv_iload_n hx hb dX4_stepped_17 rfl (lv_at hl 3 rfl) ?_
      refine lv_iconst (v := 2) hx hb dX4_stepped_18 (by decide) ?_
      refine lv_icmp_ne (tgt := 26) hx hb dX4_stepped_19 (by decide) (fun c_19 => ?_) (fun c_19 => ?_)
      · skip
        refine lv_iconst (v := 0) hx hb dX4_stepped_26 (by decide) ?_
        refine lv_iadd hx hb dX4_stepped_27 ?_
        refine lv_istore_n (lv' := [(2, .int ((nI (pl / 4)) + 0)), (3, .int (nI (pl % 4))), (0, .int (nI pl)), (1, .int 3)]) hx hb dX4_stepped_28 rfl hl (by decide) rfl (fun ls hl => ?_)
        refine lv_iload_n hx hb dX4_stepped_29 rfl (lv_at hl 1 rfl) ?_
        refine lv_iload_n hx hb dX4_stepped_30 rfl (lv_at hl 3 rfl) ?_
        refine lv_iconst (v := 1) hx hb dX4_stepped_31 (by decide) ?_
        refine lv_icmp_ne (tgt := 39) hx hb dX4_stepped_32 (by decide) (fun c_32 => ?_) (fun c_32 => ?_)
        · skip
          refine lv_iload_n hx hb dX4_stepped_39 rfl (lv_at hl 3 rfl) ?_
          refine lv_iconst (v := 3) hx hb dX4_stepped_40 (by decide) ?_
          refine lv_icmp_ne (tgt := 48) hx hb dX4_stepped_41 (by decide) (fun c_41 => ?_) (fun c_41 => ?_)
          · skip
            exact absurd (by decide) c_41
          · skip
            refine lv_iconst (v := (-1)) hx hb dX4_stepped_44 (by decide) ?_
            refine lv_goto (tgt := 49) hx hb dX4_stepped_45 (by decide) ?_
            refine lv_iadd hx hb dX4_stepped_49 ?_
            refine lv_istore_n (lv' := [(3, .int ((nI (pl % 4)) + ((-1)))), (2, .int ((nI (pl / 4)) + 0)), (0, .int (nI pl)), (1, .int 3)]) hx hb dX4_stepped_50 rfl hl (by decide) rfl (fun ls hl => ?_)
            refine lv_iload_n hx hb dX4_stepped_51 rfl (lv_at hl 1 rfl) ?_
            refine lv_i2l hx hb dX4_stepped_52 rfl ?_
            refine lv_lconst (v := 0) hx hb dX4_stepped_53 rfl ?_
            refine lv_ldc2 (v := 3) hx hb hown (hG.use (i := 705) (by decide +kernel) rfl _) dX4_stepped_54 ?_
            refine cs_i (q := 641) [.long (((nI (pl / 4)) + 0 : Int32).toInt64), .long 0, .long 3] hx hb hml hown hG v_X4_in (by decide +kernel) (c_X4_in l (((nI (pl / 4)) + 0 : Int32).toInt64) (0) (3)) (preT _) rfl hl.1 (Nat.le_of_ble_eq_true rfl) dX4_stepped_57 ⟨rfl, rfl, Nat.le_of_ble_eq_true rfl, Nat.le_of_ble_eq_true rfl⟩ ⟨Nat.le_of_ble_eq_true rfl, Nat.le_of_ble_eq_true rfl⟩ ?_
            refine lv_if_eq (tgt := 83) hx hb dX4_stepped_60 (by decide) (fun c_60 => ?_) (fun c_60 => ?_)
            · skip
              have b_60 := bI_0 c_60
              refine lv_iload_n hx hb dX4_stepped_83 rfl (lv_at hl 2 rfl) ?_
              exact W.iret (v := nI pl) hx hb hr (fun t9 ht9 hW9 => ⟨_, rfl, ((by decide +kernel : ∀ pl, pl < 16 → inL (((nI (pl / 4)) + 0 : Int32).toInt64) (0) (3) = false → nI pl = nI (stepN pl 3)) pl hp b_60), ht9⟩) (fun q h => by cases h) dX4_stepped_84
            · skip
              have b_60 := bI_1 c_60
              refine lv_iload_n hx hb dX4_stepped_63 rfl (lv_at hl 0 rfl) ?_
              refine lv_i2l hx hb dX4_stepped_64 rfl ?_
              refine lv_lconst (v := 0) hx hb dX4_stepped_65 rfl ?_
              refine lv_ldc2 (v := 3) hx hb hown (hG.use (i := 705) (by decide +kernel) rfl _) dX4_stepped_66 ?_
              refine cs_i (q := 641) [.long (((nI (pl % 4)) + ((-1)) : Int32).toInt64), .long 0, .long 3] hx hb hml hown hG v_X4_in (by decide +kernel) (c_X4_in l (((nI (pl % 4)) + ((-1)) : Int32).toInt64) (0) (3)) (preT _) rfl hl.1 (Nat.le_of_ble_eq_true rfl) dX4_stepped_69 ⟨rfl, rfl, Nat.le_of_ble_eq_true rfl, Nat.le_of_ble_eq_true rfl⟩ ⟨Nat.le_of_ble_eq_true rfl, Nat.le_of_ble_eq_true rfl⟩ ?_
              refine lv_if_eq (tgt := 83) hx hb dX4_stepped_72 (by decide) (fun c_72 => ?_) (fun c_72 => ?_)
              · skip
                have b_72 := bI_0 c_72
                refine lv_iload_n hx hb dX4_stepped_83 rfl (lv_at hl 2 rfl) ?_
                exact W.iret (v := nI pl) hx hb hr (fun t9 ht9 hW9 => ⟨_, rfl, ((by decide +kernel : ∀ pl, pl < 16 → inL (((nI (pl / 4)) + 0 : Int32).toInt64) (0) (3) = true → inL (((nI (pl % 4)) + ((-1)) : Int32).toInt64) (0) (3) = false → nI pl = nI (stepN pl 3)) pl hp b_60 b_72), ht9⟩) (fun q h => by cases h) dX4_stepped_84
              · skip
                have b_72 := bI_1 c_72
                refine lv_iconst (v := 4) hx hb dX4_stepped_75 (by decide) ?_
                refine lv_iload_n hx hb dX4_stepped_76 rfl (lv_at hl 1 rfl) ?_
                refine lv_imul hx hb dX4_stepped_77 ?_
                refine lv_iload_n hx hb dX4_stepped_78 rfl (lv_at hl 0 rfl) ?_
                refine lv_iadd hx hb dX4_stepped_79 ?_
                refine lv_goto (tgt := 84) hx hb dX4_stepped_80 (by decide) ?_
                exact W.iret (v := (4 * ((nI (pl / 4)) + 0)) + ((nI (pl % 4)) + ((-1)))) hx hb hr (fun t9 ht9 hW9 => ⟨_, rfl, ((by decide +kernel : ∀ pl, pl < 16 → inL (((nI (pl / 4)) + 0 : Int32).toInt64) (0) (3) = true → inL (((nI (pl % 4)) + ((-1)) : Int32).toInt64) (0) (3) = true → (4 * ((nI (pl / 4)) + 0)) + ((nI (pl % 4)) + ((-1))) = nI (stepN pl 3)) pl hp b_60 b_72), ht9⟩) (fun q h => by cases h) dX4_stepped_84
        · skip
          exact absurd c_32 (by decide)
      · skip
        exact absurd c_19 (by decide)
    · skip
      exact absurd c_10 (by decide)
