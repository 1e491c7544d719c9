theorem an_M {p : Program} {l : Launch} {e : Env} {R : Room} {s : State} {m : MethodId} {args : Array Value} {below : List Frame} {meth : Method} {c : Code} {H : Heap} {locs : List Loc} {cells slots : Nat} {Q : State → Prop} {cc : ByteArray} {pc : Nat} {ls : Array Slot} {rest : List Value} {G : Gam} {μ : St} {hs : Int64} (i : Nat) (hx : p.tables.exec = Jvm.exec) (hb : c.code = cc) (hW : WM G μ hs s H) (hdg : decode cc pc = .ok (.arraylength, 1)) (kk : W p l e R s m args below meth c H locs cells slots Q (F0 m (pc + 1) ls (.int (nI (lM i)) :: rest))) (hi : i ≠ 0 := by decide) (hi2 : i < 10 := by decide) : W p l e R s m args below meth c H locs cells slots Q (F0 m pc ls (.ref (gm G i) :: rest)) :=
  va_alen (ws := ww 10 (gm G) (fun i => cM G hs (μ i) i)) (cA := gI G) (x := (lM i, .inl (μ i))) hx hb hW.2.1 hW.1 i 0 (by rw [ww_get hi2]; exact congrArg (fun z => some (gm G i, z)) (cM_a hi)) rfl rfl hdg kk
theorem up2_o {σ : St} {i j : Nat} {v : Int32} {a b : Nat} (h : a = i → b ≠ j) : up2 σ i j v a b = σ a b := if_neg (fun z => h z.1 z.2)
/-- a whole row copied into another -/
def CO (μ : St) (hs : Int64) (i0 i1 N : Nat) (u : StM) : Prop := u.2 = hs ∧ (∀ f, f < N → u.1 i1 f = μ i0 f) ∧ ∀ a, a ≠ i1 → u.1 a = μ a
theorem co_s {μ μw : St} {i0 i1 k : Nat} (h : ∀ f, f < k → μw i1 f = μ i0 f) (h0 : μw i0 = μ i0) : ∀ f, f < k + 1 → up2 μw i1 k (μw i0 k) i1 f = μ i0 f := by
  intro f hf
  by_cases e9 : f = k
  · subst e9; rw [up2_eq, h0]
  · rw [up2_nf e9]; exact h f (by omega)
/-- nothing but scratch has changed -/
def KQ (μ : St) (u : StM) : Prop := ∀ a f, a ≠ 4 → a ≠ 6 → a ≠ 7 → (a = 0 → f ≠ 13) → (a = 3 → f < 54) → u.1 a f = μ a f
theorem KQ.rf {μ : St} {hs : Int64} : KQ μ (μ, hs) := fun _ _ _ _ _ _ _ => rfl
theorem KP.kq {μ : St} {hs : Int64} {u : StM} (h : KP μ hs u) : KQ μ u := fun a f h4 h6 _ _ _ => congrFun (h.2 a h4 h6) f
abbrev wL (S : Nat → Sk) (L : Nat → Nat) : Nat → Sk := fun k => setL (S k) (L k)
theorem RM.wl {μ μ' : St} {n : Nat} {S : Nat → Sk} {q : Nat} {V : Nat → Nat} {ch : Int32} (hg : RM μ n S q V ch) (L : Nat → Nat) (h0 : ∀ f, f ≠ 13 → μ' 0 f = μ 0 f) (h5 : μ' 5 = μ 5) (hL : ∀ k, k < n → μ' 3 (9 * k + 2) = nI (L k) ∧ L k ≤ 9) (ho : ∀ f, (∀ k, k < n → f ≠ 9 * k + 2) → μ' 3 f = μ 3 f) : RM μ' n (wL S L) q V ch := by
  obtain ⟨⟨a1, a2⟩, b9, ⟨c1, c2⟩, d9, e9⟩ := hg
  refine ⟨⟨(h0 5 (by omega)).trans a1, a2⟩, (h0 6 (by omega)).trans b9, ⟨(h0 10 (by omega)).trans c1, c2⟩, fun k hk => ?_, by rw [h5]; exact e9⟩
  obtain ⟨v, v1, v2, r0, r1, r2, r3, r4⟩ := d9 k hk
  have v3 := v.2.2.1
  refine ⟨setL_vs v, v1, (hL k hk).2, ?_, ?_, (hL k hk).1, ?_, fun i hi => ?_⟩
  · rw [ho _ (fun j _ => by omega)]; exact r0
  · rw [ho _ (fun j _ => by omega)]; exact r1
  · rw [ho _ (fun j _ => by omega)]; exact r3
  · have hi : i < S k 3 := hi
    have e8 : wL S L k (4 + i) = S k (4 + i) := if_neg (by omega)
    rw [ho _ (fun j _ => by omega), e8]; exact r4 i hi
theorem wl_at {S : Nat → Sk} {L : Nat → Nat} {k : Nat} (h : VS (S k)) : atN (wL S L k) = fun t => posN (S k) (t - L k) := by
  funext t
  show posN (setL (S k) (L k)) (t - L k) = _
  exact setL_pos h _
theorem wl_meL {S : Nat → Sk} {L : Nat → Nat} {a b : Nat} (ha : VS (S a)) (hb : VS (S b)) : meL (wL S L) (fun k => wL S L k 2) a b = meL S L a b := by
  show meetN (atN (wL S L a)) (atN (wL S L b)) 31 = _
  rw [wl_at ha, wl_at hb]; rfl
theorem inN_c {M M' : Nat → Nat → Nat} {n a : Nat} (h : ∀ a b, a < n → b < n → M a b = M' a b) : ∀ j, a + j < n → inN M a j = inN M' a j := by
  intro j
  induction j with
  | zero => intro _; rfl
  | succ j ih =>
    intro hj
    unfold inN
    rw [ih (by omega), h a (a + 1 + j) (by omega) (by omega)]
theorem ouN_c {M M' : Nat → Nat → Nat} {n : Nat} (h : ∀ a b, a < n → b < n → M a b = M' a b) : ∀ i, i ≤ n → ouN M n i = ouN M' n i := by
  intro i
  induction i with
  | zero => intro _; rfl
  | succ i ih =>
    intro hi
    unfold ouN
    rw [ih (by omega), inN_c h (n - 1 - i) (by omega)]
theorem wl_ou {S : Nat → Sk} {L : Nat → Nat} {n : Nat} (h : ∀ k, k < n → VS (S k)) : ouN (meL (wL S L) (fun k => wL S L k 2)) n n = ouN (meL S L) n n := ouN_c (fun a b ha hb => wl_meL (h a ha) (h b hb)) n (Nat.le_refl _)
theorem wl_all {S : Nat → Sk} {L : Nat → Nat} {n : Nat} (h : ∀ k, k < n → VS (S k)) : allP (wL S L) n = allP S n := by
  have e9 : grN (PL (wL S L)) (2 ^ n - 1) n = grN (PL S) (2 ^ n - 1) n := grN_c n (fun j hj => orN_same (fun u => setL_pos (t := L j) (h j hj) u) 31)
  show popN _ = popN _
  rw [e9]
def lw (S : Nat → Sk) (b v : Nat) : Nat → Nat := fun k => if k = b then v else S k 2
theorem RM.ltr {μ μw : St} {n : Nat} {S : Nat → Sk} {q : Nat} {V : Nat → Nat} {ch : Int32} (hg : RM μ n S q V ch) {b v : Nat} (hb : b < n) (hv : v ≤ 9) (hf : ∀ a9 f9, (a9 = 3 → f9 ≠ 9 * b + 2) → μw a9 f9 = μ a9 f9) : RM (up2 μw 3 (9 * b + 2) (nI v)) n (wL S (lw S b v)) q V ch := by
  refine hg.wl _ (fun f _ => ?_) ?_ (fun k hk => ?_) (fun f h => ?_)
  · rw [up2_ne (by omega)]; exact hf 0 f (fun z => absurd z (by decide))
  · rw [up2_ne (by omega)]; funext f; exact hf 5 f (fun z => absurd z (by decide))
  · by_cases e9 : k = b
    · subst e9
      rw [up2_eq, show lw S k v k = v from if_pos rfl]; exact ⟨rfl, hv⟩
    · rw [up2_nf (by omega), hf 3 _ (fun _ => by omega), show lw S b v k = S k 2 from if_neg e9]
      exact ⟨(hg.2.2.2.1 k hk).2.2.2.2.2.1, (hg.2.2.2.1 k hk).2.2.1⟩
  · rw [up2_nf (h b hb), hf 3 f (fun _ => h b hb)]
theorem la_back {μ μw : St} {n : Nat} {S : Nat → Sk} {q : Nat} {V : Nat → Nat} {ch : Int32} (hg : RM μ n S q V ch) {b : Nat} (hb : b < n) (hf : ∀ a9 f9, (a9 = 3 → f9 ≠ 9 * b + 2) → μw a9 f9 = μ a9 f9) : ∀ a9 f9, up2 μw 3 (9 * b + 2) (nI (S b 2)) a9 f9 = μ a9 f9 := by
  intro a9 f9
  by_cases h1 : a9 = 3 ∧ f9 = 9 * b + 2
  · obtain ⟨rfl, rfl⟩ := h1
    rw [up2_eq]; exact (hg.2.2.2.1 b hb).2.2.2.2.2.1.symm
  · rw [up2_o (fun z y => h1 ⟨z, y⟩)]; exact hf a9 f9 (fun z y => h1 ⟨z, y⟩)
theorem la_m {S : Nat → Sk} {a b v : Nat} (ha : VS (S a)) (hb : VS (S b)) (h : a ≠ b) : meetN (atN (wL S (lw S b v) a)) (atN (wL S (lw S b v) b)) 31 = laM S a b v := by
  rw [wl_at ha, wl_at hb]
  unfold laM lw
  rw [if_pos rfl, if_neg h]
def vI : Nat → Int32
  | 0 => -1
  | v + 1 => nI v
theorem vI_s {v : Nat} : nI v + (-1) = vI v := by
  cases v with
  | zero => decide
  | succ v =>
    show nI (v + 1) + (-1) = nI v
    rw [← nI_add, Int32.add_assoc, show nI 1 + (-1) = 0 from by decide, Int32.add_zero]
theorem la_y {M : Nat → Nat} {v : Nat} (hv : v < 10) (h : 0 < M v) : nI v = ltF M (10 - v) v := by
  obtain ⟨k, hk⟩ : ∃ k, 10 - v = k + 1 := ⟨9 - v, by omega⟩
  rw [hk, ltF, if_pos h]
theorem la_n {M : Nat → Nat} {v : Nat} (hv : v < 10) (h : M v ≤ 0) : ltF M (10 - (v + 1)) (v + 1) = ltF M (10 - v) v := by
  obtain ⟨k, hk⟩ : ∃ k, 10 - v = k + 1 := ⟨9 - v, by omega⟩
  rw [hk, ltF, if_neg (by omega), show 10 - (v + 1) = k by omega]
theorem inF {w : Int32} (lo hi : Nat) (hl : lo ≤ hi) (hh : hi < 1000000) (h : hasB w (hi + 1) = false) : inL w.toInt64 (lN lo) (lN hi) = false := by
  unfold inL
  apply decide_eq_false
  rintro ⟨a, b⟩
  rw [l_lt, i64, lN_toInt (by omega)] at a b
  rcases hB_ff h with q | q
  · rw [i_lt] at q
    have q : w.toInt < 0 := q
    omega
  · rw [i_le, nI_toInt (by omega)] at q; omega
def IMG (μ μ' : St) : Prop := (∀ f, f < 54 → μ' 8 f = μ 3 f) ∧ (∀ f, f < 16 → μ' 9 f = μ 5 f) ∧ μ' 0 16 = μ 0 5 ∧ μ' 0 17 = μ 0 6 ∧ μ' 0 18 = μ 0 10 ∧ μ' 0 15 = μ 0 7 ∧ ∀ a f, a ≠ 8 → a ≠ 9 → (a = 0 → f < 15 ∨ 18 < f) → μ' a f = μ a f
theorem img {μ μ1 μ2 : St} {hs hs1 hs2 : Int64} (h1 : CO μ hs 3 8 54 (μ1, hs1)) (h2 : CO μ1 hs1 5 9 16 (μ2, hs2)) : IMG μ (up2 (up2 (up2 (up2 μ2 0 16 (μ2 0 5)) 0 17 ((up2 μ2 0 16 (μ2 0 5)) 0 6)) 0 18 ((up2 (up2 μ2 0 16 (μ2 0 5)) 0 17 ((up2 μ2 0 16 (μ2 0 5)) 0 6)) 0 10)) 0 15 ((up2 (up2 (up2 μ2 0 16 (μ2 0 5)) 0 17 ((up2 μ2 0 16 (μ2 0 5)) 0 6)) 0 18 ((up2 (up2 μ2 0 16 (μ2 0 5)) 0 17 ((up2 μ2 0 16 (μ2 0 5)) 0 6)) 0 10)) 0 7)) := by
  obtain ⟨_, c1, d1⟩ := h1
  obtain ⟨_, c2, d2⟩ := h2
  have e0 : μ2 0 = μ 0 := (d2 0 (by decide)).trans (d1 0 (by decide))
  refine ⟨fun f hf => ?_, fun f hf => ?_, ?_, ?_, ?_, ?_, fun a f h8 h9 h0 => ?_⟩
  · rw [up2_ne (by decide), up2_ne (by decide), up2_ne (by decide), up2_ne (by decide)]
    exact (congrFun (d2 8 (by decide)) f).trans (c1 f hf)
  · rw [up2_ne (by decide), up2_ne (by decide), up2_ne (by decide), up2_ne (by decide)]
    exact (c2 f hf).trans (congrFun (d1 5 (by decide)) f)
  · simp [up2, e0]
  · simp [up2, e0]
  · simp [up2, e0]
  · simp [up2, e0]
  · rw [up2_o (fun z => by have := h0 z; omega), up2_o (fun z => by have := h0 z; omega), up2_o (fun z => by have := h0 z; omega), up2_o (fun z => by have := h0 z; omega)]
    exact congrFun ((d2 a h9).trans (d1 a h8)) f
def RST (μ μ' : St) : Prop := (∀ f, f < 54 → μ' 3 f = μ 8 f) ∧ (∀ f, f < 16 → μ' 5 f = μ 9 f) ∧ μ' 0 5 = μ 0 16 ∧ μ' 0 6 = μ 0 17 ∧ μ' 0 10 = μ 0 18 ∧ ∀ a f, a ≠ 3 → a ≠ 5 → (a = 0 → f ≠ 5 ∧ f ≠ 6 ∧ f ≠ 10) → μ' a f = μ a f
theorem rst {μ μ1 μ2 : St} {hs hs1 hs2 : Int64} (h1 : CO μ hs 8 3 54 (μ1, hs1)) (h2 : CO μ1 hs1 9 5 16 (μ2, hs2)) : RST μ (up2 (up2 (up2 μ2 0 5 (μ2 0 16)) 0 6 ((up2 μ2 0 5 (μ2 0 16)) 0 17)) 0 10 ((up2 (up2 μ2 0 5 (μ2 0 16)) 0 6 ((up2 μ2 0 5 (μ2 0 16)) 0 17)) 0 18)) := by
  obtain ⟨_, c1, d1⟩ := h1
  obtain ⟨_, c2, d2⟩ := h2
  have e0 : μ2 0 = μ 0 := (d2 0 (by decide)).trans (d1 0 (by decide))
  refine ⟨fun f hf => ?_, fun f hf => ?_, ?_, ?_, ?_, fun a f h8 h9 h0 => ?_⟩
  · rw [up2_ne (by decide), up2_ne (by decide), up2_ne (by decide)]
    exact (congrFun (d2 3 (by decide)) f).trans (c1 f hf)
  · rw [up2_ne (by decide), up2_ne (by decide), up2_ne (by decide)]
    exact (c2 f hf).trans (congrFun (d1 9 (by decide)) f)
  · simp [up2, e0]
  · simp [up2, e0]
  · simp [up2, e0]
  · rw [up2_o (fun z => by have := h0 z; omega), up2_o (fun z => by have := h0 z; omega), up2_o (fun z => by have := h0 z; omega)]
    exact congrFun ((d2 a h9).trans (d1 a h8)) f
set_option maxHeartbeats 4000000 in
set_option maxRecDepth 100000 in
theorem c_X4_copy37 (l : Launch) (G : Gam) (μ : St) (hs : Int64) : Met l yX4_copy (w1 yX4_copy cX4_copy 3 none) ({ frames := 0, cells := 0, slots := 0, locals := 0 }) (PcM G μ hs [.ref (gm G 3), .ref (gm G 7)]) (QvM G (fun u9 => CO μ hs 3 7 54 u9)) 0 0 (aM G) := by
  refine met_of [.ref (gm G 3), .ref (gm G 7)] [(0, .ref (gm G 3)), (1, .ref (gm G 7))] (by decide) (Nat.le_of_ble_eq_true rfl) rfl ?_
  intro p e s m below meth c hx hb hr hown hml hlocks hW ls hl
  have hG : GW s := hW.2.2.2
  have hS : va_S (aM G) s.heap s.heap [] := va_S.rf
  refine lv_iconst (v := 0) hx hb dX4_copy_0 (by decide) ?_
  refine lv_istore_n (lv' := [(2, .int 0), (0, .ref (gm G 3)), (1, .ref (gm G 7))]) hx hb dX4_copy_1 rfl hl (by decide) rfl (fun ls hl => ?_)
  have loop_2 : ∀ (N9 : Nat) (k : Nat) (ko : Int32) (μw : St) (hw : Int64) (H : Heap) (locs : List Loc), 54 - k < N9 → ko = nI k → k ≤ 54 → WM G μw hw s H → va_S (aM G) s.heap H locs → ((∀ f, f < k → μw 7 f = μ 3 f)) → ((∀ a9, a9 ≠ 7 → μw a9 = μ a9)) → hw = hs → ∀ ls : Array Slot, lv_has ls 3 [(2, .int ko), (0, .ref (gm G 3)), (1, .ref (gm G 7))] → W p l e (headSpec (w1 yX4_copy cX4_copy 3 none) ({ frames := 0, cells := 0, slots := 0, locals := 0 })).room s m [.ref (gm G 3), .ref (gm G 7)].toArray below meth c H locs 0 0 (MQ below (QvM G (fun u9 => CO μ hs 3 7 54 u9)) [.ref (gm G 3), .ref (gm G 7)].toArray s 0 0 (aM G)) (F0 m 2 ls []) := by
    intro N9
    induction N9 with
    | zero => intro k ko μw hw H locs hN; exact absurd hN (Nat.not_lt_zero _)
    | succ N9 ih =>
      intro k ko μw hw H locs hN e_ko hi0_2 hW hS hw0_2 hw1_2 hw2_2 ls hl
      subst e_ko
      have ih_2 := ih
      refine lv_iload_n hx hb dX4_copy_2 rfl (lv_at hl 0 rfl) ?_
      refine lv_aload_n hx hb dX4_copy_3 rfl (lv_at hl 1 rfl) ?_
      refine an_M 3 hx hb hW dX4_copy_4 ?_
      refine lv_icmp_ge (tgt := 20) hx hb dX4_copy_5 (by decide) (fun c_5 => ?_) (fun c_5 => ?_)
      · skip
        have q_5 := tN_le 54 k c_5 rfl rfl (by omega) (by omega)
        exact W.vret hx hb hr (fun t9 ht9 hW9 => ⟨⟨(μw, hw), rfl, ⟨hw2_2, fun f hf => hw0_2 f (by omega), hw1_2⟩, (by have h8 := hW.1; rw [← ht9] at h8; exact h8)⟩, hS.F ht9⟩) hS.2.2 dX4_copy_20
      · skip
        have q_5 := tN_nle 54 k c_5 rfl rfl (by omega) (by omega)
        refine lv_aload_n hx hb dX4_copy_8 rfl (lv_at hl 2 rfl) ?_
        refine lv_iload_n hx hb dX4_copy_9 rfl (lv_at hl 0 rfl) ?_
        refine lv_aload_n hx hb dX4_copy_10 rfl (lv_at hl 1 rfl) ?_
        refine lv_iload_n hx hb dX4_copy_11 rfl (lv_at hl 0 rfl) ?_
        refine al_M (k := k) 3 hx hb hW rfl (show _ < 54 by omega) dX4_copy_12 ?_
        refine as_M (k := k) 7 hx hb hW hS rfl (show _ < 54 by omega) dX4_copy_13 (fun H locs hW hS => ?_)
        obtain ⟨μ1, hμ1⟩ : ∃ z, z = up2 μw 7 k (μw 3 k) := ⟨_, rfl⟩
        rw [← hμ1] at hW
        refine lv_iinc (v := nI (k + 1)) (lv' := [(2, .int (nI (k + 1))), (0, .ref (gm G 3)), (1, .ref (gm G 7))]) hx hb dX4_copy_14 hl (k := 0) rfl (inc1 k) (by decide) rfl (fun ls hl => ?_)
        refine lv_goto (tgt := 2) hx hb dX4_copy_17 (by decide) ?_
        exact ih_2 (k + 1) _ _ _ _ _ (by omega) rfl (by omega) hW hS (by subst hμ1; exact co_s hw0_2 (hw1_2 3 (by decide))) (fun a9 ha => by subst hμ1; rw [up2_ne ha]; exact hw1_2 a9 ha) hw2_2 ls (lv_sub hl [0, 1, 2] rfl)
  exact loop_2 _ 0 _ _ _ _ _ (Nat.lt_succ_self _) rfl (by omega) hW hS (fun f hf => absurd hf (by omega)) (fun _ _ => rfl) rfl ls (lv_sub hl [0, 1, 2] rfl)
set_option maxHeartbeats 4000000 in
set_option maxRecDepth 100000 in
theorem c_X4_copy73 (l : Launch) (G : Gam) (μ : St) (hs : Int64) : Met l yX4_copy (w1 yX4_copy cX4_copy 3 none) ({ frames := 0, cells := 0, slots := 0, locals := 0 }) (PcM G μ hs [.ref (gm G 7), .ref (gm G 3)]) (QvM G (fun u9 => CO μ hs 7 3 54 u9)) 0 0 (aM G) := by
  refine met_of [.ref (gm G 7), .ref (gm G 3)] [(0, .ref (gm G 7)), (1, .ref (gm G 3))] (by decide) (Nat.le_of_ble_eq_true rfl) rfl ?_
  intro p e s m below meth c hx hb hr hown hml hlocks hW ls hl
  have hG : GW s := hW.2.2.2
  have hS : va_S (aM G) s.heap s.heap [] := va_S.rf
  refine lv_iconst (v := 0) hx hb dX4_copy_0 (by decide) ?_
  refine lv_istore_n (lv' := [(2, .int 0), (0, .ref (gm G 7)), (1, .ref (gm G 3))]) hx hb dX4_copy_1 rfl hl (by decide) rfl (fun ls hl => ?_)
  have loop_2 : ∀ (N9 : Nat) (k : Nat) (ko : Int32) (μw : St) (hw : Int64) (H : Heap) (locs : List Loc), 54 - k < N9 → ko = nI k → k ≤ 54 → WM G μw hw s H → va_S (aM G) s.heap H locs → ((∀ f, f < k → μw 3 f = μ 7 f)) → ((∀ a9, a9 ≠ 3 → μw a9 = μ a9)) → hw = hs → ∀ ls : Array Slot, lv_has ls 3 [(2, .int ko), (0, .ref (gm G 7)), (1, .ref (gm G 3))] → W p l e (headSpec (w1 yX4_copy cX4_copy 3 none) ({ frames := 0, cells := 0, slots := 0, locals := 0 })).room s m [.ref (gm G 7), .ref (gm G 3)].toArray below meth c H locs 0 0 (MQ below (QvM G (fun u9 => CO μ hs 7 3 54 u9)) [.ref (gm G 7), .ref (gm G 3)].toArray s 0 0 (aM G)) (F0 m 2 ls []) := by
    intro N9
    induction N9 with
    | zero => intro k ko μw hw H locs hN; exact absurd hN (Nat.not_lt_zero _)
    | succ N9 ih =>
      intro k ko μw hw H locs hN e_ko hi0_2 hW hS hw0_2 hw1_2 hw2_2 ls hl
      subst e_ko
      have ih_2 := ih
      refine lv_iload_n hx hb dX4_copy_2 rfl (lv_at hl 0 rfl) ?_
      refine lv_aload_n hx hb dX4_copy_3 rfl (lv_at hl 1 rfl) ?_
      refine an_M 7 hx hb hW dX4_copy_4 ?_
      refine lv_icmp_ge (tgt := 20) hx hb dX4_copy_5 (by decide) (fun c_5 => ?_) (fun c_5 => ?_)
      · skip
        have q_5 := tN_le 54 k c_5 rfl rfl (by omega) (by omega)
        exact W.vret hx hb hr (fun t9 ht9 hW9 => ⟨⟨(μw, hw), rfl, ⟨hw2_2, fun f hf => hw0_2 f (by omega), hw1_2⟩, (by have h8 := hW.1; rw [← ht9] at h8; exact h8)⟩, hS.F ht9⟩) hS.2.2 dX4_copy_20
      · skip
        have q_5 := tN_nle 54 k c_5 rfl rfl (by omega) (by omega)
        refine lv_aload_n hx hb dX4_copy_8 rfl (lv_at hl 2 rfl) ?_
        refine lv_iload_n hx hb dX4_copy_9 rfl (lv_at hl 0 rfl) ?_
        refine lv_aload_n hx hb dX4_copy_10 rfl (lv_at hl 1 rfl) ?_
        refine lv_iload_n hx hb dX4_copy_11 rfl (lv_at hl 0 rfl) ?_
        refine al_M (k := k) 7 hx hb hW rfl (show _ < 54 by omega) dX4_copy_12 ?_
        refine as_M (k := k) 3 hx hb hW hS rfl (show _ < 54 by omega) dX4_copy_13 (fun H locs hW hS => ?_)
        obtain ⟨μ1, hμ1⟩ : ∃ z, z = up2 μw 3 k (μw 7 k) := ⟨_, rfl⟩
        rw [← hμ1] at hW
        refine lv_iinc (v := nI (k + 1)) (lv' := [(2, .int (nI (k + 1))), (0, .ref (gm G 7)), (1, .ref (gm G 3))]) hx hb dX4_copy_14 hl (k := 0) rfl (inc1 k) (by decide) rfl (fun ls hl => ?_)
        refine lv_goto (tgt := 2) hx hb dX4_copy_17 (by decide) ?_
        exact ih_2 (k + 1) _ _ _ _ _ (by omega) rfl (by omega) hW hS (by subst hμ1; exact co_s hw0_2 (hw1_2 7 (by decide))) (fun a9 ha => by subst hμ1; rw [up2_ne ha]; exact hw1_2 a9 ha) hw2_2 ls (lv_sub hl [0, 1, 2] rfl)
  exact loop_2 _ 0 _ _ _ _ _ (Nat.lt_succ_self _) rfl (by omega) hW hS (fun f hf => absurd hf (by omega)) (fun _ _ => rfl) rfl ls (lv_sub hl [0, 1, 2] rfl)
set_option maxHeartbeats 4000000 in
set_option maxRecDepth 100000 in
theorem c_X4_copy38 (l : Launch) (G : Gam) (μ : St) (hs : Int64) : Met l yX4_copy (w1 yX4_copy cX4_copy 3 none) ({ frames := 0, cells := 0, slots := 0, locals := 0 }) (PcM G μ hs [.ref (gm G 3), .ref (gm G 8)]) (QvM G (fun u9 => CO μ hs 3 8 54 u9)) 0 0 (aM G) := by
  refine met_of [.ref (gm G 3), .ref (gm G 8)] [(0, .ref (gm G 3)), (1, .ref (gm G 8))] (by decide) (Nat.le_of_ble_eq_true rfl) rfl ?_
  intro p e s m below meth c hx hb hr hown hml hlocks hW ls hl
  have hG : GW s := hW.2.2.2
  have hS : va_S (aM G) s.heap s.heap [] := va_S.rf
  refine lv_iconst (v := 0) hx hb dX4_copy_0 (by decide) ?_
  refine lv_istore_n (lv' := [(2, .int 0), (0, .ref (gm G 3)), (1, .ref (gm G 8))]) hx hb dX4_copy_1 rfl hl (by decide) rfl (fun ls hl => ?_)
  have loop_2 : ∀ (N9 : Nat) (k : Nat) (ko : Int32) (μw : St) (hw : Int64) (H : Heap) (locs : List Loc), 54 - k < N9 → ko = nI k → k ≤ 54 → WM G μw hw s H → va_S (aM G) s.heap H locs → ((∀ f, f < k → μw 8 f = μ 3 f)) → ((∀ a9, a9 ≠ 8 → μw a9 = μ a9)) → hw = hs → ∀ ls : Array Slot, lv_has ls 3 [(2, .int ko), (0, .ref (gm G 3)), (1, .ref (gm G 8))] → W p l e (headSpec (w1 yX4_copy cX4_copy 3 none) ({ frames := 0, cells := 0, slots := 0, locals := 0 })).room s m [.ref (gm G 3), .ref (gm G 8)].toArray below meth c H locs 0 0 (MQ below (QvM G (fun u9 => CO μ hs 3 8 54 u9)) [.ref (gm G 3), .ref (gm G 8)].toArray s 0 0 (aM G)) (F0 m 2 ls []) := by
    intro N9
    induction N9 with
    | zero => intro k ko μw hw H locs hN; exact absurd hN (Nat.not_lt_zero _)
    | succ N9 ih =>
      intro k ko μw hw H locs hN e_ko hi0_2 hW hS hw0_2 hw1_2 hw2_2 ls hl
      subst e_ko
      have ih_2 := ih
      refine lv_iload_n hx hb dX4_copy_2 rfl (lv_at hl 0 rfl) ?_
      refine lv_aload_n hx hb dX4_copy_3 rfl (lv_at hl 1 rfl) ?_
      refine an_M 3 hx hb hW dX4_copy_4 ?_
      refine lv_icmp_ge (tgt := 20) hx hb dX4_copy_5 (by decide) (fun c_5 => ?_) (fun c_5 => ?_)
      · skip
        have q_5 := tN_le 54 k c_5 rfl rfl (by omega) (by omega)
        exact W.vret hx hb hr (fun t9 ht9 hW9 => ⟨⟨(μw, hw), rfl, ⟨hw2_2, fun f hf => hw0_2 f (by omega), hw1_2⟩, (by have h8 := hW.1; rw [← ht9] at h8; exact h8)⟩, hS.F ht9⟩) hS.2.2 dX4_copy_20
      · skip
        have q_5 := tN_nle 54 k c_5 rfl rfl (by omega) (by omega)
        refine lv_aload_n hx hb dX4_copy_8 rfl (lv_at hl 2 rfl) ?_
        refine lv_iload_n hx hb dX4_copy_9 rfl (lv_at hl 0 rfl) ?_
        refine lv_aload_n hx hb dX4_copy_10 rfl (lv_at hl 1 rfl) ?_
        refine lv_iload_n hx hb dX4_copy_11 rfl (lv_at hl 0 rfl) ?_
        refine al_M (k := k) 3 hx hb hW rfl (show _ < 54 by omega) dX4_copy_12 ?_
        refine as_M (k := k) 8 hx hb hW hS rfl (show _ < 54 by omega) dX4_copy_13 (fun H locs hW hS => ?_)
        obtain ⟨μ1, hμ1⟩ : ∃ z, z = up2 μw 8 k (μw 3 k) := ⟨_, rfl⟩
        rw [← hμ1] at hW
        refine lv_iinc (v := nI (k + 1)) (lv' := [(2, .int (nI (k + 1))), (0, .ref (gm G 3)), (1, .ref (gm G 8))]) hx hb dX4_copy_14 hl (k := 0) rfl (inc1 k) (by decide) rfl (fun ls hl => ?_)
        refine lv_goto (tgt := 2) hx hb dX4_copy_17 (by decide) ?_
        exact ih_2 (k + 1) _ _ _ _ _ (by omega) rfl (by omega) hW hS (by subst hμ1; exact co_s hw0_2 (hw1_2 3 (by decide))) (fun a9 ha => by subst hμ1; rw [up2_ne ha]; exact hw1_2 a9 ha) hw2_2 ls (lv_sub hl [0, 1, 2] rfl)
  exact loop_2 _ 0 _ _ _ _ _ (Nat.lt_succ_self _) rfl (by omega) hW hS (fun f hf => absurd hf (by omega)) (fun _ _ => rfl) rfl ls (lv_sub hl [0, 1, 2] rfl)
set_option maxHeartbeats 4000000 in
set_option maxRecDepth 100000 in
theorem c_X4_copy59 (l : Launch) (G : Gam) (μ : St) (hs : Int64) : Met l yX4_copy (w1 yX4_copy cX4_copy 3 none) ({ frames := 0, cells := 0, slots := 0, locals := 0 }) (PcM G μ hs [.ref (gm G 5), .ref (gm G 9)]) (QvM G (fun u9 => CO μ hs 5 9 16 u9)) 0 0 (aM G) := by
  refine met_of [.ref (gm G 5), .ref (gm G 9)] [(0, .ref (gm G 5)), (1, .ref (gm G 9))] (by decide) (Nat.le_of_ble_eq_true rfl) rfl ?_
  intro p e s m below meth c hx hb hr hown hml hlocks hW ls hl
  have hG : GW s := hW.2.2.2
  have hS : va_S (aM G) s.heap s.heap [] := va_S.rf
  refine lv_iconst (v := 0) hx hb dX4_copy_0 (by decide) ?_
  refine lv_istore_n (lv' := [(2, .int 0), (0, .ref (gm G 5)), (1, .ref (gm G 9))]) hx hb dX4_copy_1 rfl hl (by decide) rfl (fun ls hl => ?_)
  have loop_2 : ∀ (N9 : Nat) (k : Nat) (ko : Int32) (μw : St) (hw : Int64) (H : Heap) (locs : List Loc), 16 - k < N9 → ko = nI k → k ≤ 16 → WM G μw hw s H → va_S (aM G) s.heap H locs → ((∀ f, f < k → μw 9 f = μ 5 f)) → ((∀ a9, a9 ≠ 9 → μw a9 = μ a9)) → hw = hs → ∀ ls : Array Slot, lv_has ls 3 [(2, .int ko), (0, .ref (gm G 5)), (1, .ref (gm G 9))] → W p l e (headSpec (w1 yX4_copy cX4_copy 3 none) ({ frames := 0, cells := 0, slots := 0, locals := 0 })).room s m [.ref (gm G 5), .ref (gm G 9)].toArray below meth c H locs 0 0 (MQ below (QvM G (fun u9 => CO μ hs 5 9 16 u9)) [.ref (gm G 5), .ref (gm G 9)].toArray s 0 0 (aM G)) (F0 m 2 ls []) := by
    intro N9
    induction N9 with
    | zero => intro k ko μw hw H locs hN; exact absurd hN (Nat.not_lt_zero _)
    | succ N9 ih =>
      intro k ko μw hw H locs hN e_ko hi0_2 hW hS hw0_2 hw1_2 hw2_2 ls hl
      subst e_ko
      have ih_2 := ih
      refine lv_iload_n hx hb dX4_copy_2 rfl (lv_at hl 0 rfl) ?_
      refine lv_aload_n hx hb dX4_copy_3 rfl (lv_at hl 1 rfl) ?_
      refine an_M 5 hx hb hW dX4_copy_4 ?_
      refine lv_icmp_ge (tgt := 20) hx hb dX4_copy_5 (by decide) (fun c_5 => ?_) (fun c_5 => ?_)
      · skip
        have q_5 := tN_le 16 k c_5 rfl rfl (by omega) (by omega)
        exact W.vret hx hb hr (fun t9 ht9 hW9 => ⟨⟨(μw, hw), rfl, ⟨hw2_2, fun f hf => hw0_2 f (by omega), hw1_2⟩, (by have h8 := hW.1; rw [← ht9] at h8; exact h8)⟩, hS.F ht9⟩) hS.2.2 dX4_copy_20
      · skip
        have q_5 := tN_nle 16 k c_5 rfl rfl (by omega) (by omega)
        refine lv_aload_n hx hb dX4_copy_8 rfl (lv_at hl 2 rfl) ?_
        refine lv_iload_n hx hb dX4_copy_9 rfl (lv_at hl 0 rfl) ?_
        refine lv_aload_n hx hb dX4_copy_10 rfl (lv_at hl 1 rfl) ?_
        refine lv_iload_n hx hb dX4_copy_11 rfl (lv_at hl 0 rfl) ?_
        refine al_M (k := k) 5 hx hb hW rfl (show _ < 16 by omega) dX4_copy_12 ?_
        refine as_M (k := k) 9 hx hb hW hS rfl (show _ < 16 by omega) dX4_copy_13 (fun H locs hW hS => ?_)
        obtain ⟨μ1, hμ1⟩ : ∃ z, z = up2 μw 9 k (μw 5 k) := ⟨_, rfl⟩
        rw [← hμ1] at hW
        refine lv_iinc (v := nI (k + 1)) (lv' := [(2, .int (nI (k + 1))), (0, .ref (gm G 5)), (1, .ref (gm G 9))]) hx hb dX4_copy_14 hl (k := 0) rfl (inc1 k) (by decide) rfl (fun ls hl => ?_)
        refine lv_goto (tgt := 2) hx hb dX4_copy_17 (by decide) ?_
        exact ih_2 (k + 1) _ _ _ _ _ (by omega) rfl (by omega) hW hS (by subst hμ1; exact co_s hw0_2 (hw1_2 5 (by decide))) (fun a9 ha => by subst hμ1; rw [up2_ne ha]; exact hw1_2 a9 ha) hw2_2 ls (lv_sub hl [0, 1, 2] rfl)
  exact loop_2 _ 0 _ _ _ _ _ (Nat.lt_succ_self _) rfl (by omega) hW hS (fun f hf => absurd hf (by omega)) (fun _ _ => rfl) rfl ls (lv_sub hl [0, 1, 2] rfl)
set_option maxHeartbeats 4000000 in
set_option maxRecDepth 100000 in
theorem c_X4_copy83 (l : Launch) (G : Gam) (μ : St) (hs : Int64) : Met l yX4_copy (w1 yX4_copy cX4_copy 3 none) ({ frames := 0, cells := 0, slots := 0, locals := 0 }) (PcM G μ hs [.ref (gm G 8), .ref (gm G 3)]) (QvM G (fun u9 => CO μ hs 8 3 54 u9)) 0 0 (aM G) := by
  refine met_of [.ref (gm G 8), .ref (gm G 3)] [(0, .ref (gm G 8)), (1, .ref (gm G 3))] (by decide) (Nat.le_of_ble_eq_true rfl) rfl ?_
  intro p e s m below meth c hx hb hr hown hml hlocks hW ls hl
  have hG : GW s := hW.2.2.2
  have hS : va_S (aM G) s.heap s.heap [] := va_S.rf
  refine lv_iconst (v := 0) hx hb dX4_copy_0 (by decide) ?_
  refine lv_istore_n (lv' := [(2, .int 0), (0, .ref (gm G 8)), (1, .ref (gm G 3))]) hx hb dX4_copy_1 rfl hl (by decide) rfl (fun ls hl => ?_)
  have loop_2 : ∀ (N9 : Nat) (k : Nat) (ko : Int32) (μw : St) (hw : Int64) (H : Heap) (locs : List Loc), 54 - k < N9 → ko = nI k → k ≤ 54 → WM G μw hw s H → va_S (aM G) s.heap H locs → ((∀ f, f < k → μw 3 f = μ 8 f)) → ((∀ a9, a9 ≠ 3 → μw a9 = μ a9)) → hw = hs → ∀ ls : Array Slot, lv_has ls 3 [(2, .int ko), (0, .ref (gm G 8)), (1, .ref (gm G 3))] → W p l e (headSpec (w1 yX4_copy cX4_copy 3 none) ({ frames := 0, cells := 0, slots := 0, locals := 0 })).room s m [.ref (gm G 8), .ref (gm G 3)].toArray below meth c H locs 0 0 (MQ below (QvM G (fun u9 => CO μ hs 8 3 54 u9)) [.ref (gm G 8), .ref (gm G 3)].toArray s 0 0 (aM G)) (F0 m 2 ls []) := by
    intro N9
    induction N9 with
    | zero => intro k ko μw hw H locs hN; exact absurd hN (Nat.not_lt_zero _)
    | succ N9 ih =>
      intro k ko μw hw H locs hN e_ko hi0_2 hW hS hw0_2 hw1_2 hw2_2 ls hl
      subst e_ko
      have ih_2 := ih
      refine lv_iload_n hx hb dX4_copy_2 rfl (lv_at hl 0 rfl) ?_
      refine lv_aload_n hx hb dX4_copy_3 rfl (lv_at hl 1 rfl) ?_
      refine an_M 8 hx hb hW dX4_copy_4 ?_
      refine lv_icmp_ge (tgt := 20) hx hb dX4_copy_5 (by decide) (fun c_5 => ?_) (fun c_5 => ?_)
      · skip
        have q_5 := tN_le 54 k c_5 rfl rfl (by omega) (by omega)
        exact W.vret hx hb hr (fun t9 ht9 hW9 => ⟨⟨(μw, hw), rfl, ⟨hw2_2, fun f hf => hw0_2 f (by omega), hw1_2⟩, (by have h8 := hW.1; rw [← ht9] at h8; exact h8)⟩, hS.F ht9⟩) hS.2.2 dX4_copy_20
      · skip
        have q_5 := tN_nle 54 k c_5 rfl rfl (by omega) (by omega)
        refine lv_aload_n hx hb dX4_copy_8 rfl (lv_at hl 2 rfl) ?_
        refine lv_iload_n hx hb dX4_copy_9 rfl (lv_at hl 0 rfl) ?_
        refine lv_aload_n hx hb dX4_copy_10 rfl (lv_at hl 1 rfl) ?_
        refine lv_iload_n hx hb dX4_copy_11 rfl (lv_at hl 0 rfl) ?_
        refine al_M (k := k) 8 hx hb hW rfl (show _ < 54 by omega) dX4_copy_12 ?_
        refine as_M (k := k) 3 hx hb hW hS rfl (show _ < 54 by omega) dX4_copy_13 (fun H locs hW hS => ?_)
        obtain ⟨μ1, hμ1⟩ : ∃ z, z = up2 μw 3 k (μw 8 k) := ⟨_, rfl⟩
        rw [← hμ1] at hW
        refine lv_iinc (v := nI (k + 1)) (lv' := [(2, .int (nI (k + 1))), (0, .ref (gm G 8)), (1, .ref (gm G 3))]) hx hb dX4_copy_14 hl (k := 0) rfl (inc1 k) (by decide) rfl (fun ls hl => ?_)
        refine lv_goto (tgt := 2) hx hb dX4_copy_17 (by decide) ?_
        exact ih_2 (k + 1) _ _ _ _ _ (by omega) rfl (by omega) hW hS (by subst hμ1; exact co_s hw0_2 (hw1_2 8 (by decide))) (fun a9 ha => by subst hμ1; rw [up2_ne ha]; exact hw1_2 a9 ha) hw2_2 ls (lv_sub hl [0, 1, 2] rfl)
  exact loop_2 _ 0 _ _ _ _ _ (Nat.lt_succ_self _) rfl (by omega) hW hS (fun f hf => absurd hf (by omega)) (fun _ _ => rfl) rfl ls (lv_sub hl [0, 1, 2] rfl)
set_option maxHeartbeats 4000000 in
set_option maxRecDepth 100000 in
theorem c_X4_copy95 (l : Launch) (G : Gam) (μ : St) (hs : Int64) : Met l yX4_copy (w1 yX4_copy cX4_copy 3 none) ({ frames := 0, cells := 0, slots := 0, locals := 0 }) (PcM G μ hs [.ref (gm G 9), .ref (gm G 5)]) (QvM G (fun u9 => CO μ hs 9 5 16 u9)) 0 0 (aM G) := by
  refine met_of [.ref (gm G 9), .ref (gm G 5)] [(0, .ref (gm G 9)), (1, .ref (gm G 5))] (by decide) (Nat.le_of_ble_eq_true rfl) rfl ?_
  intro p e s m below meth c hx hb hr hown hml hlocks hW ls hl
  have hG : GW s := hW.2.2.2
  have hS : va_S (aM G) s.heap s.heap [] := va_S.rf
  refine lv_iconst (v := 0) hx hb dX4_copy_0 (by decide) ?_
  refine lv_istore_n (lv' := [(2, .int 0), (0, .ref (gm G 9)), (1, .ref (gm G 5))]) hx hb dX4_copy_1 rfl hl (by decide) rfl (fun ls hl => ?_)
  have loop_2 : ∀ (N9 : Nat) (k : Nat) (ko : Int32) (μw : St) (hw : Int64) (H : Heap) (locs : List Loc), 16 - k < N9 → ko = nI k → k ≤ 16 → WM G μw hw s H → va_S (aM G) s.heap H locs → ((∀ f, f < k → μw 5 f = μ 9 f)) → ((∀ a9, a9 ≠ 5 → μw a9 = μ a9)) → hw = hs → ∀ ls : Array Slot, lv_has ls 3 [(2, .int ko), (0, .ref (gm G 9)), (1, .ref (gm G 5))] → W p l e (headSpec (w1 yX4_copy cX4_copy 3 none) ({ frames := 0, cells := 0, slots := 0, locals := 0 })).room s m [.ref (gm G 9), .ref (gm G 5)].toArray below meth c H locs 0 0 (MQ below (QvM G (fun u9 => CO μ hs 9 5 16 u9)) [.ref (gm G 9), .ref (gm G 5)].toArray s 0 0 (aM G)) (F0 m 2 ls []) := by
    intro N9
    induction N9 with
    | zero => intro k ko μw hw H locs hN; exact absurd hN (Nat.not_lt_zero _)
    | succ N9 ih =>
      intro k ko μw hw H locs hN e_ko hi0_2 hW hS hw0_2 hw1_2 hw2_2 ls hl
      subst e_ko
      have ih_2 := ih
      refine lv_iload_n hx hb dX4_copy_2 rfl (lv_at hl 0 rfl) ?_
      refine lv_aload_n hx hb dX4_copy_3 rfl (lv_at hl 1 rfl) ?_
      refine an_M 9 hx hb hW dX4_copy_4 ?_
      refine lv_icmp_ge (tgt := 20) hx hb dX4_copy_5 (by decide) (fun c_5 => ?_) (fun c_5 => ?_)
      · skip
        have q_5 := tN_le 16 k c_5 rfl rfl (by omega) (by omega)
        exact W.vret hx hb hr (fun t9 ht9 hW9 => ⟨⟨(μw, hw), rfl, ⟨hw2_2, fun f hf => hw0_2 f (by omega), hw1_2⟩, (by have h8 := hW.1; rw [← ht9] at h8; exact h8)⟩, hS.F ht9⟩) hS.2.2 dX4_copy_20
      · skip
        have q_5 := tN_nle 16 k c_5 rfl rfl (by omega) (by omega)
        refine lv_aload_n hx hb dX4_copy_8 rfl (lv_at hl 2 rfl) ?_
        refine lv_iload_n hx hb dX4_copy_9 rfl (lv_at hl 0 rfl) ?_
        refine lv_aload_n hx hb dX4_copy_10 rfl (lv_at hl 1 rfl) ?_
        refine lv_iload_n hx hb dX4_copy_11 rfl (lv_at hl 0 rfl) ?_
        refine al_M (k := k) 9 hx hb hW rfl (show _ < 16 by omega) dX4_copy_12 ?_
        refine as_M (k := k) 5 hx hb hW hS rfl (show _ < 16 by omega) dX4_copy_13 (fun H locs hW hS => ?_)
        obtain ⟨μ1, hμ1⟩ : ∃ z, z = up2 μw 5 k (μw 9 k) := ⟨_, rfl⟩
        rw [← hμ1] at hW
        refine lv_iinc (v := nI (k + 1)) (lv' := [(2, .int (nI (k + 1))), (0, .ref (gm G 9)), (1, .ref (gm G 5))]) hx hb dX4_copy_14 hl (k := 0) rfl (inc1 k) (by decide) rfl (fun ls hl => ?_)
        refine lv_goto (tgt := 2) hx hb dX4_copy_17 (by decide) ?_
        exact ih_2 (k + 1) _ _ _ _ _ (by omega) rfl (by omega) hW hS (by subst hμ1; exact co_s hw0_2 (hw1_2 9 (by decide))) (fun a9 ha => by subst hμ1; rw [up2_ne ha]; exact hw1_2 a9 ha) hw2_2 ls (lv_sub hl [0, 1, 2] rfl)
  exact loop_2 _ 0 _ _ _ _ _ (Nat.lt_succ_self _) rfl (by omega) hW hS (fun f hf => absurd hf (by omega)) (fun _ _ => rfl) rfl ls (lv_sub hl [0, 1, 2] rfl)
set_option maxHeartbeats 4000000 in
set_option maxRecDepth 100000 in
theorem c_X4_laterOf (l : Launch) (G : Gam) (μ : St) (hs : Int64) (n : Nat) (S : Nat → Sk) (q : Nat) (V : Nat → Nat) (ch : Int32) (hg : RM μ n S q V ch) (a b : Nat) (ha : a < n) (h2 : b < n) (hab : a ≠ b) : Met l yX4_laterOf (w1 yX4_laterOf cX4_laterOf 6 (some .int)) ({ frames := 4, cells := 0, slots := 0, locals := 99 }) (PcM G μ hs [.ref (gm G 0), .int (nI a), .int (nI b)]) (QiM G (fun r u9 => r = ltF (laM S a b) 10 0 ∧ KQ μ u9)) 0 0 (aM G) := by
  refine met_of [.ref (gm G 0), .int (nI a), .int (nI b)] [(0, .ref (gm G 0)), (1, .int (nI a)), (2, .int (nI b))] (by decide) (Nat.le_of_ble_eq_true rfl) rfl ?_
  intro p e s m below meth c hx hb hr hown hml hlocks hW ls hl
  have hG : GW s := hW.2.2.2
  have hS : va_S (aM G) s.heap s.heap [] := va_S.rf
  have hn6 := hg.1.2
  have hq8 := hg.2.2.1.2
  refine lv_aload_n hx hb dX4_laterOf_0 rfl (lv_at hl 0 rfl) ?_
  refine rd_X4_16 hx hb hown hW dX4_laterOf_1 ?_
  refine lv_bipush (v := 9) hx hb dX4_laterOf_4 (by decide) ?_
  refine lv_iload_n hx hb dX4_laterOf_6 rfl (lv_at hl 2 rfl) ?_
  refine ln_mul 9 b hx hb rfl rfl dX4_laterOf_7 ?_
  refine lv_iconst (v := 2) hx hb dX4_laterOf_8 (by decide) ?_
  refine ln_add (9 * b) 2 hx hb rfl rfl dX4_laterOf_9 ?_
  refine al_M (k := (9 * b) + 2) 3 hx hb hW rfl (show _ < 54 by omega) dX4_laterOf_10 ?_
  refine lv_eqi (y := nI (S b 2)) (hg.2.2.2.1 b (by omega)).2.2.2.2.2.1 ?_
  refine lv_istore_n (lv' := [(3, .int (nI (S b 2))), (0, .ref (gm G 0)), (1, .int (nI a)), (2, .int (nI b))]) hx hb dX4_laterOf_11 rfl hl (by decide) rfl (fun ls hl => ?_)
  refine lv_iconst (v := (-1)) hx hb dX4_laterOf_12 (by decide) ?_
  refine lv_istore (lv' := [(4, .int ((-1))), (3, .int (nI (S b 2))), (0, .ref (gm G 0)), (1, .int (nI a)), (2, .int (nI b))]) hx hb dX4_laterOf_13 hl (by decide) rfl (fun ls hl => ?_)
  refine lv_bipush (v := 9) hx hb dX4_laterOf_15 (by decide) ?_
  refine lv_istore (lv' := [(5, .int 9), (4, .int ((-1))), (3, .int (nI (S b 2))), (0, .ref (gm G 0)), (1, .int (nI a)), (2, .int (nI b))]) hx hb dX4_laterOf_17 hl (by decide) rfl (fun ls hl => ?_)
  have loop_19 : ∀ (N9 : Nat) (v : Nat) (lo : Int32) (vo : Int32) (μw : St) (hw : Int64) (H : Heap) (locs : List Loc), v < N9 → lo = ltF (laM S a b) (10 - v) v → vo = vI v → v ≤ 10 → WM G μw hw s H → va_S (aM G) s.heap H locs → ((∀ a9 f9, (a9 = 3 → f9 ≠ 9 * b + 2) → μw a9 f9 = μ a9 f9)) → ∀ ls : Array Slot, lv_has ls 6 [(4, .int lo), (5, .int vo), (3, .int (nI (S b 2))), (0, .ref (gm G 0)), (1, .int (nI a)), (2, .int (nI b))] → W p l e (headSpec (w1 yX4_laterOf cX4_laterOf 6 (some .int)) ({ frames := 4, cells := 0, slots := 0, locals := 99 })).room s m [.ref (gm G 0), .int (nI a), .int (nI b)].toArray below meth c H locs 0 0 (MQ below (QiM G (fun r u9 => r = ltF (laM S a b) 10 0 ∧ KQ μ u9)) [.ref (gm G 0), .int (nI a), .int (nI b)].toArray s 0 0 (aM G)) (F0 m 19 ls []) := by
    intro N9
    induction N9 with
    | zero => intro v lo vo μw hw H locs hN; exact absurd hN (Nat.not_lt_zero _)
    | succ N9 ih =>
      intro v lo vo μw hw H locs hN e_lo e_vo hi0_19 hW hS hw0_19 ls hl
      subst e_lo
      subst e_vo
      have ih_19 := ih
      refine lv_iload hx hb dX4_laterOf_19 (lv_at hl 1 rfl) ?_
      rcases v with _ | v
      · skip
        have hl : lv_has ls 6 [(4, .int (ltF (laM S a b) 10 0)), (5, .int ((-1))), (3, .int (nI (S b 2))), (0, .ref (gm G 0)), (1, .int (nI a)), (2, .int (nI b))] := hl
        refine lv_if_lt (tgt := 61) hx hb dX4_laterOf_21 (by decide) (fun c_21 => ?_) (fun c_21 => ?_)
        · skip
          refine lv_aload_n hx hb dX4_laterOf_61 rfl (lv_at hl 3 rfl) ?_
          refine rd_X4_16 hx hb hown hW dX4_laterOf_62 ?_
          refine lv_bipush (v := 9) hx hb dX4_laterOf_65 (by decide) ?_
          refine lv_iload_n hx hb dX4_laterOf_67 rfl (lv_at hl 5 rfl) ?_
          refine ln_mul 9 b hx hb rfl rfl dX4_laterOf_68 ?_
          refine lv_iconst (v := 2) hx hb dX4_laterOf_69 (by decide) ?_
          refine ln_add (9 * b) 2 hx hb rfl rfl dX4_laterOf_70 ?_
          refine lv_iload_n hx hb dX4_laterOf_71 rfl (lv_at hl 2 rfl) ?_
          refine as_M (k := (9 * b) + 2) 3 hx hb hW hS rfl (show _ < 54 by omega) dX4_laterOf_72 (fun H locs hW hS => ?_)
          obtain ⟨μ1, hμ1⟩ : ∃ z, z = up2 μw 3 ((9 * b) + 2) (nI (S b 2)) := ⟨_, rfl⟩
          rw [← hμ1] at hW
          refine lv_iload hx hb dX4_laterOf_73 (lv_at hl 0 rfl) ?_
          exact W.iret (v := ltF (laM S a b) 10 0) hx hb hr (fun t9 ht9 hW9 => ⟨⟨_, (μ1, hw), rfl, ⟨rfl, fun a9 f9 _ _ _ _ _ => by subst hμ1; exact la_back hg h2 hw0_19 a9 f9⟩, (by have h8 := hW.1; rw [← ht9] at h8; exact h8)⟩, hS.F ht9⟩) hS.2.2 dX4_laterOf_75
        · skip
          exact absurd (by decide) c_21
      · skip
        have hl : lv_has ls 6 [(4, .int (ltF (laM S a b) (10 - (v + 1)) (v + 1))), (5, .int (nI v)), (3, .int (nI (S b 2))), (0, .ref (gm G 0)), (1, .int (nI a)), (2, .int (nI b))] := hl
        refine lv_if_lt (tgt := 61) hx hb dX4_laterOf_21 (by decide) (fun c_21 => ?_) (fun c_21 => ?_)
        · skip
          exact absurd (tN_lt v 0 c_21 rfl rfl (by omega) (by omega)) (by omega)
        · skip
          have q_21 := tN_nlt v 0 c_21 rfl rfl (by omega) (by omega)
          refine lv_aload_n hx hb dX4_laterOf_24 rfl (lv_at hl 3 rfl) ?_
          refine rd_X4_16 hx hb hown hW dX4_laterOf_25 ?_
          refine lv_bipush (v := 9) hx hb dX4_laterOf_28 (by decide) ?_
          refine lv_iload_n hx hb dX4_laterOf_30 rfl (lv_at hl 5 rfl) ?_
          refine ln_mul 9 b hx hb rfl rfl dX4_laterOf_31 ?_
          refine lv_iconst (v := 2) hx hb dX4_laterOf_32 (by decide) ?_
          refine ln_add (9 * b) 2 hx hb rfl rfl dX4_laterOf_33 ?_
          refine lv_iload hx hb dX4_laterOf_34 (lv_at hl 1 rfl) ?_
          refine as_M (k := (9 * b) + 2) 3 hx hb hW hS rfl (show _ < 54 by omega) dX4_laterOf_36 (fun H locs hW hS => ?_)
          obtain ⟨μ2, hμ2⟩ : ∃ z, z = up2 μw 3 ((9 * b) + 2) (nI v) := ⟨_, rfl⟩
          rw [← hμ2] at hW
          have hgv : RM μ2 n (wL S (lw S b v)) q V ch := by rw [hμ2]; exact hg.ltr h2 (by omega) hw0_19
          refine lv_aload_n hx hb dX4_laterOf_37 rfl (lv_at hl 3 rfl) ?_
          refine lv_iload_n hx hb dX4_laterOf_38 rfl (lv_at hl 4 rfl) ?_
          refine lv_iload_n hx hb dX4_laterOf_39 rfl (lv_at hl 5 rfl) ?_
          refine cr_i (q := 731) [.int (nI a), .int (nI b)] hx hb hml hown hG v_X4_meetOf (by decide +kernel) (c_X4_meetOf l G μ2 hw n (wL S (lw S b v)) q V ch hgv a b ha h2) (preM hW _) rfl hl.1 (Nat.le_of_ble_eq_true rfl) dX4_laterOf_40 ⟨rfl, rfl, Nat.le_of_ble_eq_true rfl, Nat.le_of_ble_eq_true rfl⟩ ⟨Nat.le_of_ble_eq_true rfl, Nat.le_of_ble_eq_true rfl⟩ ?_
          refine lv_eqi (y := nI (laM S a b v)) (congrArg nI (la_m (hg.2.2.2.1 a ha).1 (hg.2.2.2.1 b h2).1 hab)) ?_
          have hlm9 : laM S a b v ≤ 31 := meetN_le 31
          refine lv_if_le (tgt := 51) hx hb dX4_laterOf_43 (by decide) (fun c_43 => ?_) (fun c_43 => ?_)
          · skip
            have q_43 := tN_le (laM S a b v) 0 c_43 rfl rfl (by omega) (by omega)
            refine lv_iload hx hb dX4_laterOf_51 (lv_at hl 0 rfl) ?_
            refine lv_istore (lv' := [(4, .int (ltF (laM S a b) (10 - (v + 1)) (v + 1))), (5, .int (nI v)), (3, .int (nI (S b 2))), (0, .ref (gm G 0)), (1, .int (nI a)), (2, .int (nI b))]) hx hb dX4_laterOf_53 hl (by decide) rfl (fun ls hl => ?_)
            refine lv_iinc (v := vI v) (lv' := [(5, .int (vI v)), (4, .int (ltF (laM S a b) (10 - (v + 1)) (v + 1))), (3, .int (nI (S b 2))), (0, .ref (gm G 0)), (1, .int (nI a)), (2, .int (nI b))]) hx hb dX4_laterOf_55 hl (k := 1) rfl vI_s (by decide) rfl (fun ls hl => ?_)
            refine lv_goto (tgt := 19) hx hb dX4_laterOf_58 (by decide) ?_
            exact ih_19 v _ _ _ _ _ _ (by omega) (by first | exact la_y (by omega) q_43 | exact la_n (by omega) q_43) rfl (by omega) hW hS (fun a9 f9 h9 => by subst hμ2; rw [up2_o h9]; exact hw0_19 a9 f9 h9) ls (lv_sub hl [1, 0, 2, 3, 4, 5] rfl)
          · skip
            have q_43 := tN_nle (laM S a b v) 0 c_43 rfl rfl (by omega) (by omega)
            refine lv_iload hx hb dX4_laterOf_46 (lv_at hl 1 rfl) ?_
            refine lv_goto (tgt := 53) hx hb dX4_laterOf_48 (by decide) ?_
            refine lv_istore (lv' := [(4, .int (nI v)), (5, .int (nI v)), (3, .int (nI (S b 2))), (0, .ref (gm G 0)), (1, .int (nI a)), (2, .int (nI b))]) hx hb dX4_laterOf_53 hl (by decide) rfl (fun ls hl => ?_)
            refine lv_iinc (v := vI v) (lv' := [(5, .int (vI v)), (4, .int (nI v)), (3, .int (nI (S b 2))), (0, .ref (gm G 0)), (1, .int (nI a)), (2, .int (nI b))]) hx hb dX4_laterOf_55 hl (k := 1) rfl vI_s (by decide) rfl (fun ls hl => ?_)
            refine lv_goto (tgt := 19) hx hb dX4_laterOf_58 (by decide) ?_
            exact ih_19 v _ _ _ _ _ _ (by omega) (by first | exact la_y (by omega) q_43 | exact la_n (by omega) q_43) rfl (by omega) hW hS (fun a9 f9 h9 => by subst hμ2; rw [up2_o h9]; exact hw0_19 a9 f9 h9) ls (lv_sub hl [1, 0, 2, 3, 4, 5] rfl)
  exact loop_19 _ 10 _ _ _ _ _ _ (Nat.lt_succ_self _) rfl rfl (by omega) hW hS (fun _ _ _ => rfl) ls (lv_sub hl [1, 0, 2, 3, 4, 5] rfl)
set_option maxHeartbeats 4000000 in
set_option maxRecDepth 100000 in
theorem c_X4_later (l : Launch) (G : Gam) (μ : St) (hs : Int64) (n : Nat) (S : Nat → Sk) (q : Nat) (V : Nat → Nat) (ch : Int32) (hg : RM μ n S q V ch) (x y : Int32) : Met l yX4_later (w1 yX4_later cX4_later 3 (some .int)) ({ frames := 5, cells := 0, slots := 0, locals := 124 }) (PcM G μ hs [.ref (gm G 0), .int x, .int y]) (QiM G (fun r u9 => r = aLater n S x y ∧ KQ μ u9)) 0 0 (aM G) := by
  have hn6 := hg.1.2
  have hq8 := hg.2.2.1.2
  rcases hasB_c x (n := n) (by omega) with hx0 | ⟨k, hk, rfl⟩
  · skip
    refine met_of [.ref (gm G 0), .int x, .int y] [(0, .ref (gm G 0)), (1, .int x), (2, .int y)] (by decide) (Nat.le_of_ble_eq_true rfl) rfl ?_
    intro p e s m below meth c hx hb hr hown hml hlocks hW ls hl
    have hG : GW s := hW.2.2.2
    have hS : va_S (aM G) s.heap s.heap [] := va_S.rf
    refine lv_aload_n hx hb dX4_later_0 rfl (lv_at hl 0 rfl) ?_
    refine lv_iload_n hx hb dX4_later_1 rfl (lv_at hl 1 rfl) ?_
    refine lv_iload_n hx hb dX4_later_2 rfl (lv_at hl 2 rfl) ?_
    refine cr_i (q := 727) [.int x, .int y] hx hb hml hown hG v_X4_areTwo (by decide +kernel) (c_X4_areTwo l G μ hs n S q V ch hg (x) (y)) (preM hW _) rfl hl.1 (Nat.le_of_ble_eq_true rfl) dX4_later_3 ⟨rfl, rfl, Nat.le_of_ble_eq_true rfl, Nat.le_of_ble_eq_true rfl⟩ ⟨Nat.le_of_ble_eq_true rfl, Nat.le_of_ble_eq_true rfl⟩ ?_
    refine lv_eqi (y := 0) (by rw [hx0]; rfl) ?_
    refine lv_if_eq (tgt := 18) hx hb dX4_later_6 (by decide) (fun c_6 => ?_) (fun c_6 => ?_)
    · skip
      refine lv_bipush (v := (-101)) hx hb dX4_later_18 (by decide) ?_
      exact W.iret (v := (-101)) hx hb hr (fun t9 ht9 hW9 => ⟨⟨_, (μ, hs), rfl, ⟨(by rw [aLater, w2_f1 hx0]), KQ.rf⟩, (by have h8 := hW.1; rw [← ht9] at h8; exact h8)⟩, hS.F ht9⟩) hS.2.2 dX4_later_20
    · skip
      exact absurd (by decide) c_6
  · skip
    rcases hasB_c y (n := n) (by omega) with hy0 | ⟨t, ht, rfl⟩
    · skip
      refine met_of [.ref (gm G 0), .int (nI k), .int y] [(0, .ref (gm G 0)), (1, .int (nI k)), (2, .int y)] (by decide) (Nat.le_of_ble_eq_true rfl) rfl ?_
      intro p e s m below meth c hx hb hr hown hml hlocks hW ls hl
      have hG : GW s := hW.2.2.2
      have hS : va_S (aM G) s.heap s.heap [] := va_S.rf
      refine lv_aload_n hx hb dX4_later_0 rfl (lv_at hl 0 rfl) ?_
      refine lv_iload_n hx hb dX4_later_1 rfl (lv_at hl 1 rfl) ?_
      refine lv_iload_n hx hb dX4_later_2 rfl (lv_at hl 2 rfl) ?_
      refine cr_i (q := 727) [.int (nI k), .int y] hx hb hml hown hG v_X4_areTwo (by decide +kernel) (c_X4_areTwo l G μ hs n S q V ch hg (nI k) (y)) (preM hW _) rfl hl.1 (Nat.le_of_ble_eq_true rfl) dX4_later_3 ⟨rfl, rfl, Nat.le_of_ble_eq_true rfl, Nat.le_of_ble_eq_true rfl⟩ ⟨Nat.le_of_ble_eq_true rfl, Nat.le_of_ble_eq_true rfl⟩ ?_
      refine lv_eqi (y := 0) (by rw [hy0, hasB_k hk (by omega)]; rfl) ?_
      refine lv_if_eq (tgt := 18) hx hb dX4_later_6 (by decide) (fun c_6 => ?_) (fun c_6 => ?_)
      · skip
        refine lv_bipush (v := (-101)) hx hb dX4_later_18 (by decide) ?_
        exact W.iret (v := (-101)) hx hb hr (fun t9 ht9 hW9 => ⟨⟨_, (μ, hs), rfl, ⟨(by rw [aLater, w2_f2 hk (by omega) hy0]), KQ.rf⟩, (by have h8 := hW.1; rw [← ht9] at h8; exact h8)⟩, hS.F ht9⟩) hS.2.2 dX4_later_20
      · skip
        exact absurd (by decide) c_6
    · skip
      by_cases hkt : k = t
      · skip
        refine met_of [.ref (gm G 0), .int (nI k), .int (nI t)] [(0, .ref (gm G 0)), (1, .int (nI k)), (2, .int (nI t))] (by decide) (Nat.le_of_ble_eq_true rfl) rfl ?_
        intro p e s m below meth c hx hb hr hown hml hlocks hW ls hl
        have hG : GW s := hW.2.2.2
        have hS : va_S (aM G) s.heap s.heap [] := va_S.rf
        refine lv_aload_n hx hb dX4_later_0 rfl (lv_at hl 0 rfl) ?_
        refine lv_iload_n hx hb dX4_later_1 rfl (lv_at hl 1 rfl) ?_
        refine lv_iload_n hx hb dX4_later_2 rfl (lv_at hl 2 rfl) ?_
        refine cr_i (q := 727) [.int (nI k), .int (nI t)] hx hb hml hown hG v_X4_areTwo (by decide +kernel) (c_X4_areTwo l G μ hs n S q V ch hg (nI k) (nI t)) (preM hW _) rfl hl.1 (Nat.le_of_ble_eq_true rfl) dX4_later_3 ⟨rfl, rfl, Nat.le_of_ble_eq_true rfl, Nat.le_of_ble_eq_true rfl⟩ ⟨Nat.le_of_ble_eq_true rfl, Nat.le_of_ble_eq_true rfl⟩ ?_
        refine lv_eqi (y := 0) (by subst hkt; simp [bI]) ?_
        refine lv_if_eq (tgt := 18) hx hb dX4_later_6 (by decide) (fun c_6 => ?_) (fun c_6 => ?_)
        · skip
          refine lv_bipush (v := (-101)) hx hb dX4_later_18 (by decide) ?_
          exact W.iret (v := (-101)) hx hb hr (fun t9 ht9 hW9 => ⟨⟨_, (μ, hs), rfl, ⟨(by subst hkt; rw [aLater, w2_e hk (by omega)]), KQ.rf⟩, (by have h8 := hW.1; rw [← ht9] at h8; exact h8)⟩, hS.F ht9⟩) hS.2.2 dX4_later_20
        · skip
          exact absurd (by decide) c_6
      · skip
        refine met_of [.ref (gm G 0), .int (nI k), .int (nI t)] [(0, .ref (gm G 0)), (1, .int (nI k)), (2, .int (nI t))] (by decide) (Nat.le_of_ble_eq_true rfl) rfl ?_
        intro p e s m below meth c hx hb hr hown hml hlocks hW ls hl
        have hG : GW s := hW.2.2.2
        have hS : va_S (aM G) s.heap s.heap [] := va_S.rf
        refine lv_aload_n hx hb dX4_later_0 rfl (lv_at hl 0 rfl) ?_
        refine lv_iload_n hx hb dX4_later_1 rfl (lv_at hl 1 rfl) ?_
        refine lv_iload_n hx hb dX4_later_2 rfl (lv_at hl 2 rfl) ?_
        refine cr_i (q := 727) [.int (nI k), .int (nI t)] hx hb hml hown hG v_X4_areTwo (by decide +kernel) (c_X4_areTwo l G μ hs n S q V ch hg (nI k) (nI t)) (preM hW _) rfl hl.1 (Nat.le_of_ble_eq_true rfl) dX4_later_3 ⟨rfl, rfl, Nat.le_of_ble_eq_true rfl, Nat.le_of_ble_eq_true rfl⟩ ⟨Nat.le_of_ble_eq_true rfl, Nat.le_of_ble_eq_true rfl⟩ ?_
        refine lv_eqi (y := 1) (by rw [hasB_k hk (by omega), hasB_k ht (by omega), decide_eq_true (show ¬ nI k = nI t from fun z => hkt ((nI_eq (by omega) (by omega)).mp z))]; rfl) ?_
        refine lv_if_eq (tgt := 18) hx hb dX4_later_6 (by decide) (fun c_6 => ?_) (fun c_6 => ?_)
        · skip
          exact absurd c_6 (by decide)
        · skip
          refine lv_aload_n hx hb dX4_later_9 rfl (lv_at hl 0 rfl) ?_
          refine lv_iload_n hx hb dX4_later_10 rfl (lv_at hl 1 rfl) ?_
          refine lv_iload_n hx hb dX4_later_11 rfl (lv_at hl 2 rfl) ?_
          refine cm_i (q := 752) [.int (nI k), .int (nI t)] hx hb hml hown hW.2 hS v_X4_laterOf (by decide +kernel) (c_X4_laterOf l G μ hs n S q V ch hg k t hk ht hkt) (preM hW _) rfl hl.1 (Nat.le_of_ble_eq_true rfl) dX4_later_12 ⟨rfl, rfl, Nat.le_of_ble_eq_true rfl, Nat.le_of_ble_eq_true rfl⟩ ⟨Nat.le_of_ble_eq_true rfl, Nat.le_of_ble_eq_true rfl⟩ (fun r_12 μ1 hs1 H locs hμ1 hW hS => ?_)
          obtain ⟨hr2, hk2⟩ := hμ1
          subst hr2
          refine lv_goto (tgt := 20) hx hb dX4_later_15 (by decide) ?_
          exact W.iret (v := ltF (laM S k t) 10 0) hx hb hr (fun t9 ht9 hW9 => ⟨⟨_, (μ1, hs1), rfl, ⟨(by rw [aLater, w2_k hk ht (by omega) hkt]), hk2⟩, (by have h8 := hW.1; rw [← ht9] at h8; exact h8)⟩, hS.F ht9⟩) hS.2.2 dX4_later_20
set_option maxHeartbeats 4000000 in
set_option maxRecDepth 100000 in
theorem c_X4_draw (l : Launch) (G : Gam) (μ : St) (hs : Int64) (m9 : Nat) (hm9 : m9 < 2 ^ 31) (hsd : μ 0 13 = nI m9) : Met l yX4_draw (w1 yX4_draw cX4_draw 2 (some .int)) ({ frames := 0, cells := 0, slots := 0, locals := 0 }) (PcM G μ hs [.ref (gm G 0), .int 4]) (QiM G (fun r u9 => r = nI (nxN m9 / 65536 % 4) ∧ u9.1 = up2 μ 0 13 (nI (nxN m9)))) 0 0 (aM G) := by
  refine met_of [.ref (gm G 0), .int 4] [(0, .ref (gm G 0)), (1, .int 4)] (by decide) (Nat.le_of_ble_eq_true rfl) rfl ?_
  intro p e s m below meth c hx hb hr hown hml hlocks hW ls hl
  have hG : GW s := hW.2.2.2
  have hS : va_S (aM G) s.heap s.heap [] := va_S.rf
  have hnx := nxN_lt m9
  refine lv_aload_n hx hb dX4_draw_0 rfl (lv_at hl 0 rfl) ?_
  refine lv_ldc2 (v := 1103515245) hx hb hown (hG.use (i := 822) (by decide +kernel) rfl _) dX4_draw_1 ?_
  refine lv_aload_n hx hb dX4_draw_4 rfl (lv_at hl 0 rfl) ?_
  refine rd_X4_165 hx hb hown hW dX4_draw_5 ?_
  refine lv_eqi (y := nI m9) hsd ?_
  refine lv_i2l hx hb dX4_draw_8 rfl ?_
  refine lv_lmul hx hb dX4_draw_9 ?_
  refine lv_ldc2 (v := 12345) hx hb hown (hG.use (i := 823) (by decide +kernel) rfl _) dX4_draw_10 ?_
  refine lv_ladd hx hb dX4_draw_13 ?_
  refine lv_ldc2 (v := 2147483647) hx hb hown (hG.use (i := 824) (by decide +kernel) rfl _) dX4_draw_14 ?_
  refine lv_land hx hb dX4_draw_17 ?_
  refine lv_l2i hx hb dX4_draw_18 rfl ?_
  refine lv_eqi (y := nI (nxN m9)) (nxS hm9) ?_
  refine wr_X4_165 hx hb hown hW hS dX4_draw_19 (fun H locs hW hS => ?_)
  obtain ⟨μ1, hμ1⟩ : ∃ z, z = up2 μ (0) 13 (nI (nxN m9)) := ⟨_, rfl⟩
  rw [← hμ1] at hW
  refine lv_aload_n hx hb dX4_draw_22 rfl (lv_at hl 0 rfl) ?_
  refine rd_X4_165 hx hb hown hW dX4_draw_23 ?_
  refine lv_eqi (y := nI (nxN m9)) (by rw [hμ1, up2_eq]) ?_
  refine lv_ldc (v := 65536) hx hb hown (hG.use (i := 825) (by decide +kernel) rfl _) dX4_draw_26 ?_
  refine ln_div (nxN m9) 65536 hx hb rfl rfl hnx (by omega) (by omega) dX4_draw_28 ?_
  refine lv_iload_n hx hb dX4_draw_29 rfl (lv_at hl 1 rfl) ?_
  refine ln_rem ((nxN m9) / 65536) 4 hx hb rfl rfl (Nat.lt_of_le_of_lt (Nat.div_le_self _ _) hnx) (by omega) (by omega) dX4_draw_30 ?_
  exact W.iret (v := nI (((nxN m9) / 65536) % 4)) hx hb hr (fun t9 ht9 hW9 => ⟨⟨_, (μ1, hs), rfl, ⟨rfl, hμ1⟩, (by have h8 := hW.1; rw [← ht9] at h8; exact h8)⟩, hS.F ht9⟩) hS.2.2 dX4_draw_31
def MW (μ : St) (n : Nat) (μ' : St) : Prop := ∀ a f, a ≠ 7 → (a = 0 → f ≠ 13) → (a = 3 → ∀ k, k < n → f ≠ 9 * k + 2) → μ' a f = μ a f
theorem MW.rm {μ μ' : St} {n : Nat} {S : Nat → Sk} {q : Nat} {V : Nat → Nat} {ch : Int32} (h : MW μ n μ') (hg : RM μ n S q V ch) (L : Nat → Nat) (hL : ∀ k, k < n → μ' 3 (9 * k + 2) = nI (L k) ∧ L k ≤ 9) : RM μ' n (wL S L) q V ch :=
  hg.wl L (fun f hf => h 0 f (by decide) (fun _ => hf) (fun z => absurd z (by decide))) (funext fun f => h 5 f (by decide) (fun z => absurd z (by decide)) (fun z => absurd z (by decide))) hL (fun f hf => h 3 f (by decide) (fun z => absurd z (by decide)) (fun _ => hf))
theorem MW.s13 {μ μ' : St} {n : Nat} {v : Int32} (h : MW μ n μ') : MW μ n (up2 μ' 0 13 v) := fun a f h7 h0 h3 => by rw [up2_o h0]; exact h a f h7 h0 h3
theorem MW.s3 {μ μ' : St} {n k : Nat} {v : Int32} (h : MW μ n μ') (hk : k < n) : MW μ n (up2 μ' 3 (9 * k + 2) v) := fun a f h7 h0 h3 => by rw [up2_o (fun z => h3 z k hk)]; exact h a f h7 h0 h3
theorem mo_back {μ μw μ8 : St} {hs8 hw8 : Int64} {n : Nat} (h7 : ∀ f, f < 54 → μw 7 f = μ 3 f) (h : MW μ n μw) (hc : CO μw hw8 7 3 54 (μ8, hs8)) : KQ μ (μ8, hs8) := by
  intro a f h4 h6 h7' h0 h3
  by_cases e9 : a = 3
  · subst e9; exact (hc.2.1 f (h3 rfl)).trans (h7 f (h3 rfl))
  · exact (congrFun (hc.2.2 a e9) f).trans (h a f h7' h0 (fun z => absurd z e9))
theorem dw_step {μ1 : St} {k : Nat} {f : Nat → Nat} (h : ∀ i, i < k → μ1 3 (9 * i + 2) = nI (f i)) : ∀ i, i < k + 1 → up2 μ1 3 (9 * k + 2) (nI (f k)) 3 (9 * i + 2) = nI (f i) := by
  intro i hi
  by_cases e9 : i = k
  · subst e9; rw [up2_eq]
  · rw [up2_nf (by omega)]; exact h i (by omega)
set_option maxHeartbeats 4000000 in
set_option maxRecDepth 100000 in
theorem c_X4_mornings (l : Launch) (G : Gam) (μ : St) (hs : Int64) (n : Nat) (S : Nat → Sk) (q : Nat) (V : Nat → Nat) (ch : Int32) (hg : RM μ n S q V ch) (x y w9 : Int32) : Met l yX4_mornings (w1 yX4_mornings cX4_mornings 7 (some .int)) ({ frames := 5, cells := 0, slots := 0, locals := 122 }) (PcM G μ hs [.ref (gm G 0), .int x, .int y, .int w9]) (QiM G (fun r u9 => r = aMorn n S x y w9 ∧ KQ μ u9)) 0 0 (aM G) := by
  have hn6 := hg.1.2
  have hq8 := hg.2.2.1.2
  rcases hasB_c x (n := 21) (by omega) with hx0 | ⟨k, hk, rfl⟩
  · skip
    refine met_of [.ref (gm G 0), .int x, .int y, .int w9] [(0, .ref (gm G 0)), (1, .int x), (2, .int y), (3, .int w9)] (by decide) (Nat.le_of_ble_eq_true rfl) rfl ?_
    intro p e s m below meth c hx hb hr hown hml hlocks hW ls hl
    have hG : GW s := hW.2.2.2
    have hS : va_S (aM G) s.heap s.heap [] := va_S.rf
    refine lv_iload_n hx hb dX4_mornings_0 rfl (lv_at hl 1 rfl) ?_
    refine lv_i2l hx hb dX4_mornings_1 rfl ?_
    refine lv_lconst (v := 1) hx hb dX4_mornings_2 rfl ?_
    refine lv_ldc2 (v := 20) hx hb hown (hG.use (i := 813) (by decide +kernel) rfl _) dX4_mornings_3 ?_
    refine cs_i (q := 641) [.long ((x : Int32).toInt64), .long 1, .long 20] hx hb hml hown hG v_X4_in (by decide +kernel) (c_X4_in l ((x : Int32).toInt64) (1) (20)) (preT _) rfl hl.1 (Nat.le_of_ble_eq_true rfl) dX4_mornings_6 ⟨rfl, rfl, Nat.le_of_ble_eq_true rfl, Nat.le_of_ble_eq_true rfl⟩ ⟨Nat.le_of_ble_eq_true rfl, Nat.le_of_ble_eq_true rfl⟩ ?_
    refine lv_eqi (y := 0) (by rw [show inL x.toInt64 1 20 = _ from inF 1 20 (by omega) (by omega) hx0]; rfl) ?_
    refine lv_if_eq (tgt := 28) hx hb dX4_mornings_9 (by decide) (fun c_9 => ?_) (fun c_9 => ?_)
    · skip
      refine lv_bipush (v := (-102)) hx hb dX4_mornings_28 (by decide) ?_
      exact W.iret (v := (-102)) hx hb hr (fun t9 ht9 hW9 => ⟨⟨_, (μ, hs), rfl, ⟨(wK_f hx0).symm, KQ.rf⟩, (by have h8 := hW.1; rw [← ht9] at h8; exact h8)⟩, hS.F ht9⟩) hS.2.2 dX4_mornings_30
    · skip
      exact absurd (by decide) c_9
  · skip
    rcases Nat.eq_zero_or_pos k with hk0 | hk0
    · skip
      refine met_of [.ref (gm G 0), .int (nI k), .int y, .int w9] [(0, .ref (gm G 0)), (1, .int (nI k)), (2, .int y), (3, .int w9)] (by decide) (Nat.le_of_ble_eq_true rfl) rfl ?_
      intro p e s m below meth c hx hb hr hown hml hlocks hW ls hl
      have hG : GW s := hW.2.2.2
      have hS : va_S (aM G) s.heap s.heap [] := va_S.rf
      refine lv_iload_n hx hb dX4_mornings_0 rfl (lv_at hl 1 rfl) ?_
      refine lv_i2l hx hb dX4_mornings_1 rfl ?_
      refine lv_lconst (v := 1) hx hb dX4_mornings_2 rfl ?_
      refine lv_ldc2 (v := 20) hx hb hown (hG.use (i := 813) (by decide +kernel) rfl _) dX4_mornings_3 ?_
      refine cs_i (q := 641) [.long ((nI k : Int32).toInt64), .long 1, .long 20] hx hb hml hown hG v_X4_in (by decide +kernel) (c_X4_in l ((nI k : Int32).toInt64) (1) (20)) (preT _) rfl hl.1 (Nat.le_of_ble_eq_true rfl) dX4_mornings_6 ⟨rfl, rfl, Nat.le_of_ble_eq_true rfl, Nat.le_of_ble_eq_true rfl⟩ ⟨Nat.le_of_ble_eq_true rfl, Nat.le_of_ble_eq_true rfl⟩ ?_
      refine lv_eqi (y := 0) (by subst hk0; decide) ?_
      refine lv_if_eq (tgt := 28) hx hb dX4_mornings_9 (by decide) (fun c_9 => ?_) (fun c_9 => ?_)
      · skip
        refine lv_bipush (v := (-102)) hx hb dX4_mornings_28 (by decide) ?_
        exact W.iret (v := (-102)) hx hb hr (fun t9 ht9 hW9 => ⟨⟨_, (μ, hs), rfl, ⟨by rw [aMorn, wK_k hk (by omega), if_pos hk0], KQ.rf⟩, (by have h8 := hW.1; rw [← ht9] at h8; exact h8)⟩, hS.F ht9⟩) hS.2.2 dX4_mornings_30
      · skip
        exact absurd (by decide) c_9
    · skip
      rcases hasB_c w9 (n := 3) (by omega) with hw0 | ⟨t, ht, rfl⟩
      · skip
        refine met_of [.ref (gm G 0), .int (nI k), .int y, .int w9] [(0, .ref (gm G 0)), (1, .int (nI k)), (2, .int y), (3, .int w9)] (by decide) (Nat.le_of_ble_eq_true rfl) rfl ?_
        intro p e s m below meth c hx hb hr hown hml hlocks hW ls hl
        have hG : GW s := hW.2.2.2
        have hS : va_S (aM G) s.heap s.heap [] := va_S.rf
        refine lv_iload_n hx hb dX4_mornings_0 rfl (lv_at hl 1 rfl) ?_
        refine lv_i2l hx hb dX4_mornings_1 rfl ?_
        refine lv_lconst (v := 1) hx hb dX4_mornings_2 rfl ?_
        refine lv_ldc2 (v := 20) hx hb hown (hG.use (i := 813) (by decide +kernel) rfl _) dX4_mornings_3 ?_
        refine cs_i (q := 641) [.long ((nI k : Int32).toInt64), .long 1, .long 20] hx hb hml hown hG v_X4_in (by decide +kernel) (c_X4_in l ((nI k : Int32).toInt64) (1) (20)) (preT _) rfl hl.1 (Nat.le_of_ble_eq_true rfl) dX4_mornings_6 ⟨rfl, rfl, Nat.le_of_ble_eq_true rfl, Nat.le_of_ble_eq_true rfl⟩ ⟨Nat.le_of_ble_eq_true rfl, Nat.le_of_ble_eq_true rfl⟩ ?_
        refine lv_eqi (y := 1) (by rw [show inL (nI k).toInt64 1 20 = _ from @inL_n k 1 20 (by omega) (by omega) (by omega), decide_eq_true (by omega)]; rfl) ?_
        refine lv_if_eq (tgt := 28) hx hb dX4_mornings_9 (by decide) (fun c_9 => ?_) (fun c_9 => ?_)
        · skip
          exact absurd c_9 (by decide)
        · skip
          refine lv_iload_n hx hb dX4_mornings_12 rfl (lv_at hl 2 rfl) ?_
          refine lv_if_lt (tgt := 28) hx hb dX4_mornings_13 (by decide) (fun c_13 => ?_) (fun c_13 => ?_)
          · skip
            refine lv_bipush (v := (-102)) hx hb dX4_mornings_28 (by decide) ?_
            exact W.iret (v := (-102)) hx hb hr (fun t9 ht9 hW9 => ⟨⟨_, (μ, hs), rfl, ⟨by rw [aMorn, wK_k hk (by omega), if_neg (by omega), if_pos c_13], KQ.rf⟩, (by have h8 := hW.1; rw [← ht9] at h8; exact h8)⟩, hS.F ht9⟩) hS.2.2 dX4_mornings_30
          · skip
            obtain ⟨m9, hm9, rfl⟩ := nneg c_13
            · skip
              have hl : lv_has ls 7 [(0, .ref (gm G 0)), (1, .int (nI k)), (2, .int (nI m9)), (3, .int w9)] := hl
              refine lv_iload_n hx hb dX4_mornings_16 rfl (lv_at hl 3 rfl) ?_
              refine lv_i2l hx hb dX4_mornings_17 rfl ?_
              refine lv_lconst (v := 0) hx hb dX4_mornings_18 rfl ?_
              refine lv_ldc2 (v := 2) hx hb hown (hG.use (i := 814) (by decide +kernel) rfl _) dX4_mornings_19 ?_
              refine cs_i (q := 641) [.long ((w9 : Int32).toInt64), .long 0, .long 2] hx hb hml hown hG v_X4_in (by decide +kernel) (c_X4_in l ((w9 : Int32).toInt64) (0) (2)) (preT _) rfl hl.1 (Nat.le_of_ble_eq_true rfl) dX4_mornings_22 ⟨rfl, rfl, Nat.le_of_ble_eq_true rfl, Nat.le_of_ble_eq_true rfl⟩ ⟨Nat.le_of_ble_eq_true rfl, Nat.le_of_ble_eq_true rfl⟩ ?_
              refine lv_eqi (y := 0) (by rw [inI _ 2 2 rfl (by omega), hw0]; rfl) ?_
              refine lv_if_ne (tgt := 31) hx hb dX4_mornings_25 (by decide) (fun c_25 => ?_) (fun c_25 => ?_)
              · skip
                exact absurd (by decide) c_25
              · skip
                refine lv_bipush (v := (-102)) hx hb dX4_mornings_28 (by decide) ?_
                exact W.iret (v := (-102)) hx hb hr (fun t9 ht9 hW9 => ⟨⟨_, (μ, hs), rfl, ⟨by rw [aMorn, wK_k hk (by omega), if_neg (by omega), if_neg c_13, wK_f hw0], KQ.rf⟩, (by have h8 := hW.1; rw [← ht9] at h8; exact h8)⟩, hS.F ht9⟩) hS.2.2 dX4_mornings_30
      · skip
        rcases sw3 ht with rfl | rfl | rfl
        · skip
          refine met_of [.ref (gm G 0), .int (nI k), .int y, .int 0] [(0, .ref (gm G 0)), (1, .int (nI k)), (2, .int y), (3, .int 0)] (by decide) (Nat.le_of_ble_eq_true rfl) rfl ?_
          intro p e s m below meth c hx hb hr hown hml hlocks hW ls hl
          have hG : GW s := hW.2.2.2
          have hS : va_S (aM G) s.heap s.heap [] := va_S.rf
          refine lv_iload_n hx hb dX4_mornings_0 rfl (lv_at hl 1 rfl) ?_
          refine lv_i2l hx hb dX4_mornings_1 rfl ?_
          refine lv_lconst (v := 1) hx hb dX4_mornings_2 rfl ?_
          refine lv_ldc2 (v := 20) hx hb hown (hG.use (i := 813) (by decide +kernel) rfl _) dX4_mornings_3 ?_
          refine cs_i (q := 641) [.long ((nI k : Int32).toInt64), .long 1, .long 20] hx hb hml hown hG v_X4_in (by decide +kernel) (c_X4_in l ((nI k : Int32).toInt64) (1) (20)) (preT _) rfl hl.1 (Nat.le_of_ble_eq_true rfl) dX4_mornings_6 ⟨rfl, rfl, Nat.le_of_ble_eq_true rfl, Nat.le_of_ble_eq_true rfl⟩ ⟨Nat.le_of_ble_eq_true rfl, Nat.le_of_ble_eq_true rfl⟩ ?_
          refine lv_eqi (y := 1) (by rw [show inL (nI k).toInt64 1 20 = _ from @inL_n k 1 20 (by omega) (by omega) (by omega), decide_eq_true (by omega)]; rfl) ?_
          refine lv_if_eq (tgt := 28) hx hb dX4_mornings_9 (by decide) (fun c_9 => ?_) (fun c_9 => ?_)
          · skip
            exact absurd c_9 (by decide)
          · skip
            refine lv_iload_n hx hb dX4_mornings_12 rfl (lv_at hl 2 rfl) ?_
            refine lv_if_lt (tgt := 28) hx hb dX4_mornings_13 (by decide) (fun c_13 => ?_) (fun c_13 => ?_)
            · skip
              refine lv_bipush (v := (-102)) hx hb dX4_mornings_28 (by decide) ?_
              exact W.iret (v := (-102)) hx hb hr (fun t9 ht9 hW9 => ⟨⟨_, (μ, hs), rfl, ⟨by rw [aMorn, wK_k hk (by omega), if_neg (by omega), if_pos c_13], KQ.rf⟩, (by have h8 := hW.1; rw [← ht9] at h8; exact h8)⟩, hS.F ht9⟩) hS.2.2 dX4_mornings_30
            · skip
              obtain ⟨m9, hm9, rfl⟩ := nneg c_13
              · skip
                have hl : lv_has ls 7 [(0, .ref (gm G 0)), (1, .int (nI k)), (2, .int (nI m9)), (3, .int 0)] := hl
                refine lv_iload_n hx hb dX4_mornings_16 rfl (lv_at hl 3 rfl) ?_
                refine lv_i2l hx hb dX4_mornings_17 rfl ?_
                refine lv_lconst (v := 0) hx hb dX4_mornings_18 rfl ?_
                refine lv_ldc2 (v := 2) hx hb hown (hG.use (i := 814) (by decide +kernel) rfl _) dX4_mornings_19 ?_
                refine cs_i (q := 641) [.long ((0 : Int32).toInt64), .long 0, .long 2] hx hb hml hown hG v_X4_in (by decide +kernel) (c_X4_in l ((0 : Int32).toInt64) (0) (2)) (preT _) rfl hl.1 (Nat.le_of_ble_eq_true rfl) dX4_mornings_22 ⟨rfl, rfl, Nat.le_of_ble_eq_true rfl, Nat.le_of_ble_eq_true rfl⟩ ⟨Nat.le_of_ble_eq_true rfl, Nat.le_of_ble_eq_true rfl⟩ ?_
                refine lv_eqi (y := 1) (by decide +kernel) ?_
                refine lv_if_ne (tgt := 31) hx hb dX4_mornings_25 (by decide) (fun c_25 => ?_) (fun c_25 => ?_)
                · skip
                  refine lv_aload_n hx hb dX4_mornings_31 rfl (lv_at hl 0 rfl) ?_
                  refine cr_i (q := 761) [] hx hb hml hown hG v_X4_lacks (by decide +kernel) (c_X4_lacks l G μ hs n S q V ch hg) (preM hW _) rfl hl.1 (Nat.le_of_ble_eq_true rfl) dX4_mornings_32 ⟨rfl, rfl, Nat.le_of_ble_eq_true rfl, Nat.le_of_ble_eq_true rfl⟩ ⟨Nat.le_of_ble_eq_true rfl, Nat.le_of_ble_eq_true rfl⟩ ?_
                  refine lv_if_eq (tgt := 41) hx hb dX4_mornings_35 (by decide) (fun c_35 => ?_) (fun c_35 => ?_)
                  · skip
                    have b_35 := bI_0 c_35
                    refine lv_aload_n hx hb dX4_mornings_41 rfl (lv_at hl 0 rfl) ?_
                    refine rd_X4_16 hx hb hown hW dX4_mornings_42 ?_
                    refine lv_aload_n hx hb dX4_mornings_45 rfl (lv_at hl 0 rfl) ?_
                    refine rd_X4_28 hx hb hown hW dX4_mornings_46 ?_
                    refine cms_v (q := 815) [.ref (gm G 3), .ref (gm G 7)] hx hb hml hown hW.2 hS v_X4_copy (by decide +kernel) (c_X4_copy37 l G μ hs) (preMS hW _) rfl hl.1 (Nat.le_of_ble_eq_true rfl) dX4_mornings_49 ⟨rfl, rfl, Nat.le_of_ble_eq_true rfl, Nat.le_of_ble_eq_true rfl⟩ ⟨Nat.le_of_ble_eq_true rfl, Nat.le_of_ble_eq_true rfl⟩ (fun μ1 hs1 H locs hμ1 hW hS => ?_)
                    refine lv_aload_n hx hb dX4_mornings_52 rfl (lv_at hl 0 rfl) ?_
                    refine lv_iload_n hx hb dX4_mornings_53 rfl (lv_at hl 2 rfl) ?_
                    refine wr_X4_165 hx hb hown hW hS dX4_mornings_54 (fun H locs hW hS => ?_)
                    obtain ⟨μ2, hμ2⟩ : ∃ z, z = up2 μ1 (0) 13 (nI m9) := ⟨_, rfl⟩
                    rw [← hμ2] at hW
                    refine lv_iconst (v := 0) hx hb dX4_mornings_57 (by decide) ?_
                    refine lv_istore (lv' := [(4, .int 0), (0, .ref (gm G 0)), (1, .int (nI k)), (2, .int (nI m9)), (3, .int 0)]) hx hb dX4_mornings_58 hl (by decide) rfl (fun ls hl => ?_)
                    refine lv_iconst (v := 0) hx hb dX4_mornings_60 (by decide) ?_
                    refine lv_istore (lv' := [(5, .int 0), (4, .int 0), (0, .ref (gm G 0)), (1, .int (nI k)), (2, .int (nI m9)), (3, .int 0)]) hx hb dX4_mornings_61 hl (by decide) rfl (fun ls hl => ?_)
                    have loop_63 : ∀ (N9 : Nat) (j : Nat) (to : Int32) (jo : Int32) (μw : St) (hw : Int64) (H : Heap) (locs : List Loc), k - j < N9 → to = nI (mtN S n m9 j) → jo = nI j → j ≤ k → WM G μw hw s H → va_S (aM G) s.heap H locs → ((∀ f, f < 54 → μw 7 f = μ 3 f)) → MW μ n μw → μw 0 13 = nI (msN n m9 j) → ((∃ L : Nat → Nat, ∀ i, i < n → μw 3 (9 * i + 2) = nI (L i) ∧ L i ≤ 9)) → ∀ ls : Array Slot, lv_has ls 7 [(4, .int to), (5, .int jo), (0, .ref (gm G 0)), (1, .int (nI k)), (2, .int (nI m9)), (3, .int 0)] → W p l e (headSpec (w1 yX4_mornings cX4_mornings 7 (some .int)) ({ frames := 5, cells := 0, slots := 0, locals := 122 })).room s m [.ref (gm G 0), .int (nI k), .int (nI m9), .int 0].toArray below meth c H locs 0 0 (MQ below (QiM G (fun r u9 => r = aMorn n S (nI k) (nI m9) (nI 0) ∧ KQ μ u9)) [.ref (gm G 0), .int (nI k), .int (nI m9), .int 0].toArray s 0 0 (aM G)) (F0 m 63 ls []) := by
                      intro N9
                      induction N9 with
                      | zero => intro j to jo μw hw H locs hN; exact absurd hN (Nat.not_lt_zero _)
                      | succ N9 ih =>
                        intro j to jo μw hw H locs hN e_to e_jo hi0_63 hW hS hw0_63 hw1_63 hw2_63 hw3_63 ls hl
                        subst e_to
                        subst e_jo
                        have ih_63 := ih
                        have hm1 := hw1_63
                        refine lv_iload hx hb dX4_mornings_63 (lv_at hl 1 rfl) ?_
                        refine lv_iload_n hx hb dX4_mornings_65 rfl (lv_at hl 3 rfl) ?_
                        refine lv_icmp_ge (tgt := 119) hx hb dX4_mornings_66 (by decide) (fun c_66 => ?_) (fun c_66 => ?_)
                        · skip
                          have q_66 := tN_le k j c_66 rfl rfl (by omega) (by omega)
                          obtain ⟨L, hL⟩ := hw3_63
                          have hgm := hw1_63.rm hg L hL
                          refine lv_aload_n hx hb dX4_mornings_119 rfl (lv_at hl 2 rfl) ?_
                          refine cr_i (q := 830) [] hx hb hml hown hG v_X4_placesAll (by decide +kernel) (c_X4_placesAll l G μw hw n (wL S L) q V ch hgm) (preM hW _) rfl hl.1 (Nat.le_of_ble_eq_true rfl) dX4_mornings_120 ⟨rfl, rfl, Nat.le_of_ble_eq_true rfl, Nat.le_of_ble_eq_true rfl⟩ ⟨Nat.le_of_ble_eq_true rfl, Nat.le_of_ble_eq_true rfl⟩ ?_
                          refine lv_eqi (y := nI (allP S n)) (congrArg nI (wl_all (fun i9 h9 => (hg.2.2.2.1 i9 h9).1))) ?_
                          refine lv_istore (lv' := [(5, .int (nI (allP S n))), (4, .int (nI (mtN S n m9 j))), (0, .ref (gm G 0)), (1, .int (nI k)), (2, .int (nI m9)), (3, .int 0)]) hx hb dX4_mornings_123 hl (by decide) rfl (fun ls hl => ?_)
                          refine lv_aload_n hx hb dX4_mornings_125 rfl (lv_at hl 2 rfl) ?_
                          refine rd_X4_28 hx hb hown hW dX4_mornings_126 ?_
                          refine lv_aload_n hx hb dX4_mornings_129 rfl (lv_at hl 2 rfl) ?_
                          refine rd_X4_16 hx hb hown hW dX4_mornings_130 ?_
                          refine cms_v (q := 815) [.ref (gm G 7), .ref (gm G 3)] hx hb hml hown hW.2 hS v_X4_copy (by decide +kernel) (c_X4_copy73 l G μw hw) (preMS hW _) rfl hl.1 (Nat.le_of_ble_eq_true rfl) dX4_mornings_133 ⟨rfl, rfl, Nat.le_of_ble_eq_true rfl, Nat.le_of_ble_eq_true rfl⟩ ⟨Nat.le_of_ble_eq_true rfl, Nat.le_of_ble_eq_true rfl⟩ (fun μ3 hs3 H locs hμ3 hW hS => ?_)
                          refine lv_iload_n hx hb dX4_mornings_136 rfl (lv_at hl 5 rfl) ?_
                          refine lv_if_ne (tgt := 145) hx hb dX4_mornings_137 (by decide) (fun c_137 => ?_) (fun c_137 => ?_)
                          · skip
                            exact absurd (by decide) c_137
                          · skip
                            refine lv_iload hx hb dX4_mornings_140 (lv_at hl 1 rfl) ?_
                            refine lv_goto (tgt := 159) hx hb dX4_mornings_142 (by decide) ?_
                            exact W.iret (v := nI (mtN S n m9 j)) hx hb hr (fun t9 ht9 hW9 => ⟨⟨_, (μ3, hs3), rfl, ⟨(by have h9 : j = k := (by omega); subst h9; rw [aMorn, wK_k hk (by omega), if_neg (by omega), if_neg c_13, wK_k (by omega) (by omega), nI_clamp hm9, moA, if_neg (of_decide_eq_false b_35), if_pos rfl]), mo_back hw0_63 hw1_63 hμ3⟩, (by have h8 := hW.1; rw [← ht9] at h8; exact h8)⟩, hS.F ht9⟩) hS.2.2 dX4_mornings_159
                        · skip
                          have q_66 := tN_nle k j c_66 rfl rfl (by omega) (by omega)
                          refine lv_iconst (v := 0) hx hb dX4_mornings_69 (by decide) ?_
                          refine lv_istore (lv' := [(6, .int 0), (4, .int (nI (mtN S n m9 j))), (5, .int (nI j)), (0, .ref (gm G 0)), (1, .int (nI k)), (2, .int (nI m9)), (3, .int 0)]) hx hb dX4_mornings_70 hl (by decide) rfl (fun ls hl => ?_)
                          have loop_72 : ∀ (N9 : Nat) (i : Nat) (io : Int32) (μw : St) (hw : Int64) (H : Heap) (locs : List Loc), n - i < N9 → io = nI i → i ≤ n → WM G μw hw s H → va_S (aM G) s.heap H locs → ((∀ f, f < 54 → μw 7 f = μ 3 f)) → MW μ n μw → μw 0 13 = nI (sdN (msN n m9 j) i) → ((∀ a9, a9 < i → μw 3 (9 * a9 + 2) = nI (dlN (msN n m9 j) a9))) → ∀ ls : Array Slot, lv_has ls 7 [(6, .int io), (4, .int (nI (mtN S n m9 j))), (5, .int (nI j)), (0, .ref (gm G 0)), (1, .int (nI k)), (2, .int (nI m9)), (3, .int 0)] → W p l e (headSpec (w1 yX4_mornings cX4_mornings 7 (some .int)) ({ frames := 5, cells := 0, slots := 0, locals := 122 })).room s m [.ref (gm G 0), .int (nI k), .int (nI m9), .int 0].toArray below meth c H locs 0 0 (MQ below (QiM G (fun r u9 => r = aMorn n S (nI k) (nI m9) (nI 0) ∧ KQ μ u9)) [.ref (gm G 0), .int (nI k), .int (nI m9), .int 0].toArray s 0 0 (aM G)) (F0 m 72 ls []) := by
                            intro N9
                            induction N9 with
                            | zero => intro i io μw hw H locs hN; exact absurd hN (Nat.not_lt_zero _)
                            | succ N9 ih =>
                              intro i io μw hw H locs hN e_io hi0_72 hW hS hw0_72 hw1_72 hw2_72 hw3_72 ls hl
                              subst e_io
                              have ih_72 := ih
                              have hm1 := hw1_72
                              refine lv_iload hx hb dX4_mornings_72 (lv_at hl 0 rfl) ?_
                              refine lv_aload_n hx hb dX4_mornings_74 rfl (lv_at hl 3 rfl) ?_
                              refine rd_X4_75 hx hb hown hW dX4_mornings_75 ?_
                              refine lv_eqi (y := nI n) ((hm1 0 5 (by decide) (by decide) (fun z => absurd z (by decide))).trans hg.1.1) ?_
                              refine lv_icmp_ge (tgt := 104) hx hb dX4_mornings_78 (by decide) (fun c_78 => ?_) (fun c_78 => ?_)
                              · skip
                                have q_78 := tN_le n i c_78 rfl rfl (by omega) (by omega)
                                have hdl9 : ∀ i9, i9 < n → μw 3 (9 * i9 + 2) = nI (dlN (msN n m9 j) i9) ∧ dlN (msN n m9 j) i9 ≤ 9 := fun i9 h9 => ⟨hw3_72 i9 (by omega), dlN_le _ _⟩
                                have hgm := hw1_72.rm hg _ hdl9
                                refine lv_iload hx hb dX4_mornings_104 (lv_at hl 1 rfl) ?_
                                refine lv_aload_n hx hb dX4_mornings_106 rfl (lv_at hl 3 rfl) ?_
                                refine cr_i (q := 826) [] hx hb hml hown hG v_X4_meetAll (by decide +kernel) (c_X4_meetAll l G μw hw n (wL S (dlN (msN n m9 j))) q V ch hgm) (preM hW _) rfl hl.1 (Nat.le_of_ble_eq_true rfl) dX4_mornings_107 ⟨rfl, rfl, Nat.le_of_ble_eq_true rfl, Nat.le_of_ble_eq_true rfl⟩ ⟨Nat.le_of_ble_eq_true rfl, Nat.le_of_ble_eq_true rfl⟩ ?_
                                refine lv_eqi (y := nI (ouN (meL S (dlN (msN n m9 j))) n n)) (congrArg nI (wl_ou (fun i9 h9 => (hg.2.2.2.1 i9 h9).1))) ?_
                                refine ln_add (mtN S n m9 j) (ouN (meL S (dlN (msN n m9 j))) n n) hx hb rfl rfl dX4_mornings_110 ?_
                                refine lv_istore (lv' := [(4, .int (nI ((mtN S n m9 j) + (ouN (meL S (dlN (msN n m9 j))) n n)))), (6, .int (nI i)), (5, .int (nI j)), (0, .ref (gm G 0)), (1, .int (nI k)), (2, .int (nI m9)), (3, .int 0)]) hx hb dX4_mornings_111 hl (by decide) rfl (fun ls hl => ?_)
                                refine lv_iinc (v := nI (j + 1)) (lv' := [(5, .int (nI (j + 1))), (4, .int (nI ((mtN S n m9 j) + (ouN (meL S (dlN (msN n m9 j))) n n)))), (6, .int (nI i)), (0, .ref (gm G 0)), (1, .int (nI k)), (2, .int (nI m9)), (3, .int 0)]) hx hb dX4_mornings_113 hl (k := 2) rfl (inc1 j) (by decide) rfl (fun ls hl => ?_)
                                refine lv_goto (tgt := 63) hx hb dX4_mornings_116 (by decide) ?_
                                exact ih_63 (j + 1) _ _ _ _ _ _ (by omega) rfl rfl (by omega) hW hS hw0_72 hw1_72 (by have h9 : i = n := (by omega); subst h9; exact hw2_72) ⟨dlN (msN n m9 j), hdl9⟩ ls (lv_sub hl [1, 0, 3, 4, 5, 6] rfl)
                              · skip
                                have q_78 := tN_nle n i c_78 rfl rfl (by omega) (by omega)
                                refine lv_aload_n hx hb dX4_mornings_81 rfl (lv_at hl 3 rfl) ?_
                                refine rd_X4_16 hx hb hown hW dX4_mornings_82 ?_
                                refine lv_bipush (v := 9) hx hb dX4_mornings_85 (by decide) ?_
                                refine lv_iload hx hb dX4_mornings_87 (lv_at hl 0 rfl) ?_
                                refine ln_mul 9 i hx hb rfl rfl dX4_mornings_89 ?_
                                refine lv_iconst (v := 2) hx hb dX4_mornings_90 (by decide) ?_
                                refine ln_add (9 * i) 2 hx hb rfl rfl dX4_mornings_91 ?_
                                refine lv_aload_n hx hb dX4_mornings_92 rfl (lv_at hl 3 rfl) ?_
                                refine lv_iconst (v := 4) hx hb dX4_mornings_93 (by decide) ?_
                                refine cm_i (q := 818) [.int 4] hx hb hml hown hW.2 hS v_X4_draw (by decide +kernel) (c_X4_draw l G μw hw (sdN (msN n m9 j) i) (sdN_lt (msN_lt hm9 j) i) hw2_72) (preM hW _) rfl hl.1 (Nat.le_of_ble_eq_true rfl) dX4_mornings_94 ⟨rfl, rfl, Nat.le_of_ble_eq_true rfl, Nat.le_of_ble_eq_true rfl⟩ ⟨Nat.le_of_ble_eq_true rfl, Nat.le_of_ble_eq_true rfl⟩ (fun r_94 μ4 hs4 H locs hμ4 hW hS => ?_)
                                obtain ⟨hr1, hu0⟩ := hμ4
                                have hu1 : μ4 = up2 μw 0 13 (nI (nxN (sdN (msN n m9 j) i))) := hu0
                                subst hr1
                                refine lv_eqi (y := nI (dlN (msN n m9 j) i)) rfl ?_
                                refine as_M (k := (9 * i) + 2) 3 hx hb hW hS rfl (show _ < 54 by omega) dX4_mornings_97 (fun H locs hW hS => ?_)
                                obtain ⟨μ5, hμ5⟩ : ∃ z, z = up2 μ4 3 ((9 * i) + 2) (nI (dlN (msN n m9 j) i)) := ⟨_, rfl⟩
                                rw [← hμ5] at hW
                                refine lv_iinc (v := nI (i + 1)) (lv' := [(6, .int (nI (i + 1))), (4, .int (nI (mtN S n m9 j))), (5, .int (nI j)), (0, .ref (gm G 0)), (1, .int (nI k)), (2, .int (nI m9)), (3, .int 0)]) hx hb dX4_mornings_98 hl (k := 0) rfl (inc1 i) (by decide) rfl (fun ls hl => ?_)
                                refine lv_goto (tgt := 72) hx hb dX4_mornings_101 (by decide) ?_
                                exact ih_72 (i + 1) _ _ _ _ _ (by omega) rfl (by omega) hW hS (fun f hf => by subst hμ5; rw [up2_ne (by decide), hu1, up2_ne (by decide)]; exact hw0_72 f hf) (by subst hμ5; exact MW.s3 (by rw [hu1]; exact hw1_72.s13) (by omega)) (by subst hμ5; rw [up2_ne (by decide), hu1]; exact up2_eq) (by subst hμ5; exact dw_step (f := dlN (msN n m9 j)) (fun a9 h9 => by rw [hu1, up2_ne (by decide)]; exact hw3_72 a9 h9)) ls (lv_sub hl [0, 1, 2, 3, 4, 5, 6] rfl)
                          exact loop_72 _ 0 _ _ _ _ _ (Nat.lt_succ_self _) rfl (by omega) hW hS hw0_63 hw1_63 hw2_63 (fun a9 h9 => absurd h9 (by omega)) ls (lv_sub hl [0, 1, 2, 3, 4, 5, 6] rfl)
                    exact loop_63 _ 0 _ _ _ _ _ _ (Nat.lt_succ_self _) rfl rfl (by omega) hW hS (fun f hf => by subst hμ2; rw [up2_ne (by decide)]; exact hμ1.2.1 f hf) (by subst hμ2; exact MW.s13 (fun a f h7 _ _ => congrFun (hμ1.2.2 a h7) f)) (by subst hμ2; exact up2_eq) (by subst hμ2; exact ⟨fun i => S i 2, fun i hi => ⟨by rw [up2_ne (by decide), show μ1 3 = _ from hμ1.2.2 3 (by decide)]; exact (hg.2.2.2.1 i hi).2.2.2.2.2.1, (hg.2.2.2.1 i hi).2.2.1⟩⟩) ls (lv_sub hl [1, 0, 2, 3, 4, 5] rfl)
                  · skip
                    have b_35 := bI_1 c_35
                    refine lv_bipush (v := (-103)) hx hb dX4_mornings_38 (by decide) ?_
                    exact W.iret (v := (-103)) hx hb hr (fun t9 ht9 hW9 => ⟨⟨_, (μ, hs), rfl, ⟨by rw [aMorn, wK_k hk (by omega), if_neg (by omega), if_neg c_13, wK_k (by omega) (by omega), nI_clamp hm9, moA, if_pos (of_decide_eq_true b_35)], KQ.rf⟩, (by have h8 := hW.1; rw [← ht9] at h8; exact h8)⟩, hS.F ht9⟩) hS.2.2 dX4_mornings_40
                · skip
                  exact absurd c_25 (by decide)
        · skip
          refine met_of [.ref (gm G 0), .int (nI k), .int y, .int 1] [(0, .ref (gm G 0)), (1, .int (nI k)), (2, .int y), (3, .int 1)] (by decide) (Nat.le_of_ble_eq_true rfl) rfl ?_
          intro p e s m below meth c hx hb hr hown hml hlocks hW ls hl
          have hG : GW s := hW.2.2.2
          have hS : va_S (aM G) s.heap s.heap [] := va_S.rf
          refine lv_iload_n hx hb dX4_mornings_0 rfl (lv_at hl 1 rfl) ?_
          refine lv_i2l hx hb dX4_mornings_1 rfl ?_
          refine lv_lconst (v := 1) hx hb dX4_mornings_2 rfl ?_
          refine lv_ldc2 (v := 20) hx hb hown (hG.use (i := 813) (by decide +kernel) rfl _) dX4_mornings_3 ?_
          refine cs_i (q := 641) [.long ((nI k : Int32).toInt64), .long 1, .long 20] hx hb hml hown hG v_X4_in (by decide +kernel) (c_X4_in l ((nI k : Int32).toInt64) (1) (20)) (preT _) rfl hl.1 (Nat.le_of_ble_eq_true rfl) dX4_mornings_6 ⟨rfl, rfl, Nat.le_of_ble_eq_true rfl, Nat.le_of_ble_eq_true rfl⟩ ⟨Nat.le_of_ble_eq_true rfl, Nat.le_of_ble_eq_true rfl⟩ ?_
          refine lv_eqi (y := 1) (by rw [show inL (nI k).toInt64 1 20 = _ from @inL_n k 1 20 (by omega) (by omega) (by omega), decide_eq_true (by omega)]; rfl) ?_
          refine lv_if_eq (tgt := 28) hx hb dX4_mornings_9 (by decide) (fun c_9 => ?_) (fun c_9 => ?_)
          · skip
            exact absurd c_9 (by decide)
          · skip
            refine lv_iload_n hx hb dX4_mornings_12 rfl (lv_at hl 2 rfl) ?_
            refine lv_if_lt (tgt := 28) hx hb dX4_mornings_13 (by decide) (fun c_13 => ?_) (fun c_13 => ?_)
            · skip
              refine lv_bipush (v := (-102)) hx hb dX4_mornings_28 (by decide) ?_
              exact W.iret (v := (-102)) hx hb hr (fun t9 ht9 hW9 => ⟨⟨_, (μ, hs), rfl, ⟨by rw [aMorn, wK_k hk (by omega), if_neg (by omega), if_pos c_13], KQ.rf⟩, (by have h8 := hW.1; rw [← ht9] at h8; exact h8)⟩, hS.F ht9⟩) hS.2.2 dX4_mornings_30
            · skip
              obtain ⟨m9, hm9, rfl⟩ := nneg c_13
              · skip
                have hl : lv_has ls 7 [(0, .ref (gm G 0)), (1, .int (nI k)), (2, .int (nI m9)), (3, .int 1)] := hl
                refine lv_iload_n hx hb dX4_mornings_16 rfl (lv_at hl 3 rfl) ?_
                refine lv_i2l hx hb dX4_mornings_17 rfl ?_
                refine lv_lconst (v := 0) hx hb dX4_mornings_18 rfl ?_
                refine lv_ldc2 (v := 2) hx hb hown (hG.use (i := 814) (by decide +kernel) rfl _) dX4_mornings_19 ?_
                refine cs_i (q := 641) [.long ((1 : Int32).toInt64), .long 0, .long 2] hx hb hml hown hG v_X4_in (by decide +kernel) (c_X4_in l ((1 : Int32).toInt64) (0) (2)) (preT _) rfl hl.1 (Nat.le_of_ble_eq_true rfl) dX4_mornings_22 ⟨rfl, rfl, Nat.le_of_ble_eq_true rfl, Nat.le_of_ble_eq_true rfl⟩ ⟨Nat.le_of_ble_eq_true rfl, Nat.le_of_ble_eq_true rfl⟩ ?_
                refine lv_eqi (y := 1) (by decide +kernel) ?_
                refine lv_if_ne (tgt := 31) hx hb dX4_mornings_25 (by decide) (fun c_25 => ?_) (fun c_25 => ?_)
                · skip
                  refine lv_aload_n hx hb dX4_mornings_31 rfl (lv_at hl 0 rfl) ?_
                  refine cr_i (q := 761) [] hx hb hml hown hG v_X4_lacks (by decide +kernel) (c_X4_lacks l G μ hs n S q V ch hg) (preM hW _) rfl hl.1 (Nat.le_of_ble_eq_true rfl) dX4_mornings_32 ⟨rfl, rfl, Nat.le_of_ble_eq_true rfl, Nat.le_of_ble_eq_true rfl⟩ ⟨Nat.le_of_ble_eq_true rfl, Nat.le_of_ble_eq_true rfl⟩ ?_
                  refine lv_if_eq (tgt := 41) hx hb dX4_mornings_35 (by decide) (fun c_35 => ?_) (fun c_35 => ?_)
                  · skip
                    have b_35 := bI_0 c_35
                    refine lv_aload_n hx hb dX4_mornings_41 rfl (lv_at hl 0 rfl) ?_
                    refine rd_X4_16 hx hb hown hW dX4_mornings_42 ?_
                    refine lv_aload_n hx hb dX4_mornings_45 rfl (lv_at hl 0 rfl) ?_
                    refine rd_X4_28 hx hb hown hW dX4_mornings_46 ?_
                    refine cms_v (q := 815) [.ref (gm G 3), .ref (gm G 7)] hx hb hml hown hW.2 hS v_X4_copy (by decide +kernel) (c_X4_copy37 l G μ hs) (preMS hW _) rfl hl.1 (Nat.le_of_ble_eq_true rfl) dX4_mornings_49 ⟨rfl, rfl, Nat.le_of_ble_eq_true rfl, Nat.le_of_ble_eq_true rfl⟩ ⟨Nat.le_of_ble_eq_true rfl, Nat.le_of_ble_eq_true rfl⟩ (fun μ6 hs6 H locs hμ6 hW hS => ?_)
                    refine lv_aload_n hx hb dX4_mornings_52 rfl (lv_at hl 0 rfl) ?_
                    refine lv_iload_n hx hb dX4_mornings_53 rfl (lv_at hl 2 rfl) ?_
                    refine wr_X4_165 hx hb hown hW hS dX4_mornings_54 (fun H locs hW hS => ?_)
                    obtain ⟨μ7, hμ7⟩ : ∃ z, z = up2 μ6 (0) 13 (nI m9) := ⟨_, rfl⟩
                    rw [← hμ7] at hW
                    refine lv_iconst (v := 0) hx hb dX4_mornings_57 (by decide) ?_
                    refine lv_istore (lv' := [(4, .int 0), (0, .ref (gm G 0)), (1, .int (nI k)), (2, .int (nI m9)), (3, .int 1)]) hx hb dX4_mornings_58 hl (by decide) rfl (fun ls hl => ?_)
                    refine lv_iconst (v := 0) hx hb dX4_mornings_60 (by decide) ?_
                    refine lv_istore (lv' := [(5, .int 0), (4, .int 0), (0, .ref (gm G 0)), (1, .int (nI k)), (2, .int (nI m9)), (3, .int 1)]) hx hb dX4_mornings_61 hl (by decide) rfl (fun ls hl => ?_)
                    have loop_63 : ∀ (N9 : Nat) (j : Nat) (to : Int32) (jo : Int32) (μw : St) (hw : Int64) (H : Heap) (locs : List Loc), k - j < N9 → to = nI (mtN S n m9 j) → jo = nI j → j ≤ k → WM G μw hw s H → va_S (aM G) s.heap H locs → ((∀ f, f < 54 → μw 7 f = μ 3 f)) → MW μ n μw → μw 0 13 = nI (msN n m9 j) → ((∃ L : Nat → Nat, ∀ i, i < n → μw 3 (9 * i + 2) = nI (L i) ∧ L i ≤ 9)) → ∀ ls : Array Slot, lv_has ls 7 [(4, .int to), (5, .int jo), (0, .ref (gm G 0)), (1, .int (nI k)), (2, .int (nI m9)), (3, .int 1)] → W p l e (headSpec (w1 yX4_mornings cX4_mornings 7 (some .int)) ({ frames := 5, cells := 0, slots := 0, locals := 122 })).room s m [.ref (gm G 0), .int (nI k), .int (nI m9), .int 1].toArray below meth c H locs 0 0 (MQ below (QiM G (fun r u9 => r = aMorn n S (nI k) (nI m9) (nI 1) ∧ KQ μ u9)) [.ref (gm G 0), .int (nI k), .int (nI m9), .int 1].toArray s 0 0 (aM G)) (F0 m 63 ls []) := by
                      intro N9
                      induction N9 with
                      | zero => intro j to jo μw hw H locs hN; exact absurd hN (Nat.not_lt_zero _)
                      | succ N9 ih =>
                        intro j to jo μw hw H locs hN e_to e_jo hi0_63 hW hS hw0_63 hw1_63 hw2_63 hw3_63 ls hl
                        subst e_to
                        subst e_jo
                        have ih_63 := ih
                        have hm1 := hw1_63
                        refine lv_iload hx hb dX4_mornings_63 (lv_at hl 1 rfl) ?_
                        refine lv_iload_n hx hb dX4_mornings_65 rfl (lv_at hl 3 rfl) ?_
                        refine lv_icmp_ge (tgt := 119) hx hb dX4_mornings_66 (by decide) (fun c_66 => ?_) (fun c_66 => ?_)
                        · skip
                          have q_66 := tN_le k j c_66 rfl rfl (by omega) (by omega)
                          obtain ⟨L, hL⟩ := hw3_63
                          have hgm := hw1_63.rm hg L hL
                          refine lv_aload_n hx hb dX4_mornings_119 rfl (lv_at hl 2 rfl) ?_
                          refine cr_i (q := 830) [] hx hb hml hown hG v_X4_placesAll (by decide +kernel) (c_X4_placesAll l G μw hw n (wL S L) q V ch hgm) (preM hW _) rfl hl.1 (Nat.le_of_ble_eq_true rfl) dX4_mornings_120 ⟨rfl, rfl, Nat.le_of_ble_eq_true rfl, Nat.le_of_ble_eq_true rfl⟩ ⟨Nat.le_of_ble_eq_true rfl, Nat.le_of_ble_eq_true rfl⟩ ?_
                          refine lv_eqi (y := nI (allP S n)) (congrArg nI (wl_all (fun i9 h9 => (hg.2.2.2.1 i9 h9).1))) ?_
                          refine lv_istore (lv' := [(5, .int (nI (allP S n))), (4, .int (nI (mtN S n m9 j))), (0, .ref (gm G 0)), (1, .int (nI k)), (2, .int (nI m9)), (3, .int 1)]) hx hb dX4_mornings_123 hl (by decide) rfl (fun ls hl => ?_)
                          refine lv_aload_n hx hb dX4_mornings_125 rfl (lv_at hl 2 rfl) ?_
                          refine rd_X4_28 hx hb hown hW dX4_mornings_126 ?_
                          refine lv_aload_n hx hb dX4_mornings_129 rfl (lv_at hl 2 rfl) ?_
                          refine rd_X4_16 hx hb hown hW dX4_mornings_130 ?_
                          refine cms_v (q := 815) [.ref (gm G 7), .ref (gm G 3)] hx hb hml hown hW.2 hS v_X4_copy (by decide +kernel) (c_X4_copy73 l G μw hw) (preMS hW _) rfl hl.1 (Nat.le_of_ble_eq_true rfl) dX4_mornings_133 ⟨rfl, rfl, Nat.le_of_ble_eq_true rfl, Nat.le_of_ble_eq_true rfl⟩ ⟨Nat.le_of_ble_eq_true rfl, Nat.le_of_ble_eq_true rfl⟩ (fun μ8 hs8 H locs hμ8 hW hS => ?_)
                          refine lv_iload_n hx hb dX4_mornings_136 rfl (lv_at hl 5 rfl) ?_
                          refine lv_if_ne (tgt := 145) hx hb dX4_mornings_137 (by decide) (fun c_137 => ?_) (fun c_137 => ?_)
                          · skip
                            refine lv_iload_n hx hb dX4_mornings_145 rfl (lv_at hl 5 rfl) ?_
                            refine lv_iconst (v := 1) hx hb dX4_mornings_146 (by decide) ?_
                            refine lv_icmp_ne (tgt := 155) hx hb dX4_mornings_147 (by decide) (fun c_147 => ?_) (fun c_147 => ?_)
                            · skip
                              exact absurd (by decide) c_147
                            · skip
                              refine lv_iload hx hb dX4_mornings_150 (lv_at hl 0 rfl) ?_
                              refine lv_goto (tgt := 159) hx hb dX4_mornings_152 (by decide) ?_
                              exact W.iret (v := nI (allP S n)) hx hb hr (fun t9 ht9 hW9 => ⟨⟨_, (μ8, hs8), rfl, ⟨(by have h9 : j = k := (by omega); subst h9; rw [aMorn, wK_k hk (by omega), if_neg (by omega), if_neg c_13, wK_k (by omega) (by omega), nI_clamp hm9, moA, if_neg (of_decide_eq_false b_35), if_neg (show ¬ ((1 : Nat) = 0) by decide), if_pos rfl]), mo_back hw0_63 hw1_63 hμ8⟩, (by have h8 := hW.1; rw [← ht9] at h8; exact h8)⟩, hS.F ht9⟩) hS.2.2 dX4_mornings_159
                          · skip
                            exact absurd c_137 (by decide)
                        · skip
                          have q_66 := tN_nle k j c_66 rfl rfl (by omega) (by omega)
                          refine lv_iconst (v := 0) hx hb dX4_mornings_69 (by decide) ?_
                          refine lv_istore (lv' := [(6, .int 0), (4, .int (nI (mtN S n m9 j))), (5, .int (nI j)), (0, .ref (gm G 0)), (1, .int (nI k)), (2, .int (nI m9)), (3, .int 1)]) hx hb dX4_mornings_70 hl (by decide) rfl (fun ls hl => ?_)
                          have loop_72 : ∀ (N9 : Nat) (i : Nat) (io : Int32) (μw : St) (hw : Int64) (H : Heap) (locs : List Loc), n - i < N9 → io = nI i → i ≤ n → WM G μw hw s H → va_S (aM G) s.heap H locs → ((∀ f, f < 54 → μw 7 f = μ 3 f)) → MW μ n μw → μw 0 13 = nI (sdN (msN n m9 j) i) → ((∀ a9, a9 < i → μw 3 (9 * a9 + 2) = nI (dlN (msN n m9 j) a9))) → ∀ ls : Array Slot, lv_has ls 7 [(6, .int io), (4, .int (nI (mtN S n m9 j))), (5, .int (nI j)), (0, .ref (gm G 0)), (1, .int (nI k)), (2, .int (nI m9)), (3, .int 1)] → W p l e (headSpec (w1 yX4_mornings cX4_mornings 7 (some .int)) ({ frames := 5, cells := 0, slots := 0, locals := 122 })).room s m [.ref (gm G 0), .int (nI k), .int (nI m9), .int 1].toArray below meth c H locs 0 0 (MQ below (QiM G (fun r u9 => r = aMorn n S (nI k) (nI m9) (nI 1) ∧ KQ μ u9)) [.ref (gm G 0), .int (nI k), .int (nI m9), .int 1].toArray s 0 0 (aM G)) (F0 m 72 ls []) := by
                            intro N9
                            induction N9 with
                            | zero => intro i io μw hw H locs hN; exact absurd hN (Nat.not_lt_zero _)
                            | succ N9 ih =>
                              intro i io μw hw H locs hN e_io hi0_72 hW hS hw0_72 hw1_72 hw2_72 hw3_72 ls hl
                              subst e_io
                              have ih_72 := ih
                              have hm1 := hw1_72
                              refine lv_iload hx hb dX4_mornings_72 (lv_at hl 0 rfl) ?_
                              refine lv_aload_n hx hb dX4_mornings_74 rfl (lv_at hl 3 rfl) ?_
                              refine rd_X4_75 hx hb hown hW dX4_mornings_75 ?_
                              refine lv_eqi (y := nI n) ((hm1 0 5 (by decide) (by decide) (fun z => absurd z (by decide))).trans hg.1.1) ?_
                              refine lv_icmp_ge (tgt := 104) hx hb dX4_mornings_78 (by decide) (fun c_78 => ?_) (fun c_78 => ?_)
                              · skip
                                have q_78 := tN_le n i c_78 rfl rfl (by omega) (by omega)
                                have hdl9 : ∀ i9, i9 < n → μw 3 (9 * i9 + 2) = nI (dlN (msN n m9 j) i9) ∧ dlN (msN n m9 j) i9 ≤ 9 := fun i9 h9 => ⟨hw3_72 i9 (by omega), dlN_le _ _⟩
                                have hgm := hw1_72.rm hg _ hdl9
                                refine lv_iload hx hb dX4_mornings_104 (lv_at hl 1 rfl) ?_
                                refine lv_aload_n hx hb dX4_mornings_106 rfl (lv_at hl 3 rfl) ?_
                                refine cr_i (q := 826) [] hx hb hml hown hG v_X4_meetAll (by decide +kernel) (c_X4_meetAll l G μw hw n (wL S (dlN (msN n m9 j))) q V ch hgm) (preM hW _) rfl hl.1 (Nat.le_of_ble_eq_true rfl) dX4_mornings_107 ⟨rfl, rfl, Nat.le_of_ble_eq_true rfl, Nat.le_of_ble_eq_true rfl⟩ ⟨Nat.le_of_ble_eq_true rfl, Nat.le_of_ble_eq_true rfl⟩ ?_
                                refine lv_eqi (y := nI (ouN (meL S (dlN (msN n m9 j))) n n)) (congrArg nI (wl_ou (fun i9 h9 => (hg.2.2.2.1 i9 h9).1))) ?_
                                refine ln_add (mtN S n m9 j) (ouN (meL S (dlN (msN n m9 j))) n n) hx hb rfl rfl dX4_mornings_110 ?_
                                refine lv_istore (lv' := [(4, .int (nI ((mtN S n m9 j) + (ouN (meL S (dlN (msN n m9 j))) n n)))), (6, .int (nI i)), (5, .int (nI j)), (0, .ref (gm G 0)), (1, .int (nI k)), (2, .int (nI m9)), (3, .int 1)]) hx hb dX4_mornings_111 hl (by decide) rfl (fun ls hl => ?_)
                                refine lv_iinc (v := nI (j + 1)) (lv' := [(5, .int (nI (j + 1))), (4, .int (nI ((mtN S n m9 j) + (ouN (meL S (dlN (msN n m9 j))) n n)))), (6, .int (nI i)), (0, .ref (gm G 0)), (1, .int (nI k)), (2, .int (nI m9)), (3, .int 1)]) hx hb dX4_mornings_113 hl (k := 2) rfl (inc1 j) (by decide) rfl (fun ls hl => ?_)
                                refine lv_goto (tgt := 63) hx hb dX4_mornings_116 (by decide) ?_
                                exact ih_63 (j + 1) _ _ _ _ _ _ (by omega) rfl rfl (by omega) hW hS hw0_72 hw1_72 (by have h9 : i = n := (by omega); subst h9; exact hw2_72) ⟨dlN (msN n m9 j), hdl9⟩ ls (lv_sub hl [1, 0, 3, 4, 5, 6] rfl)
                              · skip
                                have q_78 := tN_nle n i c_78 rfl rfl (by omega) (by omega)
                                refine lv_aload_n hx hb dX4_mornings_81 rfl (lv_at hl 3 rfl) ?_
                                refine rd_X4_16 hx hb hown hW dX4_mornings_82 ?_
                                refine lv_bipush (v := 9) hx hb dX4_mornings_85 (by decide) ?_
                                refine lv_iload hx hb dX4_mornings_87 (lv_at hl 0 rfl) ?_
                                refine ln_mul 9 i hx hb rfl rfl dX4_mornings_89 ?_
                                refine lv_iconst (v := 2) hx hb dX4_mornings_90 (by decide) ?_
                                refine ln_add (9 * i) 2 hx hb rfl rfl dX4_mornings_91 ?_
                                refine lv_aload_n hx hb dX4_mornings_92 rfl (lv_at hl 3 rfl) ?_
                                refine lv_iconst (v := 4) hx hb dX4_mornings_93 (by decide) ?_
                                refine cm_i (q := 818) [.int 4] hx hb hml hown hW.2 hS v_X4_draw (by decide +kernel) (c_X4_draw l G μw hw (sdN (msN n m9 j) i) (sdN_lt (msN_lt hm9 j) i) hw2_72) (preM hW _) rfl hl.1 (Nat.le_of_ble_eq_true rfl) dX4_mornings_94 ⟨rfl, rfl, Nat.le_of_ble_eq_true rfl, Nat.le_of_ble_eq_true rfl⟩ ⟨Nat.le_of_ble_eq_true rfl, Nat.le_of_ble_eq_true rfl⟩ (fun r_94 μ9 hs9 H locs hμ9 hW hS => ?_)
                                obtain ⟨hr1, hu0⟩ := hμ9
                                have hu1 : μ9 = up2 μw 0 13 (nI (nxN (sdN (msN n m9 j) i))) := hu0
                                subst hr1
                                refine lv_eqi (y := nI (dlN (msN n m9 j) i)) rfl ?_
                                refine as_M (k := (9 * i) + 2) 3 hx hb hW hS rfl (show _ < 54 by omega) dX4_mornings_97 (fun H locs hW hS => ?_)
                                obtain ⟨μ10, hμ10⟩ : ∃ z, z = up2 μ9 3 ((9 * i) + 2) (nI (dlN (msN n m9 j) i)) := ⟨_, rfl⟩
                                rw [← hμ10] at hW
                                refine lv_iinc (v := nI (i + 1)) (lv' := [(6, .int (nI (i + 1))), (4, .int (nI (mtN S n m9 j))), (5, .int (nI j)), (0, .ref (gm G 0)), (1, .int (nI k)), (2, .int (nI m9)), (3, .int 1)]) hx hb dX4_mornings_98 hl (k := 0) rfl (inc1 i) (by decide) rfl (fun ls hl => ?_)
                                refine lv_goto (tgt := 72) hx hb dX4_mornings_101 (by decide) ?_
                                exact ih_72 (i + 1) _ _ _ _ _ (by omega) rfl (by omega) hW hS (fun f hf => by subst hμ10; rw [up2_ne (by decide), hu1, up2_ne (by decide)]; exact hw0_72 f hf) (by subst hμ10; exact MW.s3 (by rw [hu1]; exact hw1_72.s13) (by omega)) (by subst hμ10; rw [up2_ne (by decide), hu1]; exact up2_eq) (by subst hμ10; exact dw_step (f := dlN (msN n m9 j)) (fun a9 h9 => by rw [hu1, up2_ne (by decide)]; exact hw3_72 a9 h9)) ls (lv_sub hl [0, 1, 2, 3, 4, 5, 6] rfl)
                          exact loop_72 _ 0 _ _ _ _ _ (Nat.lt_succ_self _) rfl (by omega) hW hS hw0_63 hw1_63 hw2_63 (fun a9 h9 => absurd h9 (by omega)) ls (lv_sub hl [0, 1, 2, 3, 4, 5, 6] rfl)
                    exact loop_63 _ 0 _ _ _ _ _ _ (Nat.lt_succ_self _) rfl rfl (by omega) hW hS (fun f hf => by subst hμ7; rw [up2_ne (by decide)]; exact hμ6.2.1 f hf) (by subst hμ7; exact MW.s13 (fun a f h7 _ _ => congrFun (hμ6.2.2 a h7) f)) (by subst hμ7; exact up2_eq) (by subst hμ7; exact ⟨fun i => S i 2, fun i hi => ⟨by rw [up2_ne (by decide), show μ6 3 = _ from hμ6.2.2 3 (by decide)]; exact (hg.2.2.2.1 i hi).2.2.2.2.2.1, (hg.2.2.2.1 i hi).2.2.1⟩⟩) ls (lv_sub hl [1, 0, 2, 3, 4, 5] rfl)
                  · skip
                    have b_35 := bI_1 c_35
                    refine lv_bipush (v := (-103)) hx hb dX4_mornings_38 (by decide) ?_
                    exact W.iret (v := (-103)) hx hb hr (fun t9 ht9 hW9 => ⟨⟨_, (μ, hs), rfl, ⟨by rw [aMorn, wK_k hk (by omega), if_neg (by omega), if_neg c_13, wK_k (by omega) (by omega), nI_clamp hm9, moA, if_pos (of_decide_eq_true b_35)], KQ.rf⟩, (by have h8 := hW.1; rw [← ht9] at h8; exact h8)⟩, hS.F ht9⟩) hS.2.2 dX4_mornings_40
                · skip
                  exact absurd c_25 (by decide)
        · skip
          refine met_of [.ref (gm G 0), .int (nI k), .int y, .int 2] [(0, .ref (gm G 0)), (1, .int (nI k)), (2, .int y), (3, .int 2)] (by decide) (Nat.le_of_ble_eq_true rfl) rfl ?_
          intro p e s m below meth c hx hb hr hown hml hlocks hW ls hl
          have hG : GW s := hW.2.2.2
          have hS : va_S (aM G) s.heap s.heap [] := va_S.rf
          refine lv_iload_n hx hb dX4_mornings_0 rfl (lv_at hl 1 rfl) ?_
          refine lv_i2l hx hb dX4_mornings_1 rfl ?_
          refine lv_lconst (v := 1) hx hb dX4_mornings_2 rfl ?_
          refine lv_ldc2 (v := 20) hx hb hown (hG.use (i := 813) (by decide +kernel) rfl _) dX4_mornings_3 ?_
          refine cs_i (q := 641) [.long ((nI k : Int32).toInt64), .long 1, .long 20] hx hb hml hown hG v_X4_in (by decide +kernel) (c_X4_in l ((nI k : Int32).toInt64) (1) (20)) (preT _) rfl hl.1 (Nat.le_of_ble_eq_true rfl) dX4_mornings_6 ⟨rfl, rfl, Nat.le_of_ble_eq_true rfl, Nat.le_of_ble_eq_true rfl⟩ ⟨Nat.le_of_ble_eq_true rfl, Nat.le_of_ble_eq_true rfl⟩ ?_
          refine lv_eqi (y := 1) (by rw [show inL (nI k).toInt64 1 20 = _ from @inL_n k 1 20 (by omega) (by omega) (by omega), decide_eq_true (by omega)]; rfl) ?_
          refine lv_if_eq (tgt := 28) hx hb dX4_mornings_9 (by decide) (fun c_9 => ?_) (fun c_9 => ?_)
          · skip
            exact absurd c_9 (by decide)
          · skip
            refine lv_iload_n hx hb dX4_mornings_12 rfl (lv_at hl 2 rfl) ?_
            refine lv_if_lt (tgt := 28) hx hb dX4_mornings_13 (by decide) (fun c_13 => ?_) (fun c_13 => ?_)
            · skip
              refine lv_bipush (v := (-102)) hx hb dX4_mornings_28 (by decide) ?_
              exact W.iret (v := (-102)) hx hb hr (fun t9 ht9 hW9 => ⟨⟨_, (μ, hs), rfl, ⟨by rw [aMorn, wK_k hk (by omega), if_neg (by omega), if_pos c_13], KQ.rf⟩, (by have h8 := hW.1; rw [← ht9] at h8; exact h8)⟩, hS.F ht9⟩) hS.2.2 dX4_mornings_30
            · skip
              obtain ⟨m9, hm9, rfl⟩ := nneg c_13
              · skip
                have hl : lv_has ls 7 [(0, .ref (gm G 0)), (1, .int (nI k)), (2, .int (nI m9)), (3, .int 2)] := hl
                refine lv_iload_n hx hb dX4_mornings_16 rfl (lv_at hl 3 rfl) ?_
                refine lv_i2l hx hb dX4_mornings_17 rfl ?_
                refine lv_lconst (v := 0) hx hb dX4_mornings_18 rfl ?_
                refine lv_ldc2 (v := 2) hx hb hown (hG.use (i := 814) (by decide +kernel) rfl _) dX4_mornings_19 ?_
                refine cs_i (q := 641) [.long ((2 : Int32).toInt64), .long 0, .long 2] hx hb hml hown hG v_X4_in (by decide +kernel) (c_X4_in l ((2 : Int32).toInt64) (0) (2)) (preT _) rfl hl.1 (Nat.le_of_ble_eq_true rfl) dX4_mornings_22 ⟨rfl, rfl, Nat.le_of_ble_eq_true rfl, Nat.le_of_ble_eq_true rfl⟩ ⟨Nat.le_of_ble_eq_true rfl, Nat.le_of_ble_eq_true rfl⟩ ?_
                refine lv_eqi (y := 1) (by decide +kernel) ?_
                refine lv_if_ne (tgt := 31) hx hb dX4_mornings_25 (by decide) (fun c_25 => ?_) (fun c_25 => ?_)
                · skip
                  refine lv_aload_n hx hb dX4_mornings_31 rfl (lv_at hl 0 rfl) ?_
                  refine cr_i (q := 761) [] hx hb hml hown hG v_X4_lacks (by decide +kernel) (c_X4_lacks l G μ hs n S q V ch hg) (preM hW _) rfl hl.1 (Nat.le_of_ble_eq_true rfl) dX4_mornings_32 ⟨rfl, rfl, Nat.le_of_ble_eq_true rfl, Nat.le_of_ble_eq_true rfl⟩ ⟨Nat.le_of_ble_eq_true rfl, Nat.le_of_ble_eq_true rfl⟩ ?_
                  refine lv_if_eq (tgt := 41) hx hb dX4_mornings_35 (by decide) (fun c_35 => ?_) (fun c_35 => ?_)
                  · skip
                    have b_35 := bI_0 c_35
                    refine lv_aload_n hx hb dX4_mornings_41 rfl (lv_at hl 0 rfl) ?_
                    refine rd_X4_16 hx hb hown hW dX4_mornings_42 ?_
                    refine lv_aload_n hx hb dX4_mornings_45 rfl (lv_at hl 0 rfl) ?_
                    refine rd_X4_28 hx hb hown hW dX4_mornings_46 ?_
                    refine cms_v (q := 815) [.ref (gm G 3), .ref (gm G 7)] hx hb hml hown hW.2 hS v_X4_copy (by decide +kernel) (c_X4_copy37 l G μ hs) (preMS hW _) rfl hl.1 (Nat.le_of_ble_eq_true rfl) dX4_mornings_49 ⟨rfl, rfl, Nat.le_of_ble_eq_true rfl, Nat.le_of_ble_eq_true rfl⟩ ⟨Nat.le_of_ble_eq_true rfl, Nat.le_of_ble_eq_true rfl⟩ (fun μ11 hs11 H locs hμ11 hW hS => ?_)
                    refine lv_aload_n hx hb dX4_mornings_52 rfl (lv_at hl 0 rfl) ?_
                    refine lv_iload_n hx hb dX4_mornings_53 rfl (lv_at hl 2 rfl) ?_
                    refine wr_X4_165 hx hb hown hW hS dX4_mornings_54 (fun H locs hW hS => ?_)
                    obtain ⟨μ12, hμ12⟩ : ∃ z, z = up2 μ11 (0) 13 (nI m9) := ⟨_, rfl⟩
                    rw [← hμ12] at hW
                    refine lv_iconst (v := 0) hx hb dX4_mornings_57 (by decide) ?_
                    refine lv_istore (lv' := [(4, .int 0), (0, .ref (gm G 0)), (1, .int (nI k)), (2, .int (nI m9)), (3, .int 2)]) hx hb dX4_mornings_58 hl (by decide) rfl (fun ls hl => ?_)
                    refine lv_iconst (v := 0) hx hb dX4_mornings_60 (by decide) ?_
                    refine lv_istore (lv' := [(5, .int 0), (4, .int 0), (0, .ref (gm G 0)), (1, .int (nI k)), (2, .int (nI m9)), (3, .int 2)]) hx hb dX4_mornings_61 hl (by decide) rfl (fun ls hl => ?_)
                    have loop_63 : ∀ (N9 : Nat) (j : Nat) (to : Int32) (jo : Int32) (μw : St) (hw : Int64) (H : Heap) (locs : List Loc), k - j < N9 → to = nI (mtN S n m9 j) → jo = nI j → j ≤ k → WM G μw hw s H → va_S (aM G) s.heap H locs → ((∀ f, f < 54 → μw 7 f = μ 3 f)) → MW μ n μw → μw 0 13 = nI (msN n m9 j) → ((∃ L : Nat → Nat, ∀ i, i < n → μw 3 (9 * i + 2) = nI (L i) ∧ L i ≤ 9)) → ∀ ls : Array Slot, lv_has ls 7 [(4, .int to), (5, .int jo), (0, .ref (gm G 0)), (1, .int (nI k)), (2, .int (nI m9)), (3, .int 2)] → W p l e (headSpec (w1 yX4_mornings cX4_mornings 7 (some .int)) ({ frames := 5, cells := 0, slots := 0, locals := 122 })).room s m [.ref (gm G 0), .int (nI k), .int (nI m9), .int 2].toArray below meth c H locs 0 0 (MQ below (QiM G (fun r u9 => r = aMorn n S (nI k) (nI m9) (nI 2) ∧ KQ μ u9)) [.ref (gm G 0), .int (nI k), .int (nI m9), .int 2].toArray s 0 0 (aM G)) (F0 m 63 ls []) := by
                      intro N9
                      induction N9 with
                      | zero => intro j to jo μw hw H locs hN; exact absurd hN (Nat.not_lt_zero _)
                      | succ N9 ih =>
                        intro j to jo μw hw H locs hN e_to e_jo hi0_63 hW hS hw0_63 hw1_63 hw2_63 hw3_63 ls hl
                        subst e_to
                        subst e_jo
                        have ih_63 := ih
                        have hm1 := hw1_63
                        refine lv_iload hx hb dX4_mornings_63 (lv_at hl 1 rfl) ?_
                        refine lv_iload_n hx hb dX4_mornings_65 rfl (lv_at hl 3 rfl) ?_
                        refine lv_icmp_ge (tgt := 119) hx hb dX4_mornings_66 (by decide) (fun c_66 => ?_) (fun c_66 => ?_)
                        · skip
                          have q_66 := tN_le k j c_66 rfl rfl (by omega) (by omega)
                          obtain ⟨L, hL⟩ := hw3_63
                          have hgm := hw1_63.rm hg L hL
                          refine lv_aload_n hx hb dX4_mornings_119 rfl (lv_at hl 2 rfl) ?_
                          refine cr_i (q := 830) [] hx hb hml hown hG v_X4_placesAll (by decide +kernel) (c_X4_placesAll l G μw hw n (wL S L) q V ch hgm) (preM hW _) rfl hl.1 (Nat.le_of_ble_eq_true rfl) dX4_mornings_120 ⟨rfl, rfl, Nat.le_of_ble_eq_true rfl, Nat.le_of_ble_eq_true rfl⟩ ⟨Nat.le_of_ble_eq_true rfl, Nat.le_of_ble_eq_true rfl⟩ ?_
                          refine lv_eqi (y := nI (allP S n)) (congrArg nI (wl_all (fun i9 h9 => (hg.2.2.2.1 i9 h9).1))) ?_
                          refine lv_istore (lv' := [(5, .int (nI (allP S n))), (4, .int (nI (mtN S n m9 j))), (0, .ref (gm G 0)), (1, .int (nI k)), (2, .int (nI m9)), (3, .int 2)]) hx hb dX4_mornings_123 hl (by decide) rfl (fun ls hl => ?_)
                          refine lv_aload_n hx hb dX4_mornings_125 rfl (lv_at hl 2 rfl) ?_
                          refine rd_X4_28 hx hb hown hW dX4_mornings_126 ?_
                          refine lv_aload_n hx hb dX4_mornings_129 rfl (lv_at hl 2 rfl) ?_
                          refine rd_X4_16 hx hb hown hW dX4_mornings_130 ?_
                          refine cms_v (q := 815) [.ref (gm G 7), .ref (gm G 3)] hx hb hml hown hW.2 hS v_X4_copy (by decide +kernel) (c_X4_copy73 l G μw hw) (preMS hW _) rfl hl.1 (Nat.le_of_ble_eq_true rfl) dX4_mornings_133 ⟨rfl, rfl, Nat.le_of_ble_eq_true rfl, Nat.le_of_ble_eq_true rfl⟩ ⟨Nat.le_of_ble_eq_true rfl, Nat.le_of_ble_eq_true rfl⟩ (fun μ13 hs13 H locs hμ13 hW hS => ?_)
                          refine lv_iload_n hx hb dX4_mornings_136 rfl (lv_at hl 5 rfl) ?_
                          refine lv_if_ne (tgt := 145) hx hb dX4_mornings_137 (by decide) (fun c_137 => ?_) (fun c_137 => ?_)
                          · skip
                            refine lv_iload_n hx hb dX4_mornings_145 rfl (lv_at hl 5 rfl) ?_
                            refine lv_iconst (v := 1) hx hb dX4_mornings_146 (by decide) ?_
                            refine lv_icmp_ne (tgt := 155) hx hb dX4_mornings_147 (by decide) (fun c_147 => ?_) (fun c_147 => ?_)
                            · skip
                              refine lv_aload_n hx hb dX4_mornings_155 rfl (lv_at hl 2 rfl) ?_
                              refine rd_X4_165 hx hb hown hW dX4_mornings_156 ?_
                              refine lv_eqi (y := nI (msN n m9 k)) (by have h9 : j = k := (by omega); subst h9; exact (congrFun (hμ13.2.2 0 (by decide)) 13).trans hw2_63) ?_
                              exact W.iret (v := nI (msN n m9 k)) hx hb hr (fun t9 ht9 hW9 => ⟨⟨_, (μ13, hs13), rfl, ⟨(by have h9 : j = k := (by omega); subst h9; rw [aMorn, wK_k hk (by omega), if_neg (by omega), if_neg c_13, wK_k (by omega) (by omega), nI_clamp hm9, moA, if_neg (of_decide_eq_false b_35), if_neg (show ¬ ((2 : Nat) = 0) by decide), if_neg (show ¬ ((2 : Nat) = 1) by decide)]), mo_back hw0_63 hw1_63 hμ13⟩, (by have h8 := hW.1; rw [← ht9] at h8; exact h8)⟩, hS.F ht9⟩) hS.2.2 dX4_mornings_159
                            · skip
                              exact absurd c_147 (by decide)
                          · skip
                            exact absurd c_137 (by decide)
                        · skip
                          have q_66 := tN_nle k j c_66 rfl rfl (by omega) (by omega)
                          refine lv_iconst (v := 0) hx hb dX4_mornings_69 (by decide) ?_
                          refine lv_istore (lv' := [(6, .int 0), (4, .int (nI (mtN S n m9 j))), (5, .int (nI j)), (0, .ref (gm G 0)), (1, .int (nI k)), (2, .int (nI m9)), (3, .int 2)]) hx hb dX4_mornings_70 hl (by decide) rfl (fun ls hl => ?_)
                          have loop_72 : ∀ (N9 : Nat) (i : Nat) (io : Int32) (μw : St) (hw : Int64) (H : Heap) (locs : List Loc), n - i < N9 → io = nI i → i ≤ n → WM G μw hw s H → va_S (aM G) s.heap H locs → ((∀ f, f < 54 → μw 7 f = μ 3 f)) → MW μ n μw → μw 0 13 = nI (sdN (msN n m9 j) i) → ((∀ a9, a9 < i → μw 3 (9 * a9 + 2) = nI (dlN (msN n m9 j) a9))) → ∀ ls : Array Slot, lv_has ls 7 [(6, .int io), (4, .int (nI (mtN S n m9 j))), (5, .int (nI j)), (0, .ref (gm G 0)), (1, .int (nI k)), (2, .int (nI m9)), (3, .int 2)] → W p l e (headSpec (w1 yX4_mornings cX4_mornings 7 (some .int)) ({ frames := 5, cells := 0, slots := 0, locals := 122 })).room s m [.ref (gm G 0), .int (nI k), .int (nI m9), .int 2].toArray below meth c H locs 0 0 (MQ below (QiM G (fun r u9 => r = aMorn n S (nI k) (nI m9) (nI 2) ∧ KQ μ u9)) [.ref (gm G 0), .int (nI k), .int (nI m9), .int 2].toArray s 0 0 (aM G)) (F0 m 72 ls []) := by
                            intro N9
                            induction N9 with
                            | zero => intro i io μw hw H locs hN; exact absurd hN (Nat.not_lt_zero _)
                            | succ N9 ih =>
                              intro i io μw hw H locs hN e_io hi0_72 hW hS hw0_72 hw1_72 hw2_72 hw3_72 ls hl
                              subst e_io
                              have ih_72 := ih
                              have hm1 := hw1_72
                              refine lv_iload hx hb dX4_mornings_72 (lv_at hl 0 rfl) ?_
                              refine lv_aload_n hx hb dX4_mornings_74 rfl (lv_at hl 3 rfl) ?_
                              refine rd_X4_75 hx hb hown hW dX4_mornings_75 ?_
                              refine lv_eqi (y := nI n) ((hm1 0 5 (by decide) (by decide) (fun z => absurd z (by decide))).trans hg.1.1) ?_
                              refine lv_icmp_ge (tgt := 104) hx hb dX4_mornings_78 (by decide) (fun c_78 => ?_) (fun c_78 => ?_)
                              · skip
                                have q_78 := tN_le n i c_78 rfl rfl (by omega) (by omega)
                                have hdl9 : ∀ i9, i9 < n → μw 3 (9 * i9 + 2) = nI (dlN (msN n m9 j) i9) ∧ dlN (msN n m9 j) i9 ≤ 9 := fun i9 h9 => ⟨hw3_72 i9 (by omega), dlN_le _ _⟩
                                have hgm := hw1_72.rm hg _ hdl9
                                refine lv_iload hx hb dX4_mornings_104 (lv_at hl 1 rfl) ?_
                                refine lv_aload_n hx hb dX4_mornings_106 rfl (lv_at hl 3 rfl) ?_
                                refine cr_i (q := 826) [] hx hb hml hown hG v_X4_meetAll (by decide +kernel) (c_X4_meetAll l G μw hw n (wL S (dlN (msN n m9 j))) q V ch hgm) (preM hW _) rfl hl.1 (Nat.le_of_ble_eq_true rfl) dX4_mornings_107 ⟨rfl, rfl, Nat.le_of_ble_eq_true rfl, Nat.le_of_ble_eq_true rfl⟩ ⟨Nat.le_of_ble_eq_true rfl, Nat.le_of_ble_eq_true rfl⟩ ?_
                                refine lv_eqi (y := nI (ouN (meL S (dlN (msN n m9 j))) n n)) (congrArg nI (wl_ou (fun i9 h9 => (hg.2.2.2.1 i9 h9).1))) ?_
                                refine ln_add (mtN S n m9 j) (ouN (meL S (dlN (msN n m9 j))) n n) hx hb rfl rfl dX4_mornings_110 ?_
                                refine lv_istore (lv' := [(4, .int (nI ((mtN S n m9 j) + (ouN (meL S (dlN (msN n m9 j))) n n)))), (6, .int (nI i)), (5, .int (nI j)), (0, .ref (gm G 0)), (1, .int (nI k)), (2, .int (nI m9)), (3, .int 2)]) hx hb dX4_mornings_111 hl (by decide) rfl (fun ls hl => ?_)
                                refine lv_iinc (v := nI (j + 1)) (lv' := [(5, .int (nI (j + 1))), (4, .int (nI ((mtN S n m9 j) + (ouN (meL S (dlN (msN n m9 j))) n n)))), (6, .int (nI i)), (0, .ref (gm G 0)), (1, .int (nI k)), (2, .int (nI m9)), (3, .int 2)]) hx hb dX4_mornings_113 hl (k := 2) rfl (inc1 j) (by decide) rfl (fun ls hl => ?_)
                                refine lv_goto (tgt := 63) hx hb dX4_mornings_116 (by decide) ?_
                                exact ih_63 (j + 1) _ _ _ _ _ _ (by omega) rfl rfl (by omega) hW hS hw0_72 hw1_72 (by have h9 : i = n := (by omega); subst h9; exact hw2_72) ⟨dlN (msN n m9 j), hdl9⟩ ls (lv_sub hl [1, 0, 3, 4, 5, 6] rfl)
                              · skip
                                have q_78 := tN_nle n i c_78 rfl rfl (by omega) (by omega)
                                refine lv_aload_n hx hb dX4_mornings_81 rfl (lv_at hl 3 rfl) ?_
                                refine rd_X4_16 hx hb hown hW dX4_mornings_82 ?_
                                refine lv_bipush (v := 9) hx hb dX4_mornings_85 (by decide) ?_
                                refine lv_iload hx hb dX4_mornings_87 (lv_at hl 0 rfl) ?_
                                refine ln_mul 9 i hx hb rfl rfl dX4_mornings_89 ?_
                                refine lv_iconst (v := 2) hx hb dX4_mornings_90 (by decide) ?_
                                refine ln_add (9 * i) 2 hx hb rfl rfl dX4_mornings_91 ?_
                                refine lv_aload_n hx hb dX4_mornings_92 rfl (lv_at hl 3 rfl) ?_
                                refine lv_iconst (v := 4) hx hb dX4_mornings_93 (by decide) ?_
                                refine cm_i (q := 818) [.int 4] hx hb hml hown hW.2 hS v_X4_draw (by decide +kernel) (c_X4_draw l G μw hw (sdN (msN n m9 j) i) (sdN_lt (msN_lt hm9 j) i) hw2_72) (preM hW _) rfl hl.1 (Nat.le_of_ble_eq_true rfl) dX4_mornings_94 ⟨rfl, rfl, Nat.le_of_ble_eq_true rfl, Nat.le_of_ble_eq_true rfl⟩ ⟨Nat.le_of_ble_eq_true rfl, Nat.le_of_ble_eq_true rfl⟩ (fun r_94 μ14 hs14 H locs hμ14 hW hS => ?_)
                                obtain ⟨hr1, hu0⟩ := hμ14
                                have hu1 : μ14 = up2 μw 0 13 (nI (nxN (sdN (msN n m9 j) i))) := hu0
                                subst hr1
                                refine lv_eqi (y := nI (dlN (msN n m9 j) i)) rfl ?_
                                refine as_M (k := (9 * i) + 2) 3 hx hb hW hS rfl (show _ < 54 by omega) dX4_mornings_97 (fun H locs hW hS => ?_)
                                obtain ⟨μ15, hμ15⟩ : ∃ z, z = up2 μ14 3 ((9 * i) + 2) (nI (dlN (msN n m9 j) i)) := ⟨_, rfl⟩
                                rw [← hμ15] at hW
                                refine lv_iinc (v := nI (i + 1)) (lv' := [(6, .int (nI (i + 1))), (4, .int (nI (mtN S n m9 j))), (5, .int (nI j)), (0, .ref (gm G 0)), (1, .int (nI k)), (2, .int (nI m9)), (3, .int 2)]) hx hb dX4_mornings_98 hl (k := 0) rfl (inc1 i) (by decide) rfl (fun ls hl => ?_)
                                refine lv_goto (tgt := 72) hx hb dX4_mornings_101 (by decide) ?_
                                exact ih_72 (i + 1) _ _ _ _ _ (by omega) rfl (by omega) hW hS (fun f hf => by subst hμ15; rw [up2_ne (by decide), hu1, up2_ne (by decide)]; exact hw0_72 f hf) (by subst hμ15; exact MW.s3 (by rw [hu1]; exact hw1_72.s13) (by omega)) (by subst hμ15; rw [up2_ne (by decide), hu1]; exact up2_eq) (by subst hμ15; exact dw_step (f := dlN (msN n m9 j)) (fun a9 h9 => by rw [hu1, up2_ne (by decide)]; exact hw3_72 a9 h9)) ls (lv_sub hl [0, 1, 2, 3, 4, 5, 6] rfl)
                          exact loop_72 _ 0 _ _ _ _ _ (Nat.lt_succ_self _) rfl (by omega) hW hS hw0_63 hw1_63 hw2_63 (fun a9 h9 => absurd h9 (by omega)) ls (lv_sub hl [0, 1, 2, 3, 4, 5, 6] rfl)
                    exact loop_63 _ 0 _ _ _ _ _ _ (Nat.lt_succ_self _) rfl rfl (by omega) hW hS (fun f hf => by subst hμ12; rw [up2_ne (by decide)]; exact hμ11.2.1 f hf) (by subst hμ12; exact MW.s13 (fun a f h7 _ _ => congrFun (hμ11.2.2 a h7) f)) (by subst hμ12; exact up2_eq) (by subst hμ12; exact ⟨fun i => S i 2, fun i hi => ⟨by rw [up2_ne (by decide), show μ11 3 = _ from hμ11.2.2 3 (by decide)]; exact (hg.2.2.2.1 i hi).2.2.2.2.2.1, (hg.2.2.2.1 i hi).2.2.1⟩⟩) ls (lv_sub hl [1, 0, 2, 3, 4, 5] rfl)
                  · skip
                    have b_35 := bI_1 c_35
                    refine lv_bipush (v := (-103)) hx hb dX4_mornings_38 (by decide) ?_
                    exact W.iret (v := (-103)) hx hb hr (fun t9 ht9 hW9 => ⟨⟨_, (μ, hs), rfl, ⟨by rw [aMorn, wK_k hk (by omega), if_neg (by omega), if_neg c_13, wK_k (by omega) (by omega), nI_clamp hm9, moA, if_pos (of_decide_eq_true b_35)], KQ.rf⟩, (by have h8 := hW.1; rw [← ht9] at h8; exact h8)⟩, hS.F ht9⟩) hS.2.2 dX4_mornings_40
                · skip
                  exact absurd c_25 (by decide)
set_option maxHeartbeats 4000000 in
set_option maxRecDepth 100000 in
theorem c_X4_image (l : Launch) (G : Gam) (μ : St) (hs : Int64) (n : Nat) (S : Nat → Sk) (q : Nat) (V : Nat → Nat) (ch : Int32) (hg : RM μ n S q V ch) : Met l yX4_image (w1 yX4_image cX4_image 1 (some .int)) ({ frames := 1, cells := 0, slots := 0, locals := 22 }) (PcM G μ hs [.ref (gm G 0)]) (QiM G (fun r u9 => (n = 0 → r = -103 ∧ u9.1 = μ) ∧ (n ≠ 0 → r = ch ∧ IMG μ u9.1))) 0 0 (aM G) := by
  refine met_of [.ref (gm G 0)] [(0, .ref (gm G 0))] (by decide) (Nat.le_of_ble_eq_true rfl) rfl ?_
  intro p e s m below meth c hx hb hr hown hml hlocks hW ls hl
  have hG : GW s := hW.2.2.2
  have hS : va_S (aM G) s.heap s.heap [] := va_S.rf
  refine lv_aload_n hx hb dX4_image_0 rfl (lv_at hl 0 rfl) ?_
  refine cr_i (q := 761) [] hx hb hml hown hG v_X4_lacks (by decide +kernel) (c_X4_lacks l G μ hs n S q V ch hg) (preM hW _) rfl hl.1 (Nat.le_of_ble_eq_true rfl) dX4_image_1 ⟨rfl, rfl, Nat.le_of_ble_eq_true rfl, Nat.le_of_ble_eq_true rfl⟩ ⟨Nat.le_of_ble_eq_true rfl, Nat.le_of_ble_eq_true rfl⟩ ?_
  refine lv_if_eq (tgt := 10) hx hb dX4_image_4 (by decide) (fun c_4 => ?_) (fun c_4 => ?_)
  · skip
    have b_4 := bI_0 c_4
    refine lv_aload_n hx hb dX4_image_10 rfl (lv_at hl 0 rfl) ?_
    refine rd_X4_16 hx hb hown hW dX4_image_11 ?_
    refine lv_aload_n hx hb dX4_image_14 rfl (lv_at hl 0 rfl) ?_
    refine rd_X4_31 hx hb hown hW dX4_image_15 ?_
    refine cms_v (q := 815) [.ref (gm G 3), .ref (gm G 8)] hx hb hml hown hW.2 hS v_X4_copy (by decide +kernel) (c_X4_copy38 l G μ hs) (preMS hW _) rfl hl.1 (Nat.le_of_ble_eq_true rfl) dX4_image_18 ⟨rfl, rfl, Nat.le_of_ble_eq_true rfl, Nat.le_of_ble_eq_true rfl⟩ ⟨Nat.le_of_ble_eq_true rfl, Nat.le_of_ble_eq_true rfl⟩ (fun μ1 hs1 H locs hμ1 hW hS => ?_)
    refine lv_aload_n hx hb dX4_image_21 rfl (lv_at hl 0 rfl) ?_
    refine rd_X4_22 hx hb hown hW dX4_image_22 ?_
    refine lv_aload_n hx hb dX4_image_25 rfl (lv_at hl 0 rfl) ?_
    refine rd_X4_34 hx hb hown hW dX4_image_26 ?_
    refine cms_v (q := 815) [.ref (gm G 5), .ref (gm G 9)] hx hb hml hown hW.2 hS v_X4_copy (by decide +kernel) (c_X4_copy59 l G μ1 hs1) (preMS hW _) rfl hl.1 (Nat.le_of_ble_eq_true rfl) dX4_image_29 ⟨rfl, rfl, Nat.le_of_ble_eq_true rfl, Nat.le_of_ble_eq_true rfl⟩ ⟨Nat.le_of_ble_eq_true rfl, Nat.le_of_ble_eq_true rfl⟩ (fun μ2 hs2 H locs hμ2 hW hS => ?_)
    refine lv_aload_n hx hb dX4_image_32 rfl (lv_at hl 0 rfl) ?_
    refine lv_aload_n hx hb dX4_image_33 rfl (lv_at hl 0 rfl) ?_
    refine rd_X4_75 hx hb hown hW dX4_image_34 ?_
    refine wr_X4_190 hx hb hown hW hS dX4_image_37 (fun H locs hW hS => ?_)
    obtain ⟨μ3, hμ3⟩ : ∃ z, z = up2 μ2 (0) 16 (μ2 (0) 5) := ⟨_, rfl⟩
    rw [← hμ3] at hW
    refine lv_aload_n hx hb dX4_image_40 rfl (lv_at hl 0 rfl) ?_
    refine lv_aload_n hx hb dX4_image_41 rfl (lv_at hl 0 rfl) ?_
    refine rd_X4_78 hx hb hown hW dX4_image_42 ?_
    refine wr_X4_193 hx hb hown hW hS dX4_image_45 (fun H locs hW hS => ?_)
    obtain ⟨μ4, hμ4⟩ : ∃ z, z = up2 μ3 (0) 17 (μ3 (0) 6) := ⟨_, rfl⟩
    rw [← hμ4] at hW
    refine lv_aload_n hx hb dX4_image_48 rfl (lv_at hl 0 rfl) ?_
    refine lv_aload_n hx hb dX4_image_49 rfl (lv_at hl 0 rfl) ?_
    refine rd_X4_81 hx hb hown hW dX4_image_50 ?_
    refine wr_X4_196 hx hb hown hW hS dX4_image_53 (fun H locs hW hS => ?_)
    obtain ⟨μ5, hμ5⟩ : ∃ z, z = up2 μ4 (0) 18 (μ4 (0) 10) := ⟨_, rfl⟩
    rw [← hμ5] at hW
    refine lv_aload_n hx hb dX4_image_56 rfl (lv_at hl 0 rfl) ?_
    refine lv_aload_n hx hb dX4_image_57 rfl (lv_at hl 0 rfl) ?_
    refine rd_X4_84 hx hb hown hW dX4_image_58 ?_
    refine wr_X4_37 hx hb hown hW hS dX4_image_61 (fun H locs hW hS => ?_)
    obtain ⟨μ6, hμ6⟩ : ∃ z, z = up2 μ5 (0) 15 (μ5 (0) 7) := ⟨_, rfl⟩
    rw [← hμ6] at hW
    refine lv_aload_n hx hb dX4_image_64 rfl (lv_at hl 0 rfl) ?_
    refine rd_X4_78 hx hb hown hW dX4_image_65 ?_
    exact W.iret (v := μ6 (0) 6) hx hb hr (fun t9 ht9 hW9 => ⟨⟨_, (μ6, hs2), rfl, ⟨fun z => absurd z (of_decide_eq_false b_4), fun _ => (by subst hμ6; subst hμ5; subst hμ4; subst hμ3; have hi9 := img hμ1 hμ2; exact ⟨(hi9.2.2.2.2.2.2 0 6 (by decide) (by decide) (fun _ => Or.inl (by decide))).trans hg.2.1, hi9⟩)⟩, (by have h8 := hW.1; rw [← ht9] at h8; exact h8)⟩, hS.F ht9⟩) hS.2.2 dX4_image_68
  · skip
    have b_4 := bI_1 c_4
    refine lv_bipush (v := (-103)) hx hb dX4_image_7 (by decide) ?_
    exact W.iret (v := (-103)) hx hb hr (fun t9 ht9 hW9 => ⟨⟨_, (μ, hs), rfl, ⟨fun _ => ⟨rfl, rfl⟩, fun z => absurd (of_decide_eq_true b_4) z⟩, (by have h8 := hW.1; rw [← ht9] at h8; exact h8)⟩, hS.F ht9⟩) hS.2.2 dX4_image_9
set_option maxHeartbeats 4000000 in
set_option maxRecDepth 100000 in
theorem c_X4_restore (l : Launch) (G : Gam) (μ : St) (hs : Int64) : Met l yX4_restore (w1 yX4_restore cX4_restore 1 (some .int)) ({ frames := 1, cells := 0, slots := 0, locals := 22 }) (PcM G μ hs [.ref (gm G 0)]) (QiM G (fun r u9 => (μ 0 15 ≠ μ 0 7 → r = -103 ∧ u9.1 = μ) ∧ (μ 0 15 = μ 0 7 → r = μ 0 17 ∧ RST μ u9.1))) 0 0 (aM G) := by
  refine met_of [.ref (gm G 0)] [(0, .ref (gm G 0))] (by decide) (Nat.le_of_ble_eq_true rfl) rfl ?_
  intro p e s m below meth c hx hb hr hown hml hlocks hW ls hl
  have hG : GW s := hW.2.2.2
  have hS : va_S (aM G) s.heap s.heap [] := va_S.rf
  refine lv_aload_n hx hb dX4_restore_0 rfl (lv_at hl 0 rfl) ?_
  refine rd_X4_37 hx hb hown hW dX4_restore_1 ?_
  refine lv_aload_n hx hb dX4_restore_4 rfl (lv_at hl 0 rfl) ?_
  refine rd_X4_84 hx hb hown hW dX4_restore_5 ?_
  refine lv_icmp_eq (tgt := 14) hx hb dX4_restore_8 (by decide) (fun c_8 => ?_) (fun c_8 => ?_)
  · skip
    refine lv_aload_n hx hb dX4_restore_14 rfl (lv_at hl 0 rfl) ?_
    refine rd_X4_31 hx hb hown hW dX4_restore_15 ?_
    refine lv_aload_n hx hb dX4_restore_18 rfl (lv_at hl 0 rfl) ?_
    refine rd_X4_16 hx hb hown hW dX4_restore_19 ?_
    refine cms_v (q := 815) [.ref (gm G 8), .ref (gm G 3)] hx hb hml hown hW.2 hS v_X4_copy (by decide +kernel) (c_X4_copy83 l G μ hs) (preMS hW _) rfl hl.1 (Nat.le_of_ble_eq_true rfl) dX4_restore_22 ⟨rfl, rfl, Nat.le_of_ble_eq_true rfl, Nat.le_of_ble_eq_true rfl⟩ ⟨Nat.le_of_ble_eq_true rfl, Nat.le_of_ble_eq_true rfl⟩ (fun μ1 hs1 H locs hμ1 hW hS => ?_)
    refine lv_aload_n hx hb dX4_restore_25 rfl (lv_at hl 0 rfl) ?_
    refine rd_X4_34 hx hb hown hW dX4_restore_26 ?_
    refine lv_aload_n hx hb dX4_restore_29 rfl (lv_at hl 0 rfl) ?_
    refine rd_X4_22 hx hb hown hW dX4_restore_30 ?_
    refine cms_v (q := 815) [.ref (gm G 9), .ref (gm G 5)] hx hb hml hown hW.2 hS v_X4_copy (by decide +kernel) (c_X4_copy95 l G μ1 hs1) (preMS hW _) rfl hl.1 (Nat.le_of_ble_eq_true rfl) dX4_restore_33 ⟨rfl, rfl, Nat.le_of_ble_eq_true rfl, Nat.le_of_ble_eq_true rfl⟩ ⟨Nat.le_of_ble_eq_true rfl, Nat.le_of_ble_eq_true rfl⟩ (fun μ2 hs2 H locs hμ2 hW hS => ?_)
    refine lv_aload_n hx hb dX4_restore_36 rfl (lv_at hl 0 rfl) ?_
    refine lv_aload_n hx hb dX4_restore_37 rfl (lv_at hl 0 rfl) ?_
    refine rd_X4_190 hx hb hown hW dX4_restore_38 ?_
    refine wr_X4_75 hx hb hown hW hS dX4_restore_41 (fun H locs hW hS => ?_)
    obtain ⟨μ3, hμ3⟩ : ∃ z, z = up2 μ2 (0) 5 (μ2 (0) 16) := ⟨_, rfl⟩
    rw [← hμ3] at hW
    refine lv_aload_n hx hb dX4_restore_44 rfl (lv_at hl 0 rfl) ?_
    refine lv_aload_n hx hb dX4_restore_45 rfl (lv_at hl 0 rfl) ?_
    refine rd_X4_193 hx hb hown hW dX4_restore_46 ?_
    refine wr_X4_78 hx hb hown hW hS dX4_restore_49 (fun H locs hW hS => ?_)
    obtain ⟨μ4, hμ4⟩ : ∃ z, z = up2 μ3 (0) 6 (μ3 (0) 17) := ⟨_, rfl⟩
    rw [← hμ4] at hW
    refine lv_aload_n hx hb dX4_restore_52 rfl (lv_at hl 0 rfl) ?_
    refine lv_aload_n hx hb dX4_restore_53 rfl (lv_at hl 0 rfl) ?_
    refine rd_X4_196 hx hb hown hW dX4_restore_54 ?_
    refine wr_X4_81 hx hb hown hW hS dX4_restore_57 (fun H locs hW hS => ?_)
    obtain ⟨μ5, hμ5⟩ : ∃ z, z = up2 μ4 (0) 10 (μ4 (0) 18) := ⟨_, rfl⟩
    rw [← hμ5] at hW
    refine lv_aload_n hx hb dX4_restore_60 rfl (lv_at hl 0 rfl) ?_
    refine rd_X4_78 hx hb hown hW dX4_restore_61 ?_
    exact W.iret (v := μ5 (0) 6) hx hb hr (fun t9 ht9 hW9 => ⟨⟨_, (μ5, hs2), rfl, ⟨fun z => absurd c_8 z, fun _ => (by subst hμ5; subst hμ4; subst hμ3; have hi9 := rst hμ1 hμ2; exact ⟨hi9.2.2.2.1, hi9⟩)⟩, (by have h8 := hW.1; rw [← ht9] at h8; exact h8)⟩, hS.F ht9⟩) hS.2.2 dX4_restore_64
  · skip
    refine lv_bipush (v := (-103)) hx hb dX4_restore_11 (by decide) ?_
    exact W.iret (v := (-103)) hx hb hr (fun t9 ht9 hW9 => ⟨⟨_, (μ, hs), rfl, ⟨fun _ => ⟨rfl, rfl⟩, fun z => absurd z c_8⟩, (by have h8 := hW.1; rw [← ht9] at h8; exact h8)⟩, hS.F ht9⟩) hS.2.2 dX4_restore_13
