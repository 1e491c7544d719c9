def R_law : String := "StickWaysLaw"
def lw_P (b : Addr) (xs : List Int32) (args : Array Value) (s : State) : Prop := args = #[.ref b] ∧ s.IntsAt b xs ∧ xs.length ≤ 2048 ∧ (Jvm.Cond.and given_1 narrow_1).before args s = true
def lw_Q (_ : Array Value) (s : State) (o : Outcome) (t : State) : Prop := o = .returned (some (.int 1)) ∧ Framed s o t [] 600000 7302250
def lw_Z (below : List Frame) (a : Array Value) (s : State) : State → Prop := fun t => ∃ o, t.status = .running ∧ Ended t below o ∧ lw_Q a s o t
/-- the law's own end, with 1 on the stack, nothing written that was there before, its room as the claim has it -/
theorem lw_ret {p : Program} {l : Launch} {e : Env} {s : State} {m : MethodId} {below : List Frame} {meth : Method} {c : Code} {b : Nat} (hx : p.tables.exec = Jvm.exec) (hb : c.code = code) (hr : meth.sig.returnType = ret) (hlocks : meth.locks = false) {pc : Nat} {H : Heap} {ls : Array Slot} (hdg : decode code pc = .ok (.ireturn, 1)) : W p l e room_1 s m #[Value.ref b] below meth c H [] 600000 7302250 (lw_Z below #[Value.ref b] s) (F0 m pc ls [.int 1]) := by
  intro T hT X
  obtain ⟨fs, hret, hrun, hended, hW, hframe⟩ := X.leave (v := some (.int 1)) (hlocks := hlocks) (fun h => by rw [hr] at h; cases h)
  have hmeth' : T.vm.method? m = some meth := X.method'
  refine ⟨T.setFrames fs, ?_, .returned (some (.int 1)), hrun, hended, rfl, ⟨_, rfl⟩, hW, hframe⟩
  jvm_step X.here [X.here.top, hx, hb, hdg, hmeth', hr, ret, narrow_b1]
  (try refine ⟨rfl, ?_⟩); (try refine ⟨rfl, ?_⟩)
  first | (intro acts; rw [hret _ acts rfl rfl rfl]) | rw [hret _ _ rfl rfl rfl]
  exact Steps.refl _
/-- what holds at the law's entry: the machine, the code, the tables' words (any of lw_tbl by 'hts w (by decide +kernel)'), the script of L ints xs at the cell b, what the Statement gives of the start (any of its parts by flat_of_before) -/
def lw_At (p : Program) (s : State) (m : MethodId) (meth : Method) (c : Code) (b L : Nat) (xs : Nat → Int32) : Prop :=
  p.tables.exec = Jvm.exec ∧ c.code = code ∧ meth.sig.returnType = ret ∧ c.maxLocals = 4 ∧ s.vm.findClass R_law = some m.cls ∧ (∀ w ∈ lw_tbl, w.before #[Value.ref b] s = true) ∧ va_X b L xs s s.heap ∧ b < s.heap.size ∧ meth.locks = false ∧ (Jvm.Cond.and given_1 narrow_1).before #[Value.ref b] s = true
theorem lt4 {L : Nat} (h : L < 4) : nI L - 4 < 0 := by
  rcases (show L = 0 ∨ L = 1 ∨ L = 2 ∨ L = 3 by omega) with rfl | rfl | rfl | rfl <;> decide
/-- the loop's test, as a comparison of numbers -/
theorem goes_on {L i : Nat} (hL : L ≤ 2048) (hi : i ≤ 4096) (h : ¬ nI L - 4 < nI i) : i + 4 ≤ L := by
  by_cases h4 : L < 4
  · refine absurd ?_ h
    have h1 := lt4 h4
    rw [i_lt] at h1 ⊢
    have h1 : (nI L - 4).toInt < 0 := h1
    rw [nI_toInt (by omega)]
    omega
  · have e : nI L - 4 = nI (L - 4) := pk_sub (a := L) (b := 4) (by omega)
    rw [e] at h
    have := mt (nI_ltI (a := L - 4) (b := i) (by omega) (by omega)).mpr h
    omega
theorem tI32 : ∀ k, k < 32 → 22 < k → (nI k).toInt < 0 ∨ (22 : Int) < (nI k).toInt := by decide +kernel
set_option maxHeartbeats 4000000 in
set_option maxRecDepth 100000 in
/-- one turn: from the switch to instruction 710 -/
theorem law_turn {p : Program} {e : Env} {s : State} {m : MethodId} {below : List Frame} {meth : Method} {c : Code} {H : Heap} {locs : List Loc} {Q : State → Prop} {ls : Array Slot} {G : Gam} {σ μ : St} {hs : Int64} {b L : Nat} {xs : Nat → Int32} (l : Launch) (hC : LC p s m c b L xs G) (i c9 : Nat) (hi : i + 4 ≤ L) (hc9 : c9 < 1000000) (iv : IV c9 σ μ) (hX : PX G σ H) (hM : PM G μ hs H) (hS : va_S (A0 s) s.heap H locs) (hl : lv_has ls 4 [(3, .int (nI i)), (2, .ref (gm G 0)), (1, .ref (ga G 0)), (0, .ref b)]) (kk : KK p l e s m b below meth c Q G ls c9) : WL p l e s m b below meth c H locs Q (F0 m 26 ls []) := by
  have hx := hC.1
  have hb := hC.2.1
  refine lv_aload_n hx hb dL_law_26 rfl (lv_at hl 3 rfl) ?_
  refine lv_iload_n hx hb dL_law_27 rfl (lv_at hl 0 rfl) ?_
  refine ll_sld i hC hS (by omega) dL_law_28 ?_
  refine lv_bipush (v := 31) hx hb dL_law_29 (by decide) ?_
  refine lv_iand hx hb dL_law_31 ?_
  obtain ⟨k, hk, ek⟩ := pk_andE (xs i) (m := 31) 5 (by decide)
  refine lv_eqi ek ?_
  have hk : k < 32 := hk
  by_cases h22 : 22 < k
  · obtain ⟨n, S, q, V, ch, pn, P, R, kp, w⟩ := iv
    exact lv_tableOut (tgt := 710) hx hb dL_law_32 (tI32 k hk h22) (by decide) (kk σ μ hs H locs w.same.iv hX hM hS)
  rcases (show k = 0 ∨ k = 1 ∨ k = 2 ∨ k = 3 ∨ k = 4 ∨ k = 5 ∨ k = 6 ∨ k = 7 ∨ k = 8 ∨ k = 9 ∨ k = 10 ∨ k = 11 ∨ k = 12 ∨ k = 13 ∨ k = 14 ∨ k = 15 ∨ k = 16 ∨ k = 17 ∨ k = 18 ∨ k = 19 ∨ k = 20 ∨ k = 21 ∨ k = 22 by omega) with rfl | rfl | rfl | rfl | rfl | rfl | rfl | rfl | rfl | rfl | rfl | rfl | rfl | rfl | rfl | rfl | rfl | rfl | rfl | rfl | rfl | rfl | rfl
  · exact lv_tableIn (off := 108) (tgt := 140) hx hb dL_law_32 (by decide) (by decide) rfl (by decide) (lc_letter l hC i c9 hi hc9 iv hX hM hS hl kk)
  · exact lv_tableIn (off := 131) (tgt := 163) hx hb dL_law_32 (by decide) (by decide) rfl (by decide) (lc_blank l hC i c9 hi hc9 iv hX hM hS hl kk)
  · exact lv_tableIn (off := 144) (tgt := 176) hx hb dL_law_32 (by decide) (by decide) rfl (by decide) (lc_fault l hC i c9 hi hc9 iv hX hM hS hl kk)
  · exact lv_tableIn (off := 157) (tgt := 189) hx hb dL_law_32 (by decide) (by decide) rfl (by decide) (lc_hills l hC i c9 hi hc9 iv hX hM hS hl kk)
  · exact lv_tableIn (off := 170) (tgt := 202) hx hb dL_law_32 (by decide) (by decide) rfl (by decide) (lc_stick l hC i c9 hi hc9 iv hX hM hS hl kk)
  · exact lv_tableIn (off := 203) (tgt := 235) hx hb dL_law_32 (by decide) (by decide) rfl (by decide) (lc_as l hC i c9 hi hc9 iv hX hM hS hl kk)
  · exact lv_tableIn (off := 236) (tgt := 268) hx hb dL_law_32 (by decide) (by decide) rfl (by decide) (lc_at l hC i c9 hi hc9 iv hX hM hS hl kk)
  · exact lv_tableIn (off := 269) (tgt := 301) hx hb dL_law_32 (by decide) (by decide) rfl (by decide) (lc_meet l hC i c9 hi hc9 iv hX hM hS hl kk)
  · exact lv_tableIn (off := 302) (tgt := 334) hx hb dL_law_32 (by decide) (by decide) rfl (by decide) (lc_late l hC i c9 hi hc9 iv hX hM hS hl kk)
  · exact lv_tableIn (off := 335) (tgt := 367) hx hb dL_law_32 (by decide) (by decide) rfl (by decide) (lc_cut l hC i c9 hi hc9 iv hX hM hS hl kk)
  · exact lv_tableIn (off := 368) (tgt := 400) hx hb dL_law_32 (by decide) (by decide) rfl (by decide) (lc_saw l hC i c9 hi hc9 iv hX hM hS hl kk)
  · exact lv_tableIn (off := 401) (tgt := 433) hx hb dL_law_32 (by decide) (by decide) rfl (by decide) (lc_later l hC i c9 hi hc9 iv hX hM hS hl kk)
  · exact lv_tableIn (off := 434) (tgt := 466) hx hb dL_law_32 (by decide) (by decide) rfl (by decide) (lc_cover l hC i c9 hi hc9 iv hX hM hS hl kk)
  · exact lv_tableIn (off := 467) (tgt := 499) hx hb dL_law_32 (by decide) (by decide) rfl (by decide) (lc_catches l hC i c9 hi hc9 iv hX hM hS hl kk)
  · exact lv_tableIn (off := 500) (tgt := 532) hx hb dL_law_32 (by decide) (by decide) rfl (by decide) (lc_see l hC i c9 hi hc9 iv hX hM hS hl kk)
  · exact lv_tableIn (off := 533) (tgt := 565) hx hb dL_law_32 (by decide) (by decide) rfl (by decide) (lc_forget l hC i c9 hi hc9 iv hX hM hS hl kk)
  · exact lv_tableIn (off := 546) (tgt := 578) hx hb dL_law_32 (by decide) (by decide) rfl (by decide) (lc_whose l hC i c9 hi hc9 iv hX hM hS hl kk)
  · exact lv_tableIn (off := 559) (tgt := 591) hx hb dL_law_32 (by decide) (by decide) rfl (by decide) (lc_look l hC i c9 hi hc9 iv hX hM hS hl kk)
  · exact lv_tableIn (off := 572) (tgt := 604) hx hb dL_law_32 (by decide) (by decide) rfl (by decide) (lc_mornings l hC i c9 hi hc9 iv hX hM hS hl kk)
  · exact lv_tableIn (off := 615) (tgt := 647) hx hb dL_law_32 (by decide) (by decide) rfl (by decide) (lc_image l hC i c9 hi hc9 iv hX hM hS hl kk)
  · exact lv_tableIn (off := 628) (tgt := 660) hx hb dL_law_32 (by decide) (by decide) rfl (by decide) (lc_restore l hC i c9 hi hc9 iv hX hM hS hl kk)
  · exact lv_tableIn (off := 641) (tgt := 673) hx hb dL_law_32 (by decide) (by decide) rfl (by decide) (lc_count l hC i c9 hi hc9 iv hX hM hS hl kk)
  · exact lv_tableIn (off := 664) (tgt := 696) hx hb dL_law_32 (by decide) (by decide) rfl (by decide) (lc_digest l hC i c9 hi hc9 iv hX hM hS hl kk)
set_option maxHeartbeats 4000000 in
set_option maxRecDepth 100000 in
theorem law_loop {p : Program} {e : Env} {s : State} {m : MethodId} {below : List Frame} {meth : Method} {c : Code} {G : Gam} {b L : Nat} {xs : Nat → Int32} (l : Launch) (hC : LC p s m c b L xs G) (hr : meth.sig.returnType = ret) (hlocks : meth.locks = false) :
    ∀ (N9 c9 : Nat) (σ μ : St) (hs : Int64) (H : Heap) (locs : List Loc), 600 < N9 + c9 → c9 ≤ 600 → IV c9 σ μ → PX G σ H → PM G μ hs H → va_S (A0 s) s.heap H locs → ∀ ls : Array Slot, lv_has ls 4 [(3, .int (nI (4 * c9))), (2, .ref (gm G 0)), (1, .ref (ga G 0)), (0, .ref b)] → WL p l e s m b below meth c H locs (lw_Z below #[Value.ref b] s) (F0 m 18 ls []) := by
  intro N9
  induction N9 with
  | zero => intro c9 σ μ hs H locs h1 h2; omega
  | succ N9 ih =>
    intro c9 σ μ hs H locs hN hc iv hX hM hS ls hl
    obtain ⟨hx, hb, hml, hown, hCX, hCM, hSX, hXS, hbl, hL, hd⟩ := id hC
    refine lv_iload_n hx hb dL_law_18 rfl (lv_at hl 0 rfl) ?_
    refine lv_aload_n hx hb dL_law_19 rfl (lv_at hl 3 rfl) ?_
    refine va_slen hx hb hXS hbl (Nat.not_le.mpr hbl) hS dL_law_20 ?_
    refine lv_iconst (v := 4) hx hb dL_law_21 (by decide) ?_
    refine lv_isub hx hb dL_law_22 ?_
    refine lv_icmp_gt (tgt := 716) hx hb dL_law_23 (by decide) (fun c_ => ?_) (fun c_ => ?_)
    · refine lv_iconst (v := 1) hx hb dL_law_716 (by decide) ?_
      refine va_forget hS.2.2 ?_
      exact lw_ret hx hb hr hlocks dL_law_717
    · have hi : 4 * c9 + 4 ≤ L := goes_on hL (by omega) c_
      refine law_turn l hC (4 * c9) c9 hi (by omega) iv hX hM hS hl (fun σ' μ' hs' H' locs' iv' hX' hM' hS' => ?_)
      refine lv_iinc (v := nI (4 * (c9 + 1))) (lv' := [(3, .int (nI (4 * (c9 + 1)))), (2, .ref (gm G 0)), (1, .ref (ga G 0)), (0, .ref b)]) hx hb dL_law_710 hl (k := 0) rfl (nI_add (4 * c9) 4) (by decide) rfl (fun ls hl => ?_)
      refine lv_goto (tgt := 18) hx hb dL_law_713 (by decide) ?_
      exact ih (c9 + 1) σ' μ' hs' H' locs' (by omega) (by omega) iv' hX' hM' hS' ls hl
