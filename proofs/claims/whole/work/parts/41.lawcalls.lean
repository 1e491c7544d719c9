/-! ===== the law: its calls ===== -/
theorem IVw.kp_t {c : Nat} {σ μ : St} {n : Nat} {S : Nat → Sk} {q : Nat} {V : Nat → Nat} {ch : Int32} {pn : Nat} {P : Nat → Nat} {R : Nat} {kp : Bool} (h : IVw c σ μ n S q V ch pn P R kp) (hk : kp = true) : μ 0 15 = μ 0 7 := by
  obtain ⟨-, -, -, -, ⟨-, t2, -⟩, -, -, kk⟩ := h
  rcases kk with ⟨h1, -⟩ | ⟨-, h2, -⟩
  · rw [hk] at h1; cases h1
  · exact h2.trans t2.symm
set_option maxHeartbeats 4000000 in
set_option maxRecDepth 100000 in
theorem lc_letter {p : Program} {e : Env} {s : State} {m : MethodId} {below : List Frame} {meth : Method} {c : Code} {H : Heap} {locs : List Loc} {Q : State → Prop} {ls : Array Slot} {G : Gam} {σ μ : St} {hs : Int64} {b L : Nat} {xs : Nat → Int32} (l : Launch) (hC : LC p s m c b L xs G) (i c9 : Nat) (hi : i + 4 ≤ L) (hc9 : c9 < 1000000) (iv : IV c9 σ μ) (hX : PX G σ H) (hM : PM G μ hs H) (hS : va_S (A0 s) s.heap H locs) (hl : lv_has ls 4 [(3, .int (nI i)), (2, .ref (gm G 0)), (1, .ref (ga G 0)), (0, .ref b)]) (kk : KK p l e s m b below meth c Q G ls c9) : WL p l e s m b below meth c H locs Q (F0 m 140 ls []) := by
  obtain ⟨hx, hb, hml, hown, hCX, hCM, hSX, hXS, hbl, hL, hd⟩ := id hC
  obtain ⟨n, S, q, V, ch, pn, P, R, kp, w⟩ := iv
  obtain ⟨g, r, pg, rp, ⟨t1, t2, t3⟩, ax, hk, kv9⟩ := id w
  have hG : GW s := hCX.2.2.1
  refine lv_aload_n hx hb dL_law_140 rfl (lv_at hl 2 rfl) ?_
  refine lv_aload_n hx hb dL_law_141 rfl (lv_at hl 3 rfl) ?_
  refine lv_iload_n hx hb dL_law_142 rfl (lv_at hl 0 rfl) ?_
  refine lv_iconst (v := 1) hx hb dL_law_143 (by decide) ?_
  refine ln_add i 1 hx hb rfl rfl dL_law_144 ?_
  refine ll_sld (i + 1) hC hS (by omega) dL_law_145 ?_
  refine lx_i (q := 165) [.int (xs (i + 1))] hC hM hS v_X3_letter (by decide +kernel) (c_X3_letter l G σ pn P pg (xs (i + 1))) (preX ⟨hX, hCX⟩ _) rfl hl.1 (Nat.le_of_ble_eq_true rfl) dL_law_146 ⟨rfl, rfl, (Nat.le_of_ble_eq_true rfl), (Nat.le_of_ble_eq_true rfl)⟩ (fun r1 σ1 H locs h1 hX hM hS => ?_)
  refine lv_aload_n hx hb dL_law_149 rfl (lv_at hl 1 rfl) ?_
  refine lv_aload_n hx hb dL_law_150 rfl (lv_at hl 3 rfl) ?_
  refine lv_iload_n hx hb dL_law_151 rfl (lv_at hl 0 rfl) ?_
  refine lv_iconst (v := 1) hx hb dL_law_152 (by decide) ?_
  refine ln_add i 1 hx hb rfl rfl dL_law_153 ?_
  refine ll_sld (i + 1) hC hS (by omega) dL_law_154 ?_
  refine lm_i (q := 636) [.int (xs (i + 1))] hC hX hS v_X4_letter (by decide +kernel) (c_X4_letter l G μ hs pn P rp (xs (i + 1))) (preM ⟨hM, hCM⟩ _) rfl hl.1 (Nat.le_of_ble_eq_true rfl) dL_law_155 ⟨rfl, rfl, (Nat.le_of_ble_eq_true rfl), (Nat.le_of_ble_eq_true rfl)⟩ (fun r2 μ1 hs1 H locs h2 hX hM hS => ?_)
  refine lv_icmp_eq (tgt := 710) hx hb dL_law_158 (by decide) (fun c_ => ?_) (fun c_ => absurd (h1.1.trans h2.1.symm) c_)
  exact kk σ1 μ1 hs1 _ _ (IVw.iv (w.pag h1.2 h2.2.1 h2.2.2)) hX hM hS
set_option maxHeartbeats 4000000 in
set_option maxRecDepth 100000 in
theorem lc_blank {p : Program} {e : Env} {s : State} {m : MethodId} {below : List Frame} {meth : Method} {c : Code} {H : Heap} {locs : List Loc} {Q : State → Prop} {ls : Array Slot} {G : Gam} {σ μ : St} {hs : Int64} {b L : Nat} {xs : Nat → Int32} (l : Launch) (hC : LC p s m c b L xs G) (i c9 : Nat) (hi : i + 4 ≤ L) (hc9 : c9 < 1000000) (iv : IV c9 σ μ) (hX : PX G σ H) (hM : PM G μ hs H) (hS : va_S (A0 s) s.heap H locs) (hl : lv_has ls 4 [(3, .int (nI i)), (2, .ref (gm G 0)), (1, .ref (ga G 0)), (0, .ref b)]) (kk : KK p l e s m b below meth c Q G ls c9) : WL p l e s m b below meth c H locs Q (F0 m 163 ls []) := by
  obtain ⟨hx, hb, hml, hown, hCX, hCM, hSX, hXS, hbl, hL, hd⟩ := id hC
  obtain ⟨n, S, q, V, ch, pn, P, R, kp, w⟩ := iv
  obtain ⟨g, r, pg, rp, ⟨t1, t2, t3⟩, ax, hk, kv9⟩ := id w
  have hG : GW s := hCX.2.2.1
  refine lv_aload_n hx hb dL_law_163 rfl (lv_at hl 2 rfl) ?_
  refine lx_i (q := 173) [] hC hM hS v_X3_blank (by decide +kernel) (c_X3_blank l G σ pn P pg ) (preX ⟨hX, hCX⟩ _) rfl hl.1 (Nat.le_of_ble_eq_true rfl) dL_law_164 ⟨rfl, rfl, (Nat.le_of_ble_eq_true rfl), (Nat.le_of_ble_eq_true rfl)⟩ (fun r1 σ1 H locs h1 hX hM hS => ?_)
  refine lv_aload_n hx hb dL_law_167 rfl (lv_at hl 1 rfl) ?_
  refine lm_i (q := 644) [] hC hX hS v_X4_blank (by decide +kernel) (c_X4_blank l G μ hs pn P rp ) (preM ⟨hM, hCM⟩ _) rfl hl.1 (Nat.le_of_ble_eq_true rfl) dL_law_168 ⟨rfl, rfl, (Nat.le_of_ble_eq_true rfl), (Nat.le_of_ble_eq_true rfl)⟩ (fun r2 μ1 hs1 H locs h2 hX hM hS => ?_)
  refine lv_icmp_eq (tgt := 710) hx hb dL_law_171 (by decide) (fun c_ => ?_) (fun c_ => absurd (h1.1.trans h2.1.symm) c_)
  exact kk σ1 μ1 hs1 _ _ (by have e1 := h1.2; have e2 : μ1 = up2 μ 0 1 0 := h2.2; rw [e1, e2]; exact IVw.iv w.bla) hX hM hS
set_option maxHeartbeats 4000000 in
set_option maxRecDepth 100000 in
theorem lc_fault {p : Program} {e : Env} {s : State} {m : MethodId} {below : List Frame} {meth : Method} {c : Code} {H : Heap} {locs : List Loc} {Q : State → Prop} {ls : Array Slot} {G : Gam} {σ μ : St} {hs : Int64} {b L : Nat} {xs : Nat → Int32} (l : Launch) (hC : LC p s m c b L xs G) (i c9 : Nat) (hi : i + 4 ≤ L) (hc9 : c9 < 1000000) (iv : IV c9 σ μ) (hX : PX G σ H) (hM : PM G μ hs H) (hS : va_S (A0 s) s.heap H locs) (hl : lv_has ls 4 [(3, .int (nI i)), (2, .ref (gm G 0)), (1, .ref (ga G 0)), (0, .ref b)]) (kk : KK p l e s m b below meth c Q G ls c9) : WL p l e s m b below meth c H locs Q (F0 m 176 ls []) := by
  obtain ⟨hx, hb, hml, hown, hCX, hCM, hSX, hXS, hbl, hL, hd⟩ := id hC
  obtain ⟨n, S, q, V, ch, pn, P, R, kp, w⟩ := iv
  obtain ⟨g, r, pg, rp, ⟨t1, t2, t3⟩, ax, hk, kv9⟩ := id w
  have hG : GW s := hCX.2.2.1
  refine lv_aload_n hx hb dL_law_176 rfl (lv_at hl 2 rfl) ?_
  refine cr_i (q := 177) [] hx hb hml hown hG v_X3_fault (by decide +kernel) (c_X3_fault l G σ pn P pg ) (preSX ⟨hX, hCX⟩ (hSX.law hS) _) rfl hl.1 (Nat.le_of_ble_eq_true rfl) dL_law_177 ⟨rfl, rfl, (Nat.le_of_ble_eq_true rfl), (Nat.le_of_ble_eq_true rfl)⟩ ⟨(Nat.le_of_ble_eq_true rfl), (Nat.le_of_ble_eq_true rfl)⟩ ?_
  have hR := hS
  refine lv_aload_n hx hb dL_law_180 rfl (lv_at hl 1 rfl) ?_
  refine lm_i (q := 648) [] hC hX hS v_X4_fault (by decide +kernel) (c_X4_fault l G μ hs pn P rp ) (preM ⟨hM, hCM⟩ _) rfl hl.1 (Nat.le_of_ble_eq_true rfl) dL_law_181 ⟨rfl, rfl, (Nat.le_of_ble_eq_true rfl), (Nat.le_of_ble_eq_true rfl)⟩ (fun r2 μ1 hs1 H locs h2 hX hM hS => ?_)
  refine lv_icmp_eq (tgt := 710) hx hb dL_law_184 (by decide) (fun c_ => ?_) (fun c_ => absurd h2.1.symm c_)
  exact kk σ μ1 hs1 _ _ (IVw.iv (w.mu (fun _ _ => rfl) (rel_kf h2.2))) hX hM hS
set_option maxHeartbeats 4000000 in
set_option maxRecDepth 100000 in
theorem lc_hills {p : Program} {e : Env} {s : State} {m : MethodId} {below : List Frame} {meth : Method} {c : Code} {H : Heap} {locs : List Loc} {Q : State → Prop} {ls : Array Slot} {G : Gam} {σ μ : St} {hs : Int64} {b L : Nat} {xs : Nat → Int32} (l : Launch) (hC : LC p s m c b L xs G) (i c9 : Nat) (hi : i + 4 ≤ L) (hc9 : c9 < 1000000) (iv : IV c9 σ μ) (hX : PX G σ H) (hM : PM G μ hs H) (hS : va_S (A0 s) s.heap H locs) (hl : lv_has ls 4 [(3, .int (nI i)), (2, .ref (gm G 0)), (1, .ref (ga G 0)), (0, .ref b)]) (kk : KK p l e s m b below meth c Q G ls c9) : WL p l e s m b below meth c H locs Q (F0 m 189 ls []) := by
  obtain ⟨hx, hb, hml, hown, hCX, hCM, hSX, hXS, hbl, hL, hd⟩ := id hC
  obtain ⟨n, S, q, V, ch, pn, P, R, kp, w⟩ := iv
  obtain ⟨g, r, pg, rp, ⟨t1, t2, t3⟩, ax, hk, kv9⟩ := id w
  have hG : GW s := hCX.2.2.1
  refine lv_aload_n hx hb dL_law_189 rfl (lv_at hl 2 rfl) ?_
  refine lx_i (q := 280) [] hC hM hS v_X3_hills (by decide +kernel) (c_X3_hills l G σ pn P pg (nI R) t1 ) (preSX ⟨hX, hCX⟩ (hSX.law hS) _) rfl hl.1 (Nat.le_of_ble_eq_true rfl) dL_law_190 ⟨rfl, rfl, (Nat.le_of_ble_eq_true rfl), (Nat.le_of_ble_eq_true rfl)⟩ (fun r1 σ1 H locs h1 hX hM hS => ?_)
  refine lv_aload_n hx hb dL_law_193 rfl (lv_at hl 1 rfl) ?_
  refine lm_i (q := 668) [] hC hX hS v_X4_hills (by decide +kernel) (c_X4_hills l G μ hs pn P rp (nI R) t2 ) (preM ⟨hM, hCM⟩ _) rfl hl.1 (Nat.le_of_ble_eq_true rfl) dL_law_194 ⟨rfl, rfl, (Nat.le_of_ble_eq_true rfl), (Nat.le_of_ble_eq_true rfl)⟩ (fun r2 μ1 hs1 H locs h2 hX hM hS => ?_)
  have hfin : r1 = r2 ∧ IV (c9 + 1) σ1 μ1 := by
    by_cases hh : ftN P pn = pn ∧ 2 < (prN P pn).2
    · obtain ⟨e1, σ8, z1, z2⟩ := h1.2 hh
      obtain ⟨e2, y1⟩ := h2.2 hh
      refine ⟨e1.trans e2.symm, ?_⟩
      rw [z2]
      exact IVw.iv (w.hil hh.2 hc9 z1 y1)
    · obtain ⟨e1, z1⟩ := h1.1 hh
      obtain ⟨e2, y1⟩ := h2.1 hh
      refine ⟨e1.trans e2.symm, ?_⟩
      rw [z1]
      exact IVw.iv (w.mu (fun _ _ => rfl) (rel_kf y1))
  refine lv_icmp_eq (tgt := 710) hx hb dL_law_197 (by decide) (fun c_ => ?_) (fun c_ => absurd hfin.1 c_)
  exact kk σ1 μ1 hs1 _ _ (hfin.2) hX hM hS
set_option maxHeartbeats 4000000 in
set_option maxRecDepth 100000 in
theorem lc_stick {p : Program} {e : Env} {s : State} {m : MethodId} {below : List Frame} {meth : Method} {c : Code} {H : Heap} {locs : List Loc} {Q : State → Prop} {ls : Array Slot} {G : Gam} {σ μ : St} {hs : Int64} {b L : Nat} {xs : Nat → Int32} (l : Launch) (hC : LC p s m c b L xs G) (i c9 : Nat) (hi : i + 4 ≤ L) (hc9 : c9 < 1000000) (iv : IV c9 σ μ) (hX : PX G σ H) (hM : PM G μ hs H) (hS : va_S (A0 s) s.heap H locs) (hl : lv_has ls 4 [(3, .int (nI i)), (2, .ref (gm G 0)), (1, .ref (ga G 0)), (0, .ref b)]) (kk : KK p l e s m b below meth c Q G ls c9) : WL p l e s m b below meth c H locs Q (F0 m 202 ls []) := by
  obtain ⟨hx, hb, hml, hown, hCX, hCM, hSX, hXS, hbl, hL, hd⟩ := id hC
  obtain ⟨n, S, q, V, ch, pn, P, R, kp, w⟩ := iv
  obtain ⟨g, r, pg, rp, ⟨t1, t2, t3⟩, ax, hk, kv9⟩ := id w
  have hG : GW s := hCX.2.2.1
  refine lv_aload_n hx hb dL_law_202 rfl (lv_at hl 2 rfl) ?_
  refine lv_aload_n hx hb dL_law_203 rfl (lv_at hl 3 rfl) ?_
  refine lv_iload_n hx hb dL_law_204 rfl (lv_at hl 0 rfl) ?_
  refine lv_iconst (v := 1) hx hb dL_law_205 (by decide) ?_
  refine ln_add i 1 hx hb rfl rfl dL_law_206 ?_
  refine ll_sld (i + 1) hC hS (by omega) dL_law_207 ?_
  refine lv_aload_n hx hb dL_law_208 rfl (lv_at hl 3 rfl) ?_
  refine lv_iload_n hx hb dL_law_209 rfl (lv_at hl 0 rfl) ?_
  refine lv_iconst (v := 2) hx hb dL_law_210 (by decide) ?_
  refine ln_add i 2 hx hb rfl rfl dL_law_211 ?_
  refine ll_sld (i + 2) hC hS (by omega) dL_law_212 ?_
  refine cr_i (q := 333) [.int (xs (i + 1)), .int (xs (i + 2))] hx hb hml hown hG v_X3_stick (by decide +kernel) (c_X3_stick l G σ n S q V ch g (xs (i + 1)) (xs (i + 2))) (preX ⟨hX, hCX⟩ _) rfl hl.1 (Nat.le_of_ble_eq_true rfl) dL_law_213 ⟨rfl, rfl, (Nat.le_of_ble_eq_true rfl), (Nat.le_of_ble_eq_true rfl)⟩ ⟨(Nat.le_of_ble_eq_true rfl), (Nat.le_of_ble_eq_true rfl)⟩ ?_
  have hR := hS
  refine lv_aload_n hx hb dL_law_216 rfl (lv_at hl 1 rfl) ?_
  refine lv_aload_n hx hb dL_law_217 rfl (lv_at hl 3 rfl) ?_
  refine lv_iload_n hx hb dL_law_218 rfl (lv_at hl 0 rfl) ?_
  refine lv_iconst (v := 1) hx hb dL_law_219 (by decide) ?_
  refine ln_add i 1 hx hb rfl rfl dL_law_220 ?_
  refine ll_sld (i + 1) hC hS (by omega) dL_law_221 ?_
  refine lv_aload_n hx hb dL_law_222 rfl (lv_at hl 3 rfl) ?_
  refine lv_iload_n hx hb dL_law_223 rfl (lv_at hl 0 rfl) ?_
  refine lv_iconst (v := 2) hx hb dL_law_224 (by decide) ?_
  refine ln_add i 2 hx hb rfl rfl dL_law_225 ?_
  refine ll_sld (i + 2) hC hS (by omega) dL_law_226 ?_
  refine cr_i (q := 672) [.int (xs (i + 1)), .int (xs (i + 2))] hx hb hml hown hG v_X4_stick (by decide +kernel) (c_X4_stick l G μ hs n S q V ch r (xs (i + 1)) (xs (i + 2))) (preM ⟨hM, hCM⟩ _) rfl hl.1 (Nat.le_of_ble_eq_true rfl) dL_law_227 ⟨rfl, rfl, (Nat.le_of_ble_eq_true rfl), (Nat.le_of_ble_eq_true rfl)⟩ ⟨(Nat.le_of_ble_eq_true rfl), (Nat.le_of_ble_eq_true rfl)⟩ ?_
  refine lv_icmp_eq (tgt := 710) hx hb dL_law_230 (by decide) (fun c_ => ?_) (fun c_ => absurd rfl c_)
  exact kk σ μ hs _ _ ((IVw.iv w.same)) hX hM hS
set_option maxHeartbeats 4000000 in
set_option maxRecDepth 100000 in
theorem lc_as {p : Program} {e : Env} {s : State} {m : MethodId} {below : List Frame} {meth : Method} {c : Code} {H : Heap} {locs : List Loc} {Q : State → Prop} {ls : Array Slot} {G : Gam} {σ μ : St} {hs : Int64} {b L : Nat} {xs : Nat → Int32} (l : Launch) (hC : LC p s m c b L xs G) (i c9 : Nat) (hi : i + 4 ≤ L) (hc9 : c9 < 1000000) (iv : IV c9 σ μ) (hX : PX G σ H) (hM : PM G μ hs H) (hS : va_S (A0 s) s.heap H locs) (hl : lv_has ls 4 [(3, .int (nI i)), (2, .ref (gm G 0)), (1, .ref (ga G 0)), (0, .ref b)]) (kk : KK p l e s m b below meth c Q G ls c9) : WL p l e s m b below meth c H locs Q (F0 m 235 ls []) := by
  obtain ⟨hx, hb, hml, hown, hCX, hCM, hSX, hXS, hbl, hL, hd⟩ := id hC
  obtain ⟨n, S, q, V, ch, pn, P, R, kp, w⟩ := iv
  obtain ⟨g, r, pg, rp, ⟨t1, t2, t3⟩, ax, hk, kv9⟩ := id w
  have hG : GW s := hCX.2.2.1
  refine lv_aload_n hx hb dL_law_235 rfl (lv_at hl 2 rfl) ?_
  refine lv_aload_n hx hb dL_law_236 rfl (lv_at hl 3 rfl) ?_
  refine lv_iload_n hx hb dL_law_237 rfl (lv_at hl 0 rfl) ?_
  refine lv_iconst (v := 1) hx hb dL_law_238 (by decide) ?_
  refine ln_add i 1 hx hb rfl rfl dL_law_239 ?_
  refine ll_sld (i + 1) hC hS (by omega) dL_law_240 ?_
  refine lv_aload_n hx hb dL_law_241 rfl (lv_at hl 3 rfl) ?_
  refine lv_iload_n hx hb dL_law_242 rfl (lv_at hl 0 rfl) ?_
  refine lv_iconst (v := 2) hx hb dL_law_243 (by decide) ?_
  refine ln_add i 2 hx hb rfl rfl dL_law_244 ?_
  refine ll_sld (i + 2) hC hS (by omega) dL_law_245 ?_
  refine cr_i (q := 352) [.int (xs (i + 1)), .int (xs (i + 2))] hx hb hml hown hG v_X3_as (by decide +kernel) (c_X3_as l G σ n S q V ch g (xs (i + 1)) (xs (i + 2))) (preSX ⟨hX, hCX⟩ (hSX.law hS) _) rfl hl.1 (Nat.le_of_ble_eq_true rfl) dL_law_246 ⟨rfl, rfl, (Nat.le_of_ble_eq_true rfl), (Nat.le_of_ble_eq_true rfl)⟩ ⟨(Nat.le_of_ble_eq_true rfl), (Nat.le_of_ble_eq_true rfl)⟩ ?_
  have hR := hS
  refine lv_aload_n hx hb dL_law_249 rfl (lv_at hl 1 rfl) ?_
  refine lv_aload_n hx hb dL_law_250 rfl (lv_at hl 3 rfl) ?_
  refine lv_iload_n hx hb dL_law_251 rfl (lv_at hl 0 rfl) ?_
  refine lv_iconst (v := 1) hx hb dL_law_252 (by decide) ?_
  refine ln_add i 1 hx hb rfl rfl dL_law_253 ?_
  refine ll_sld (i + 1) hC hS (by omega) dL_law_254 ?_
  refine lv_aload_n hx hb dL_law_255 rfl (lv_at hl 3 rfl) ?_
  refine lv_iload_n hx hb dL_law_256 rfl (lv_at hl 0 rfl) ?_
  refine lv_iconst (v := 2) hx hb dL_law_257 (by decide) ?_
  refine ln_add i 2 hx hb rfl rfl dL_law_258 ?_
  refine ll_sld (i + 2) hC hS (by omega) dL_law_259 ?_
  refine cr_i (q := 713) [.int (xs (i + 1)), .int (xs (i + 2))] hx hb hml hown hG v_X4_as (by decide +kernel) (c_X4_as l G μ hs n S q V ch r (xs (i + 1)) (xs (i + 2))) (preM ⟨hM, hCM⟩ _) rfl hl.1 (Nat.le_of_ble_eq_true rfl) dL_law_260 ⟨rfl, rfl, (Nat.le_of_ble_eq_true rfl), (Nat.le_of_ble_eq_true rfl)⟩ ⟨(Nat.le_of_ble_eq_true rfl), (Nat.le_of_ble_eq_true rfl)⟩ ?_
  refine lv_icmp_eq (tgt := 710) hx hb dL_law_263 (by decide) (fun c_ => ?_) (fun c_ => absurd rfl c_)
  exact kk σ μ hs _ _ ((IVw.iv w.same)) hX hM hS
set_option maxHeartbeats 4000000 in
set_option maxRecDepth 100000 in
theorem lc_at {p : Program} {e : Env} {s : State} {m : MethodId} {below : List Frame} {meth : Method} {c : Code} {H : Heap} {locs : List Loc} {Q : State → Prop} {ls : Array Slot} {G : Gam} {σ μ : St} {hs : Int64} {b L : Nat} {xs : Nat → Int32} (l : Launch) (hC : LC p s m c b L xs G) (i c9 : Nat) (hi : i + 4 ≤ L) (hc9 : c9 < 1000000) (iv : IV c9 σ μ) (hX : PX G σ H) (hM : PM G μ hs H) (hS : va_S (A0 s) s.heap H locs) (hl : lv_has ls 4 [(3, .int (nI i)), (2, .ref (gm G 0)), (1, .ref (ga G 0)), (0, .ref b)]) (kk : KK p l e s m b below meth c Q G ls c9) : WL p l e s m b below meth c H locs Q (F0 m 268 ls []) := by
  obtain ⟨hx, hb, hml, hown, hCX, hCM, hSX, hXS, hbl, hL, hd⟩ := id hC
  obtain ⟨n, S, q, V, ch, pn, P, R, kp, w⟩ := iv
  obtain ⟨g, r, pg, rp, ⟨t1, t2, t3⟩, ax, hk, kv9⟩ := id w
  have hG : GW s := hCX.2.2.1
  refine lv_aload_n hx hb dL_law_268 rfl (lv_at hl 2 rfl) ?_
  refine lv_aload_n hx hb dL_law_269 rfl (lv_at hl 3 rfl) ?_
  refine lv_iload_n hx hb dL_law_270 rfl (lv_at hl 0 rfl) ?_
  refine lv_iconst (v := 1) hx hb dL_law_271 (by decide) ?_
  refine ln_add i 1 hx hb rfl rfl dL_law_272 ?_
  refine ll_sld (i + 1) hC hS (by omega) dL_law_273 ?_
  refine lv_aload_n hx hb dL_law_274 rfl (lv_at hl 3 rfl) ?_
  refine lv_iload_n hx hb dL_law_275 rfl (lv_at hl 0 rfl) ?_
  refine lv_iconst (v := 2) hx hb dL_law_276 (by decide) ?_
  refine ln_add i 2 hx hb rfl rfl dL_law_277 ?_
  refine ll_sld (i + 2) hC hS (by omega) dL_law_278 ?_
  refine cr_i (q := 362) [.int (xs (i + 1)), .int (xs (i + 2))] hx hb hml hown hG v_X3_at (by decide +kernel) (c_X3_at l G σ n S q V ch g (xs (i + 1)) (xs (i + 2))) (preX ⟨hX, hCX⟩ _) rfl hl.1 (Nat.le_of_ble_eq_true rfl) dL_law_279 ⟨rfl, rfl, (Nat.le_of_ble_eq_true rfl), (Nat.le_of_ble_eq_true rfl)⟩ ⟨(Nat.le_of_ble_eq_true rfl), (Nat.le_of_ble_eq_true rfl)⟩ ?_
  have hR := hS
  refine lv_aload_n hx hb dL_law_282 rfl (lv_at hl 1 rfl) ?_
  refine lv_aload_n hx hb dL_law_283 rfl (lv_at hl 3 rfl) ?_
  refine lv_iload_n hx hb dL_law_284 rfl (lv_at hl 0 rfl) ?_
  refine lv_iconst (v := 1) hx hb dL_law_285 (by decide) ?_
  refine ln_add i 1 hx hb rfl rfl dL_law_286 ?_
  refine ll_sld (i + 1) hC hS (by omega) dL_law_287 ?_
  refine lv_aload_n hx hb dL_law_288 rfl (lv_at hl 3 rfl) ?_
  refine lv_iload_n hx hb dL_law_289 rfl (lv_at hl 0 rfl) ?_
  refine lv_iconst (v := 2) hx hb dL_law_290 (by decide) ?_
  refine ln_add i 2 hx hb rfl rfl dL_law_291 ?_
  refine ll_sld (i + 2) hC hS (by omega) dL_law_292 ?_
  refine cr_i (q := 718) [.int (xs (i + 1)), .int (xs (i + 2))] hx hb hml hown hG v_X4_at (by decide +kernel) (c_X4_at l G μ hs n S q V ch r (xs (i + 1)) (xs (i + 2))) (preM ⟨hM, hCM⟩ _) rfl hl.1 (Nat.le_of_ble_eq_true rfl) dL_law_293 ⟨rfl, rfl, (Nat.le_of_ble_eq_true rfl), (Nat.le_of_ble_eq_true rfl)⟩ ⟨(Nat.le_of_ble_eq_true rfl), (Nat.le_of_ble_eq_true rfl)⟩ ?_
  refine lv_icmp_eq (tgt := 710) hx hb dL_law_296 (by decide) (fun c_ => ?_) (fun c_ => absurd rfl c_)
  exact kk σ μ hs _ _ ((IVw.iv w.same)) hX hM hS
set_option maxHeartbeats 4000000 in
set_option maxRecDepth 100000 in
theorem lc_meet {p : Program} {e : Env} {s : State} {m : MethodId} {below : List Frame} {meth : Method} {c : Code} {H : Heap} {locs : List Loc} {Q : State → Prop} {ls : Array Slot} {G : Gam} {σ μ : St} {hs : Int64} {b L : Nat} {xs : Nat → Int32} (l : Launch) (hC : LC p s m c b L xs G) (i c9 : Nat) (hi : i + 4 ≤ L) (hc9 : c9 < 1000000) (iv : IV c9 σ μ) (hX : PX G σ H) (hM : PM G μ hs H) (hS : va_S (A0 s) s.heap H locs) (hl : lv_has ls 4 [(3, .int (nI i)), (2, .ref (gm G 0)), (1, .ref (ga G 0)), (0, .ref b)]) (kk : KK p l e s m b below meth c Q G ls c9) : WL p l e s m b below meth c H locs Q (F0 m 301 ls []) := by
  obtain ⟨hx, hb, hml, hown, hCX, hCM, hSX, hXS, hbl, hL, hd⟩ := id hC
  obtain ⟨n, S, q, V, ch, pn, P, R, kp, w⟩ := iv
  obtain ⟨g, r, pg, rp, ⟨t1, t2, t3⟩, ax, hk, kv9⟩ := id w
  have hG : GW s := hCX.2.2.1
  refine lv_aload_n hx hb dL_law_301 rfl (lv_at hl 2 rfl) ?_
  refine lv_aload_n hx hb dL_law_302 rfl (lv_at hl 3 rfl) ?_
  refine lv_iload_n hx hb dL_law_303 rfl (lv_at hl 0 rfl) ?_
  refine lv_iconst (v := 1) hx hb dL_law_304 (by decide) ?_
  refine ln_add i 1 hx hb rfl rfl dL_law_305 ?_
  refine ll_sld (i + 1) hC hS (by omega) dL_law_306 ?_
  refine lv_aload_n hx hb dL_law_307 rfl (lv_at hl 3 rfl) ?_
  refine lv_iload_n hx hb dL_law_308 rfl (lv_at hl 0 rfl) ?_
  refine lv_iconst (v := 2) hx hb dL_law_309 (by decide) ?_
  refine ln_add i 2 hx hb rfl rfl dL_law_310 ?_
  refine ll_sld (i + 2) hC hS (by omega) dL_law_311 ?_
  refine cr_i (q := 377) [.int (xs (i + 1)), .int (xs (i + 2))] hx hb hml hown hG v_X3_meet (by decide +kernel) (c_X3_meet l G σ n S q V ch g (xs (i + 1)) (xs (i + 2))) (preX ⟨hX, hCX⟩ _) rfl hl.1 (Nat.le_of_ble_eq_true rfl) dL_law_312 ⟨rfl, rfl, (Nat.le_of_ble_eq_true rfl), (Nat.le_of_ble_eq_true rfl)⟩ ⟨(Nat.le_of_ble_eq_true rfl), (Nat.le_of_ble_eq_true rfl)⟩ ?_
  have hR := hS
  refine lv_aload_n hx hb dL_law_315 rfl (lv_at hl 1 rfl) ?_
  refine lv_aload_n hx hb dL_law_316 rfl (lv_at hl 3 rfl) ?_
  refine lv_iload_n hx hb dL_law_317 rfl (lv_at hl 0 rfl) ?_
  refine lv_iconst (v := 1) hx hb dL_law_318 (by decide) ?_
  refine ln_add i 1 hx hb rfl rfl dL_law_319 ?_
  refine ll_sld (i + 1) hC hS (by omega) dL_law_320 ?_
  refine lv_aload_n hx hb dL_law_321 rfl (lv_at hl 3 rfl) ?_
  refine lv_iload_n hx hb dL_law_322 rfl (lv_at hl 0 rfl) ?_
  refine lv_iconst (v := 2) hx hb dL_law_323 (by decide) ?_
  refine ln_add i 2 hx hb rfl rfl dL_law_324 ?_
  refine ll_sld (i + 2) hC hS (by omega) dL_law_325 ?_
  refine cr_i (q := 723) [.int (xs (i + 1)), .int (xs (i + 2))] hx hb hml hown hG v_X4_meet (by decide +kernel) (c_X4_meet l G μ hs n S q V ch r (xs (i + 1)) (xs (i + 2))) (preM ⟨hM, hCM⟩ _) rfl hl.1 (Nat.le_of_ble_eq_true rfl) dL_law_326 ⟨rfl, rfl, (Nat.le_of_ble_eq_true rfl), (Nat.le_of_ble_eq_true rfl)⟩ ⟨(Nat.le_of_ble_eq_true rfl), (Nat.le_of_ble_eq_true rfl)⟩ ?_
  refine lv_icmp_eq (tgt := 710) hx hb dL_law_329 (by decide) (fun c_ => ?_) (fun c_ => absurd rfl c_)
  exact kk σ μ hs _ _ ((IVw.iv w.same)) hX hM hS
set_option maxHeartbeats 4000000 in
set_option maxRecDepth 100000 in
theorem lc_late {p : Program} {e : Env} {s : State} {m : MethodId} {below : List Frame} {meth : Method} {c : Code} {H : Heap} {locs : List Loc} {Q : State → Prop} {ls : Array Slot} {G : Gam} {σ μ : St} {hs : Int64} {b L : Nat} {xs : Nat → Int32} (l : Launch) (hC : LC p s m c b L xs G) (i c9 : Nat) (hi : i + 4 ≤ L) (hc9 : c9 < 1000000) (iv : IV c9 σ μ) (hX : PX G σ H) (hM : PM G μ hs H) (hS : va_S (A0 s) s.heap H locs) (hl : lv_has ls 4 [(3, .int (nI i)), (2, .ref (gm G 0)), (1, .ref (ga G 0)), (0, .ref b)]) (kk : KK p l e s m b below meth c Q G ls c9) : WL p l e s m b below meth c H locs Q (F0 m 334 ls []) := by
  obtain ⟨hx, hb, hml, hown, hCX, hCM, hSX, hXS, hbl, hL, hd⟩ := id hC
  obtain ⟨n, S, q, V, ch, pn, P, R, kp, w⟩ := iv
  obtain ⟨g, r, pg, rp, ⟨t1, t2, t3⟩, ax, hk, kv9⟩ := id w
  have hG : GW s := hCX.2.2.1
  refine lv_aload_n hx hb dL_law_334 rfl (lv_at hl 2 rfl) ?_
  refine lv_aload_n hx hb dL_law_335 rfl (lv_at hl 3 rfl) ?_
  refine lv_iload_n hx hb dL_law_336 rfl (lv_at hl 0 rfl) ?_
  refine lv_iconst (v := 1) hx hb dL_law_337 (by decide) ?_
  refine ln_add i 1 hx hb rfl rfl dL_law_338 ?_
  refine ll_sld (i + 1) hC hS (by omega) dL_law_339 ?_
  refine lv_aload_n hx hb dL_law_340 rfl (lv_at hl 3 rfl) ?_
  refine lv_iload_n hx hb dL_law_341 rfl (lv_at hl 0 rfl) ?_
  refine lv_iconst (v := 2) hx hb dL_law_342 (by decide) ?_
  refine ln_add i 2 hx hb rfl rfl dL_law_343 ?_
  refine ll_sld (i + 2) hC hS (by omega) dL_law_344 ?_
  refine lx_i (q := 390) [.int (xs (i + 1)), .int (xs (i + 2))] hC hM hS v_X3_late (by decide +kernel) (c_X3_late l G σ n S q V ch g (xs (i + 1)) (xs (i + 2))) (preX ⟨hX, hCX⟩ _) rfl hl.1 (Nat.le_of_ble_eq_true rfl) dL_law_345 ⟨rfl, rfl, (Nat.le_of_ble_eq_true rfl), (Nat.le_of_ble_eq_true rfl)⟩ (fun r1 σ1 H locs h1 hX hM hS => ?_)
  refine lv_aload_n hx hb dL_law_348 rfl (lv_at hl 1 rfl) ?_
  refine lv_aload_n hx hb dL_law_349 rfl (lv_at hl 3 rfl) ?_
  refine lv_iload_n hx hb dL_law_350 rfl (lv_at hl 0 rfl) ?_
  refine lv_iconst (v := 1) hx hb dL_law_351 (by decide) ?_
  refine ln_add i 1 hx hb rfl rfl dL_law_352 ?_
  refine ll_sld (i + 1) hC hS (by omega) dL_law_353 ?_
  refine lv_aload_n hx hb dL_law_354 rfl (lv_at hl 3 rfl) ?_
  refine lv_iload_n hx hb dL_law_355 rfl (lv_at hl 0 rfl) ?_
  refine lv_iconst (v := 2) hx hb dL_law_356 (by decide) ?_
  refine ln_add i 2 hx hb rfl rfl dL_law_357 ?_
  refine ll_sld (i + 2) hC hS (by omega) dL_law_358 ?_
  refine lm_i (q := 735) [.int (xs (i + 1)), .int (xs (i + 2))] hC hX hS v_X4_late (by decide +kernel) (c_X4_late l G μ hs n S q V ch r (xs (i + 1)) (xs (i + 2))) (preM ⟨hM, hCM⟩ _) rfl hl.1 (Nat.le_of_ble_eq_true rfl) dL_law_359 ⟨rfl, rfl, (Nat.le_of_ble_eq_true rfl), (Nat.le_of_ble_eq_true rfl)⟩ (fun r2 μ1 hs1 H locs h2 hX hM hS => ?_)
  refine lv_icmp_eq (tgt := 710) hx hb dL_law_362 (by decide) (fun c_ => ?_) (fun c_ => absurd (h1.1.trans h2.1.symm) c_)
  exact kk σ1 μ1 hs1 _ _ (IVw.iv (w.chg h1.2 h2.2.1 (fun a f z1 z2 z3 => h2.2.2 a f z1 (fun z => ⟨(z3 z).1, (z3 z).2.1⟩)))) hX hM hS
set_option maxHeartbeats 4000000 in
set_option maxRecDepth 100000 in
theorem lc_cut {p : Program} {e : Env} {s : State} {m : MethodId} {below : List Frame} {meth : Method} {c : Code} {H : Heap} {locs : List Loc} {Q : State → Prop} {ls : Array Slot} {G : Gam} {σ μ : St} {hs : Int64} {b L : Nat} {xs : Nat → Int32} (l : Launch) (hC : LC p s m c b L xs G) (i c9 : Nat) (hi : i + 4 ≤ L) (hc9 : c9 < 1000000) (iv : IV c9 σ μ) (hX : PX G σ H) (hM : PM G μ hs H) (hS : va_S (A0 s) s.heap H locs) (hl : lv_has ls 4 [(3, .int (nI i)), (2, .ref (gm G 0)), (1, .ref (ga G 0)), (0, .ref b)]) (kk : KK p l e s m b below meth c Q G ls c9) : WL p l e s m b below meth c H locs Q (F0 m 367 ls []) := by
  obtain ⟨hx, hb, hml, hown, hCX, hCM, hSX, hXS, hbl, hL, hd⟩ := id hC
  obtain ⟨n, S, q, V, ch, pn, P, R, kp, w⟩ := iv
  obtain ⟨g, r, pg, rp, ⟨t1, t2, t3⟩, ax, hk, kv9⟩ := id w
  have hG : GW s := hCX.2.2.1
  refine lv_aload_n hx hb dL_law_367 rfl (lv_at hl 2 rfl) ?_
  refine lv_aload_n hx hb dL_law_368 rfl (lv_at hl 3 rfl) ?_
  refine lv_iload_n hx hb dL_law_369 rfl (lv_at hl 0 rfl) ?_
  refine lv_iconst (v := 1) hx hb dL_law_370 (by decide) ?_
  refine ln_add i 1 hx hb rfl rfl dL_law_371 ?_
  refine ll_sld (i + 1) hC hS (by omega) dL_law_372 ?_
  refine lv_aload_n hx hb dL_law_373 rfl (lv_at hl 3 rfl) ?_
  refine lv_iload_n hx hb dL_law_374 rfl (lv_at hl 0 rfl) ?_
  refine lv_iconst (v := 2) hx hb dL_law_375 (by decide) ?_
  refine ln_add i 2 hx hb rfl rfl dL_law_376 ?_
  refine ll_sld (i + 2) hC hS (by omega) dL_law_377 ?_
  refine lx_i (q := 394) [.int (xs (i + 1)), .int (xs (i + 2))] hC hM hS v_X3_cut (by decide +kernel) (c_X3_cut l G σ n S q V ch g (xs (i + 1)) (xs (i + 2))) (preX ⟨hX, hCX⟩ _) rfl hl.1 (Nat.le_of_ble_eq_true rfl) dL_law_378 ⟨rfl, rfl, (Nat.le_of_ble_eq_true rfl), (Nat.le_of_ble_eq_true rfl)⟩ (fun r1 σ1 H locs h1 hX hM hS => ?_)
  refine lv_aload_n hx hb dL_law_381 rfl (lv_at hl 1 rfl) ?_
  refine lv_aload_n hx hb dL_law_382 rfl (lv_at hl 3 rfl) ?_
  refine lv_iload_n hx hb dL_law_383 rfl (lv_at hl 0 rfl) ?_
  refine lv_iconst (v := 1) hx hb dL_law_384 (by decide) ?_
  refine ln_add i 1 hx hb rfl rfl dL_law_385 ?_
  refine ll_sld (i + 1) hC hS (by omega) dL_law_386 ?_
  refine lv_aload_n hx hb dL_law_387 rfl (lv_at hl 3 rfl) ?_
  refine lv_iload_n hx hb dL_law_388 rfl (lv_at hl 0 rfl) ?_
  refine lv_iconst (v := 2) hx hb dL_law_389 (by decide) ?_
  refine ln_add i 2 hx hb rfl rfl dL_law_390 ?_
  refine ll_sld (i + 2) hC hS (by omega) dL_law_391 ?_
  refine lm_i (q := 740) [.int (xs (i + 1)), .int (xs (i + 2))] hC hX hS v_X4_cut (by decide +kernel) (c_X4_cut l G μ hs n S q V ch r (xs (i + 1)) (xs (i + 2))) (preM ⟨hM, hCM⟩ _) rfl hl.1 (Nat.le_of_ble_eq_true rfl) dL_law_392 ⟨rfl, rfl, (Nat.le_of_ble_eq_true rfl), (Nat.le_of_ble_eq_true rfl)⟩ (fun r2 μ1 hs1 H locs h2 hX hM hS => ?_)
  refine lv_icmp_eq (tgt := 710) hx hb dL_law_395 (by decide) (fun c_ => ?_) (fun c_ => absurd (h1.1.trans h2.1.symm) c_)
  exact kk σ1 μ1 hs1 _ _ (IVw.iv (w.chg h1.2 h2.2.1 (fun a f z1 z2 z3 => h2.2.2 a f z1 (fun z => ⟨(z3 z).1, (z3 z).2.1⟩)))) hX hM hS
set_option maxHeartbeats 4000000 in
set_option maxRecDepth 100000 in
theorem lc_saw {p : Program} {e : Env} {s : State} {m : MethodId} {below : List Frame} {meth : Method} {c : Code} {H : Heap} {locs : List Loc} {Q : State → Prop} {ls : Array Slot} {G : Gam} {σ μ : St} {hs : Int64} {b L : Nat} {xs : Nat → Int32} (l : Launch) (hC : LC p s m c b L xs G) (i c9 : Nat) (hi : i + 4 ≤ L) (hc9 : c9 < 1000000) (iv : IV c9 σ μ) (hX : PX G σ H) (hM : PM G μ hs H) (hS : va_S (A0 s) s.heap H locs) (hl : lv_has ls 4 [(3, .int (nI i)), (2, .ref (gm G 0)), (1, .ref (ga G 0)), (0, .ref b)]) (kk : KK p l e s m b below meth c Q G ls c9) : WL p l e s m b below meth c H locs Q (F0 m 400 ls []) := by
  obtain ⟨hx, hb, hml, hown, hCX, hCM, hSX, hXS, hbl, hL, hd⟩ := id hC
  obtain ⟨n, S, q, V, ch, pn, P, R, kp, w⟩ := iv
  obtain ⟨g, r, pg, rp, ⟨t1, t2, t3⟩, ax, hk, kv9⟩ := id w
  have hG : GW s := hCX.2.2.1
  refine lv_aload_n hx hb dL_law_400 rfl (lv_at hl 2 rfl) ?_
  refine lv_aload_n hx hb dL_law_401 rfl (lv_at hl 3 rfl) ?_
  refine lv_iload_n hx hb dL_law_402 rfl (lv_at hl 0 rfl) ?_
  refine lv_iconst (v := 1) hx hb dL_law_403 (by decide) ?_
  refine ln_add i 1 hx hb rfl rfl dL_law_404 ?_
  refine ll_sld (i + 1) hC hS (by omega) dL_law_405 ?_
  refine lv_aload_n hx hb dL_law_406 rfl (lv_at hl 3 rfl) ?_
  refine lv_iload_n hx hb dL_law_407 rfl (lv_at hl 0 rfl) ?_
  refine lv_iconst (v := 2) hx hb dL_law_408 (by decide) ?_
  refine ln_add i 2 hx hb rfl rfl dL_law_409 ?_
  refine ll_sld (i + 2) hC hS (by omega) dL_law_410 ?_
  refine lx_i (q := 403) [.int (xs (i + 1)), .int (xs (i + 2))] hC hM hS v_X3_saw (by decide +kernel) (c_X3_saw l G σ n S q V ch g (xs (i + 1)) (xs (i + 2))) (preX ⟨hX, hCX⟩ _) rfl hl.1 (Nat.le_of_ble_eq_true rfl) dL_law_411 ⟨rfl, rfl, (Nat.le_of_ble_eq_true rfl), (Nat.le_of_ble_eq_true rfl)⟩ (fun r1 σ1 H locs h1 hX hM hS => ?_)
  refine lv_aload_n hx hb dL_law_414 rfl (lv_at hl 1 rfl) ?_
  refine lv_aload_n hx hb dL_law_415 rfl (lv_at hl 3 rfl) ?_
  refine lv_iload_n hx hb dL_law_416 rfl (lv_at hl 0 rfl) ?_
  refine lv_iconst (v := 1) hx hb dL_law_417 (by decide) ?_
  refine ln_add i 1 hx hb rfl rfl dL_law_418 ?_
  refine ll_sld (i + 1) hC hS (by omega) dL_law_419 ?_
  refine lv_aload_n hx hb dL_law_420 rfl (lv_at hl 3 rfl) ?_
  refine lv_iload_n hx hb dL_law_421 rfl (lv_at hl 0 rfl) ?_
  refine lv_iconst (v := 2) hx hb dL_law_422 (by decide) ?_
  refine ln_add i 2 hx hb rfl rfl dL_law_423 ?_
  refine ll_sld (i + 2) hC hS (by omega) dL_law_424 ?_
  refine lm_i (q := 744) [.int (xs (i + 1)), .int (xs (i + 2))] hC hX hS v_X4_saw (by decide +kernel) (c_X4_saw l G μ hs n S q V ch r (xs (i + 1)) (xs (i + 2))) (preM ⟨hM, hCM⟩ _) rfl hl.1 (Nat.le_of_ble_eq_true rfl) dL_law_425 ⟨rfl, rfl, (Nat.le_of_ble_eq_true rfl), (Nat.le_of_ble_eq_true rfl)⟩ (fun r2 μ1 hs1 H locs h2 hX hM hS => ?_)
  refine lv_icmp_eq (tgt := 710) hx hb dL_law_428 (by decide) (fun c_ => ?_) (fun c_ => absurd (h1.1.trans h2.1.symm) c_)
  exact kk σ1 μ1 hs1 _ _ (IVw.iv (w.chg h1.2 h2.2.1 (fun a f z1 z2 z3 => h2.2.2 a f z1 (fun z => ⟨(z3 z).1, (z3 z).2.1⟩)))) hX hM hS
set_option maxHeartbeats 4000000 in
set_option maxRecDepth 100000 in
theorem lc_later {p : Program} {e : Env} {s : State} {m : MethodId} {below : List Frame} {meth : Method} {c : Code} {H : Heap} {locs : List Loc} {Q : State → Prop} {ls : Array Slot} {G : Gam} {σ μ : St} {hs : Int64} {b L : Nat} {xs : Nat → Int32} (l : Launch) (hC : LC p s m c b L xs G) (i c9 : Nat) (hi : i + 4 ≤ L) (hc9 : c9 < 1000000) (iv : IV c9 σ μ) (hX : PX G σ H) (hM : PM G μ hs H) (hS : va_S (A0 s) s.heap H locs) (hl : lv_has ls 4 [(3, .int (nI i)), (2, .ref (gm G 0)), (1, .ref (ga G 0)), (0, .ref b)]) (kk : KK p l e s m b below meth c Q G ls c9) : WL p l e s m b below meth c H locs Q (F0 m 433 ls []) := by
  obtain ⟨hx, hb, hml, hown, hCX, hCM, hSX, hXS, hbl, hL, hd⟩ := id hC
  obtain ⟨n, S, q, V, ch, pn, P, R, kp, w⟩ := iv
  obtain ⟨g, r, pg, rp, ⟨t1, t2, t3⟩, ax, hk, kv9⟩ := id w
  have hG : GW s := hCX.2.2.1
  refine lv_aload_n hx hb dL_law_433 rfl (lv_at hl 2 rfl) ?_
  refine lv_aload_n hx hb dL_law_434 rfl (lv_at hl 3 rfl) ?_
  refine lv_iload_n hx hb dL_law_435 rfl (lv_at hl 0 rfl) ?_
  refine lv_iconst (v := 1) hx hb dL_law_436 (by decide) ?_
  refine ln_add i 1 hx hb rfl rfl dL_law_437 ?_
  refine ll_sld (i + 1) hC hS (by omega) dL_law_438 ?_
  refine lv_aload_n hx hb dL_law_439 rfl (lv_at hl 3 rfl) ?_
  refine lv_iload_n hx hb dL_law_440 rfl (lv_at hl 0 rfl) ?_
  refine lv_iconst (v := 2) hx hb dL_law_441 (by decide) ?_
  refine ln_add i 2 hx hb rfl rfl dL_law_442 ?_
  refine ll_sld (i + 2) hC hS (by omega) dL_law_443 ?_
  refine cr_i (q := 419) [.int (xs (i + 1)), .int (xs (i + 2))] hx hb hml hown hG v_X3_later (by decide +kernel) (c_X3_later l G σ n S q V ch g (xs (i + 1)) (xs (i + 2))) (preX ⟨hX, hCX⟩ _) rfl hl.1 (Nat.le_of_ble_eq_true rfl) dL_law_444 ⟨rfl, rfl, (Nat.le_of_ble_eq_true rfl), (Nat.le_of_ble_eq_true rfl)⟩ ⟨(Nat.le_of_ble_eq_true rfl), (Nat.le_of_ble_eq_true rfl)⟩ ?_
  have hR := hS
  refine lv_aload_n hx hb dL_law_447 rfl (lv_at hl 1 rfl) ?_
  refine lv_aload_n hx hb dL_law_448 rfl (lv_at hl 3 rfl) ?_
  refine lv_iload_n hx hb dL_law_449 rfl (lv_at hl 0 rfl) ?_
  refine lv_iconst (v := 1) hx hb dL_law_450 (by decide) ?_
  refine ln_add i 1 hx hb rfl rfl dL_law_451 ?_
  refine ll_sld (i + 1) hC hS (by omega) dL_law_452 ?_
  refine lv_aload_n hx hb dL_law_453 rfl (lv_at hl 3 rfl) ?_
  refine lv_iload_n hx hb dL_law_454 rfl (lv_at hl 0 rfl) ?_
  refine lv_iconst (v := 2) hx hb dL_law_455 (by decide) ?_
  refine ln_add i 2 hx hb rfl rfl dL_law_456 ?_
  refine ll_sld (i + 2) hC hS (by omega) dL_law_457 ?_
  refine lm_i (q := 748) [.int (xs (i + 1)), .int (xs (i + 2))] hC hX hS v_X4_later (by decide +kernel) (c_X4_later l G μ hs n S q V ch r (xs (i + 1)) (xs (i + 2))) (preM ⟨hM, hCM⟩ _) rfl hl.1 (Nat.le_of_ble_eq_true rfl) dL_law_458 ⟨rfl, rfl, (Nat.le_of_ble_eq_true rfl), (Nat.le_of_ble_eq_true rfl)⟩ (fun r2 μ1 hs1 H locs h2 hX hM hS => ?_)
  refine lv_icmp_eq (tgt := 710) hx hb dL_law_461 (by decide) (fun c_ => ?_) (fun c_ => absurd h2.1.symm c_)
  exact kk σ μ1 hs1 _ _ (IVw.iv (w.mu (fun _ _ => rfl) (rel_kq h2.2))) hX hM hS
set_option maxHeartbeats 4000000 in
set_option maxRecDepth 100000 in
theorem lc_cover {p : Program} {e : Env} {s : State} {m : MethodId} {below : List Frame} {meth : Method} {c : Code} {H : Heap} {locs : List Loc} {Q : State → Prop} {ls : Array Slot} {G : Gam} {σ μ : St} {hs : Int64} {b L : Nat} {xs : Nat → Int32} (l : Launch) (hC : LC p s m c b L xs G) (i c9 : Nat) (hi : i + 4 ≤ L) (hc9 : c9 < 1000000) (iv : IV c9 σ μ) (hX : PX G σ H) (hM : PM G μ hs H) (hS : va_S (A0 s) s.heap H locs) (hl : lv_has ls 4 [(3, .int (nI i)), (2, .ref (gm G 0)), (1, .ref (ga G 0)), (0, .ref b)]) (kk : KK p l e s m b below meth c Q G ls c9) : WL p l e s m b below meth c H locs Q (F0 m 466 ls []) := by
  obtain ⟨hx, hb, hml, hown, hCX, hCM, hSX, hXS, hbl, hL, hd⟩ := id hC
  obtain ⟨n, S, q, V, ch, pn, P, R, kp, w⟩ := iv
  obtain ⟨g, r, pg, rp, ⟨t1, t2, t3⟩, ax, hk, kv9⟩ := id w
  have hG : GW s := hCX.2.2.1
  refine lv_aload_n hx hb dL_law_466 rfl (lv_at hl 2 rfl) ?_
  refine lv_aload_n hx hb dL_law_467 rfl (lv_at hl 3 rfl) ?_
  refine lv_iload_n hx hb dL_law_468 rfl (lv_at hl 0 rfl) ?_
  refine lv_iconst (v := 1) hx hb dL_law_469 (by decide) ?_
  refine ln_add i 1 hx hb rfl rfl dL_law_470 ?_
  refine ll_sld (i + 1) hC hS (by omega) dL_law_471 ?_
  refine lv_aload_n hx hb dL_law_472 rfl (lv_at hl 3 rfl) ?_
  refine lv_iload_n hx hb dL_law_473 rfl (lv_at hl 0 rfl) ?_
  refine lv_iconst (v := 2) hx hb dL_law_474 (by decide) ?_
  refine ln_add i 2 hx hb rfl rfl dL_law_475 ?_
  refine ll_sld (i + 2) hC hS (by omega) dL_law_476 ?_
  refine cr_i (q := 423) [.int (xs (i + 1)), .int (xs (i + 2))] hx hb hml hown hG v_X3_cover (by decide +kernel) (c_X3_cover l G σ n S q V ch g (xs (i + 1)) (xs (i + 2))) (preX ⟨hX, hCX⟩ _) rfl hl.1 (Nat.le_of_ble_eq_true rfl) dL_law_477 ⟨rfl, rfl, (Nat.le_of_ble_eq_true rfl), (Nat.le_of_ble_eq_true rfl)⟩ ⟨(Nat.le_of_ble_eq_true rfl), (Nat.le_of_ble_eq_true rfl)⟩ ?_
  have hR := hS
  refine lv_aload_n hx hb dL_law_480 rfl (lv_at hl 1 rfl) ?_
  refine lv_aload_n hx hb dL_law_481 rfl (lv_at hl 3 rfl) ?_
  refine lv_iload_n hx hb dL_law_482 rfl (lv_at hl 0 rfl) ?_
  refine lv_iconst (v := 1) hx hb dL_law_483 (by decide) ?_
  refine ln_add i 1 hx hb rfl rfl dL_law_484 ?_
  refine ll_sld (i + 1) hC hS (by omega) dL_law_485 ?_
  refine lv_aload_n hx hb dL_law_486 rfl (lv_at hl 3 rfl) ?_
  refine lv_iload_n hx hb dL_law_487 rfl (lv_at hl 0 rfl) ?_
  refine lv_iconst (v := 2) hx hb dL_law_488 (by decide) ?_
  refine ln_add i 2 hx hb rfl rfl dL_law_489 ?_
  refine ll_sld (i + 2) hC hS (by omega) dL_law_490 ?_
  refine lm_i (q := 756) [.int (xs (i + 1)), .int (xs (i + 2))] hC hX hS v_X4_cover (by decide +kernel) (c_X4_cover l G μ hs n S q V ch r (xs (i + 1)) (xs (i + 2))) (preM ⟨hM, hCM⟩ _) rfl hl.1 (Nat.le_of_ble_eq_true rfl) dL_law_491 ⟨rfl, rfl, (Nat.le_of_ble_eq_true rfl), (Nat.le_of_ble_eq_true rfl)⟩ (fun r2 μ1 hs1 H locs h2 hX hM hS => ?_)
  refine lv_icmp_eq (tgt := 710) hx hb dL_law_494 (by decide) (fun c_ => ?_) (fun c_ => absurd h2.1.symm c_)
  exact kk σ μ1 hs1 _ _ (IVw.iv (w.mu (fun _ _ => rfl) (rel_kq (KP.kq h2.2)))) hX hM hS
set_option maxHeartbeats 4000000 in
set_option maxRecDepth 100000 in
theorem lc_catches {p : Program} {e : Env} {s : State} {m : MethodId} {below : List Frame} {meth : Method} {c : Code} {H : Heap} {locs : List Loc} {Q : State → Prop} {ls : Array Slot} {G : Gam} {σ μ : St} {hs : Int64} {b L : Nat} {xs : Nat → Int32} (l : Launch) (hC : LC p s m c b L xs G) (i c9 : Nat) (hi : i + 4 ≤ L) (hc9 : c9 < 1000000) (iv : IV c9 σ μ) (hX : PX G σ H) (hM : PM G μ hs H) (hS : va_S (A0 s) s.heap H locs) (hl : lv_has ls 4 [(3, .int (nI i)), (2, .ref (gm G 0)), (1, .ref (ga G 0)), (0, .ref b)]) (kk : KK p l e s m b below meth c Q G ls c9) : WL p l e s m b below meth c H locs Q (F0 m 499 ls []) := by
  obtain ⟨hx, hb, hml, hown, hCX, hCM, hSX, hXS, hbl, hL, hd⟩ := id hC
  obtain ⟨n, S, q, V, ch, pn, P, R, kp, w⟩ := iv
  obtain ⟨g, r, pg, rp, ⟨t1, t2, t3⟩, ax, hk, kv9⟩ := id w
  have hG : GW s := hCX.2.2.1
  refine lv_aload_n hx hb dL_law_499 rfl (lv_at hl 2 rfl) ?_
  refine lv_aload_n hx hb dL_law_500 rfl (lv_at hl 3 rfl) ?_
  refine lv_iload_n hx hb dL_law_501 rfl (lv_at hl 0 rfl) ?_
  refine lv_iconst (v := 1) hx hb dL_law_502 (by decide) ?_
  refine ln_add i 1 hx hb rfl rfl dL_law_503 ?_
  refine ll_sld (i + 1) hC hS (by omega) dL_law_504 ?_
  refine lv_aload_n hx hb dL_law_505 rfl (lv_at hl 3 rfl) ?_
  refine lv_iload_n hx hb dL_law_506 rfl (lv_at hl 0 rfl) ?_
  refine lv_iconst (v := 2) hx hb dL_law_507 (by decide) ?_
  refine ln_add i 2 hx hb rfl rfl dL_law_508 ?_
  refine ll_sld (i + 2) hC hS (by omega) dL_law_509 ?_
  refine cr_i (q := 437) [.int (xs (i + 1)), .int (xs (i + 2))] hx hb hml hown hG v_X3_catches (by decide +kernel) (c_X3_catches l G σ n S q V ch g (xs (i + 1)) (xs (i + 2))) (preX ⟨hX, hCX⟩ _) rfl hl.1 (Nat.le_of_ble_eq_true rfl) dL_law_510 ⟨rfl, rfl, (Nat.le_of_ble_eq_true rfl), (Nat.le_of_ble_eq_true rfl)⟩ ⟨(Nat.le_of_ble_eq_true rfl), (Nat.le_of_ble_eq_true rfl)⟩ ?_
  have hR := hS
  refine lv_aload_n hx hb dL_law_513 rfl (lv_at hl 1 rfl) ?_
  refine lv_aload_n hx hb dL_law_514 rfl (lv_at hl 3 rfl) ?_
  refine lv_iload_n hx hb dL_law_515 rfl (lv_at hl 0 rfl) ?_
  refine lv_iconst (v := 1) hx hb dL_law_516 (by decide) ?_
  refine ln_add i 1 hx hb rfl rfl dL_law_517 ?_
  refine ll_sld (i + 1) hC hS (by omega) dL_law_518 ?_
  refine lv_aload_n hx hb dL_law_519 rfl (lv_at hl 3 rfl) ?_
  refine lv_iload_n hx hb dL_law_520 rfl (lv_at hl 0 rfl) ?_
  refine lv_iconst (v := 2) hx hb dL_law_521 (by decide) ?_
  refine ln_add i 2 hx hb rfl rfl dL_law_522 ?_
  refine ll_sld (i + 2) hC hS (by omega) dL_law_523 ?_
  refine cr_i (q := 773) [.int (xs (i + 1)), .int (xs (i + 2))] hx hb hml hown hG v_X4_catches (by decide +kernel) (c_X4_catches l G μ hs n S q V ch r (xs (i + 1)) (xs (i + 2))) (preM ⟨hM, hCM⟩ _) rfl hl.1 (Nat.le_of_ble_eq_true rfl) dL_law_524 ⟨rfl, rfl, (Nat.le_of_ble_eq_true rfl), (Nat.le_of_ble_eq_true rfl)⟩ ⟨(Nat.le_of_ble_eq_true rfl), (Nat.le_of_ble_eq_true rfl)⟩ ?_
  refine lv_icmp_eq (tgt := 710) hx hb dL_law_527 (by decide) (fun c_ => ?_) (fun c_ => absurd rfl c_)
  exact kk σ μ hs _ _ ((IVw.iv w.same)) hX hM hS
set_option maxHeartbeats 4000000 in
set_option maxRecDepth 100000 in
theorem lc_see {p : Program} {e : Env} {s : State} {m : MethodId} {below : List Frame} {meth : Method} {c : Code} {H : Heap} {locs : List Loc} {Q : State → Prop} {ls : Array Slot} {G : Gam} {σ μ : St} {hs : Int64} {b L : Nat} {xs : Nat → Int32} (l : Launch) (hC : LC p s m c b L xs G) (i c9 : Nat) (hi : i + 4 ≤ L) (hc9 : c9 < 1000000) (iv : IV c9 σ μ) (hX : PX G σ H) (hM : PM G μ hs H) (hS : va_S (A0 s) s.heap H locs) (hl : lv_has ls 4 [(3, .int (nI i)), (2, .ref (gm G 0)), (1, .ref (ga G 0)), (0, .ref b)]) (kk : KK p l e s m b below meth c Q G ls c9) : WL p l e s m b below meth c H locs Q (F0 m 532 ls []) := by
  obtain ⟨hx, hb, hml, hown, hCX, hCM, hSX, hXS, hbl, hL, hd⟩ := id hC
  obtain ⟨n, S, q, V, ch, pn, P, R, kp, w⟩ := iv
  obtain ⟨g, r, pg, rp, ⟨t1, t2, t3⟩, ax, hk, kv9⟩ := id w
  have hG : GW s := hCX.2.2.1
  refine lv_aload_n hx hb dL_law_532 rfl (lv_at hl 2 rfl) ?_
  refine lv_aload_n hx hb dL_law_533 rfl (lv_at hl 3 rfl) ?_
  refine lv_iload_n hx hb dL_law_534 rfl (lv_at hl 0 rfl) ?_
  refine lv_iconst (v := 1) hx hb dL_law_535 (by decide) ?_
  refine ln_add i 1 hx hb rfl rfl dL_law_536 ?_
  refine ll_sld (i + 1) hC hS (by omega) dL_law_537 ?_
  refine lv_aload_n hx hb dL_law_538 rfl (lv_at hl 3 rfl) ?_
  refine lv_iload_n hx hb dL_law_539 rfl (lv_at hl 0 rfl) ?_
  refine lv_iconst (v := 2) hx hb dL_law_540 (by decide) ?_
  refine ln_add i 2 hx hb rfl rfl dL_law_541 ?_
  refine ll_sld (i + 2) hC hS (by omega) dL_law_542 ?_
  refine lx_i (q := 453) [.int (xs (i + 1)), .int (xs (i + 2))] hC hM hS v_X3_see (by decide +kernel) (c_X3_see l G σ n S q V ch g (xs (i + 1)) (xs (i + 2))) (preX ⟨hX, hCX⟩ _) rfl hl.1 (Nat.le_of_ble_eq_true rfl) dL_law_543 ⟨rfl, rfl, (Nat.le_of_ble_eq_true rfl), (Nat.le_of_ble_eq_true rfl)⟩ (fun r1 σ1 H locs h1 hX hM hS => ?_)
  refine lv_aload_n hx hb dL_law_546 rfl (lv_at hl 1 rfl) ?_
  refine lv_aload_n hx hb dL_law_547 rfl (lv_at hl 3 rfl) ?_
  refine lv_iload_n hx hb dL_law_548 rfl (lv_at hl 0 rfl) ?_
  refine lv_iconst (v := 1) hx hb dL_law_549 (by decide) ?_
  refine ln_add i 1 hx hb rfl rfl dL_law_550 ?_
  refine ll_sld (i + 1) hC hS (by omega) dL_law_551 ?_
  refine lv_aload_n hx hb dL_law_552 rfl (lv_at hl 3 rfl) ?_
  refine lv_iload_n hx hb dL_law_553 rfl (lv_at hl 0 rfl) ?_
  refine lv_iconst (v := 2) hx hb dL_law_554 (by decide) ?_
  refine ln_add i 2 hx hb rfl rfl dL_law_555 ?_
  refine ll_sld (i + 2) hC hS (by omega) dL_law_556 ?_
  refine lm_i (q := 785) [.int (xs (i + 1)), .int (xs (i + 2))] hC hX hS v_X4_see (by decide +kernel) (c_X4_see l G μ hs n S q V ch r (xs (i + 1)) (xs (i + 2))) (preM ⟨hM, hCM⟩ _) rfl hl.1 (Nat.le_of_ble_eq_true rfl) dL_law_557 ⟨rfl, rfl, (Nat.le_of_ble_eq_true rfl), (Nat.le_of_ble_eq_true rfl)⟩ (fun r2 μ1 hs1 H locs h2 hX hM hS => ?_)
  refine lv_icmp_eq (tgt := 710) hx hb dL_law_560 (by decide) (fun c_ => ?_) (fun c_ => absurd (h1.1.trans h2.1.symm) c_)
  exact kk σ1 μ1 hs1 _ _ (IVw.iv (w.chg h1.2 h2.2.1 (fun a f z1 z2 z3 => h2.2.2 a f z2 (fun z => (z3 z).2.2)))) hX hM hS
set_option maxHeartbeats 4000000 in
set_option maxRecDepth 100000 in
theorem lc_forget {p : Program} {e : Env} {s : State} {m : MethodId} {below : List Frame} {meth : Method} {c : Code} {H : Heap} {locs : List Loc} {Q : State → Prop} {ls : Array Slot} {G : Gam} {σ μ : St} {hs : Int64} {b L : Nat} {xs : Nat → Int32} (l : Launch) (hC : LC p s m c b L xs G) (i c9 : Nat) (hi : i + 4 ≤ L) (hc9 : c9 < 1000000) (iv : IV c9 σ μ) (hX : PX G σ H) (hM : PM G μ hs H) (hS : va_S (A0 s) s.heap H locs) (hl : lv_has ls 4 [(3, .int (nI i)), (2, .ref (gm G 0)), (1, .ref (ga G 0)), (0, .ref b)]) (kk : KK p l e s m b below meth c Q G ls c9) : WL p l e s m b below meth c H locs Q (F0 m 565 ls []) := by
  obtain ⟨hx, hb, hml, hown, hCX, hCM, hSX, hXS, hbl, hL, hd⟩ := id hC
  obtain ⟨n, S, q, V, ch, pn, P, R, kp, w⟩ := iv
  obtain ⟨g, r, pg, rp, ⟨t1, t2, t3⟩, ax, hk, kv9⟩ := id w
  have hG : GW s := hCX.2.2.1
  refine lv_aload_n hx hb dL_law_565 rfl (lv_at hl 2 rfl) ?_
  refine lx_i (q := 461) [] hC hM hS v_X3_forget (by decide +kernel) (c_X3_forget l G σ n S q V ch g ) (preX ⟨hX, hCX⟩ _) rfl hl.1 (Nat.le_of_ble_eq_true rfl) dL_law_566 ⟨rfl, rfl, (Nat.le_of_ble_eq_true rfl), (Nat.le_of_ble_eq_true rfl)⟩ (fun r1 σ1 H locs h1 hX hM hS => ?_)
  refine lv_aload_n hx hb dL_law_569 rfl (lv_at hl 1 rfl) ?_
  refine lm_i (q := 789) [] hC hX hS v_X4_forget (by decide +kernel) (c_X4_forget l G μ hs n S q V ch r ) (preM ⟨hM, hCM⟩ _) rfl hl.1 (Nat.le_of_ble_eq_true rfl) dL_law_570 ⟨rfl, rfl, (Nat.le_of_ble_eq_true rfl), (Nat.le_of_ble_eq_true rfl)⟩ (fun r2 μ1 hs1 H locs h2 hX hM hS => ?_)
  refine lv_icmp_eq (tgt := 710) hx hb dL_law_573 (by decide) (fun c_ => ?_) (fun c_ => absurd (h1.1.trans h2.1.symm) c_)
  exact kk σ1 μ1 hs1 _ _ (IVw.iv (w.chg h1.2 h2.2.1 (fun a f z1 z2 z3 => h2.2.2 a f z2 (fun z => (z3 z).2.2)))) hX hM hS
set_option maxHeartbeats 4000000 in
set_option maxRecDepth 100000 in
theorem lc_whose {p : Program} {e : Env} {s : State} {m : MethodId} {below : List Frame} {meth : Method} {c : Code} {H : Heap} {locs : List Loc} {Q : State → Prop} {ls : Array Slot} {G : Gam} {σ μ : St} {hs : Int64} {b L : Nat} {xs : Nat → Int32} (l : Launch) (hC : LC p s m c b L xs G) (i c9 : Nat) (hi : i + 4 ≤ L) (hc9 : c9 < 1000000) (iv : IV c9 σ μ) (hX : PX G σ H) (hM : PM G μ hs H) (hS : va_S (A0 s) s.heap H locs) (hl : lv_has ls 4 [(3, .int (nI i)), (2, .ref (gm G 0)), (1, .ref (ga G 0)), (0, .ref b)]) (kk : KK p l e s m b below meth c Q G ls c9) : WL p l e s m b below meth c H locs Q (F0 m 578 ls []) := by
  obtain ⟨hx, hb, hml, hown, hCX, hCM, hSX, hXS, hbl, hL, hd⟩ := id hC
  obtain ⟨n, S, q, V, ch, pn, P, R, kp, w⟩ := iv
  obtain ⟨g, r, pg, rp, ⟨t1, t2, t3⟩, ax, hk, kv9⟩ := id w
  have hG : GW s := hCX.2.2.1
  refine lv_aload_n hx hb dL_law_578 rfl (lv_at hl 2 rfl) ?_
  refine cr_i (q := 465) [] hx hb hml hown hG v_X3_whose (by decide +kernel) (c_X3_whose l G σ n S q V ch g ) (preX ⟨hX, hCX⟩ _) rfl hl.1 (Nat.le_of_ble_eq_true rfl) dL_law_579 ⟨rfl, rfl, (Nat.le_of_ble_eq_true rfl), (Nat.le_of_ble_eq_true rfl)⟩ ⟨(Nat.le_of_ble_eq_true rfl), (Nat.le_of_ble_eq_true rfl)⟩ ?_
  have hR := hS
  refine lv_aload_n hx hb dL_law_582 rfl (lv_at hl 1 rfl) ?_
  refine cr_i (q := 793) [] hx hb hml hown hG v_X4_whose (by decide +kernel) (c_X4_whose l G μ hs n S q V ch r ) (preM ⟨hM, hCM⟩ _) rfl hl.1 (Nat.le_of_ble_eq_true rfl) dL_law_583 ⟨rfl, rfl, (Nat.le_of_ble_eq_true rfl), (Nat.le_of_ble_eq_true rfl)⟩ ⟨(Nat.le_of_ble_eq_true rfl), (Nat.le_of_ble_eq_true rfl)⟩ ?_
  refine lv_icmp_eq (tgt := 710) hx hb dL_law_586 (by decide) (fun c_ => ?_) (fun c_ => absurd rfl c_)
  exact kk σ μ hs _ _ ((IVw.iv w.same)) hX hM hS
set_option maxHeartbeats 4000000 in
set_option maxRecDepth 100000 in
theorem lc_look {p : Program} {e : Env} {s : State} {m : MethodId} {below : List Frame} {meth : Method} {c : Code} {H : Heap} {locs : List Loc} {Q : State → Prop} {ls : Array Slot} {G : Gam} {σ μ : St} {hs : Int64} {b L : Nat} {xs : Nat → Int32} (l : Launch) (hC : LC p s m c b L xs G) (i c9 : Nat) (hi : i + 4 ≤ L) (hc9 : c9 < 1000000) (iv : IV c9 σ μ) (hX : PX G σ H) (hM : PM G μ hs H) (hS : va_S (A0 s) s.heap H locs) (hl : lv_has ls 4 [(3, .int (nI i)), (2, .ref (gm G 0)), (1, .ref (ga G 0)), (0, .ref b)]) (kk : KK p l e s m b below meth c Q G ls c9) : WL p l e s m b below meth c H locs Q (F0 m 591 ls []) := by
  obtain ⟨hx, hb, hml, hown, hCX, hCM, hSX, hXS, hbl, hL, hd⟩ := id hC
  obtain ⟨n, S, q, V, ch, pn, P, R, kp, w⟩ := iv
  obtain ⟨g, r, pg, rp, ⟨t1, t2, t3⟩, ax, hk, kv9⟩ := id w
  have hG : GW s := hCX.2.2.1
  refine lv_aload_n hx hb dL_law_591 rfl (lv_at hl 2 rfl) ?_
  refine cr_i (q := 477) [] hx hb hml hown hG v_X3_look (by decide +kernel) (c_X3_look l G σ n S q V ch g ) (preX ⟨hX, hCX⟩ _) rfl hl.1 (Nat.le_of_ble_eq_true rfl) dL_law_592 ⟨rfl, rfl, (Nat.le_of_ble_eq_true rfl), (Nat.le_of_ble_eq_true rfl)⟩ ⟨(Nat.le_of_ble_eq_true rfl), (Nat.le_of_ble_eq_true rfl)⟩ ?_
  have hR := hS
  refine lv_aload_n hx hb dL_law_595 rfl (lv_at hl 1 rfl) ?_
  refine lm_i (q := 801) [] hC hX hS v_X4_look (by decide +kernel) (c_X4_look l G μ hs n S q V ch r ) (preM ⟨hM, hCM⟩ _) rfl hl.1 (Nat.le_of_ble_eq_true rfl) dL_law_596 ⟨rfl, rfl, (Nat.le_of_ble_eq_true rfl), (Nat.le_of_ble_eq_true rfl)⟩ (fun r2 μ1 hs1 H locs h2 hX hM hS => ?_)
  refine lv_icmp_eq (tgt := 710) hx hb dL_law_599 (by decide) (fun c_ => ?_) (fun c_ => absurd h2.1.symm c_)
  exact kk σ μ1 hs1 _ _ (IVw.iv (w.mu (fun _ _ => rfl) (rel_kq (KP.kq h2.2)))) hX hM hS
set_option maxHeartbeats 4000000 in
set_option maxRecDepth 100000 in
theorem lc_mornings {p : Program} {e : Env} {s : State} {m : MethodId} {below : List Frame} {meth : Method} {c : Code} {H : Heap} {locs : List Loc} {Q : State → Prop} {ls : Array Slot} {G : Gam} {σ μ : St} {hs : Int64} {b L : Nat} {xs : Nat → Int32} (l : Launch) (hC : LC p s m c b L xs G) (i c9 : Nat) (hi : i + 4 ≤ L) (hc9 : c9 < 1000000) (iv : IV c9 σ μ) (hX : PX G σ H) (hM : PM G μ hs H) (hS : va_S (A0 s) s.heap H locs) (hl : lv_has ls 4 [(3, .int (nI i)), (2, .ref (gm G 0)), (1, .ref (ga G 0)), (0, .ref b)]) (kk : KK p l e s m b below meth c Q G ls c9) : WL p l e s m b below meth c H locs Q (F0 m 604 ls []) := by
  obtain ⟨hx, hb, hml, hown, hCX, hCM, hSX, hXS, hbl, hL, hd⟩ := id hC
  obtain ⟨n, S, q, V, ch, pn, P, R, kp, w⟩ := iv
  obtain ⟨g, r, pg, rp, ⟨t1, t2, t3⟩, ax, hk, kv9⟩ := id w
  have hG : GW s := hCX.2.2.1
  refine lv_aload_n hx hb dL_law_604 rfl (lv_at hl 2 rfl) ?_
  refine lv_aload_n hx hb dL_law_605 rfl (lv_at hl 3 rfl) ?_
  refine lv_iload_n hx hb dL_law_606 rfl (lv_at hl 0 rfl) ?_
  refine lv_iconst (v := 1) hx hb dL_law_607 (by decide) ?_
  refine ln_add i 1 hx hb rfl rfl dL_law_608 ?_
  refine ll_sld (i + 1) hC hS (by omega) dL_law_609 ?_
  refine lv_aload_n hx hb dL_law_610 rfl (lv_at hl 3 rfl) ?_
  refine lv_iload_n hx hb dL_law_611 rfl (lv_at hl 0 rfl) ?_
  refine lv_iconst (v := 2) hx hb dL_law_612 (by decide) ?_
  refine ln_add i 2 hx hb rfl rfl dL_law_613 ?_
  refine ll_sld (i + 2) hC hS (by omega) dL_law_614 ?_
  refine lv_aload_n hx hb dL_law_615 rfl (lv_at hl 3 rfl) ?_
  refine lv_iload_n hx hb dL_law_616 rfl (lv_at hl 0 rfl) ?_
  refine lv_iconst (v := 3) hx hb dL_law_617 (by decide) ?_
  refine ln_add i 3 hx hb rfl rfl dL_law_618 ?_
  refine ll_sld (i + 3) hC hS (by omega) dL_law_619 ?_
  refine lx_i (q := 495) [.int (xs (i + 1)), .int (xs (i + 2)), .int (xs (i + 3))] hC hM hS v_X3_mornings (by decide +kernel) (c_X3_mornings l G σ n S q V ch g (xs (i + 1)) (xs (i + 2)) (xs (i + 3))) (preX ⟨hX, hCX⟩ _) rfl hl.1 (Nat.le_of_ble_eq_true rfl) dL_law_620 ⟨rfl, rfl, (Nat.le_of_ble_eq_true rfl), (Nat.le_of_ble_eq_true rfl)⟩ (fun r1 σ1 H locs h1 hX hM hS => ?_)
  refine lv_aload_n hx hb dL_law_623 rfl (lv_at hl 1 rfl) ?_
  refine lv_aload_n hx hb dL_law_624 rfl (lv_at hl 3 rfl) ?_
  refine lv_iload_n hx hb dL_law_625 rfl (lv_at hl 0 rfl) ?_
  refine lv_iconst (v := 1) hx hb dL_law_626 (by decide) ?_
  refine ln_add i 1 hx hb rfl rfl dL_law_627 ?_
  refine ll_sld (i + 1) hC hS (by omega) dL_law_628 ?_
  refine lv_aload_n hx hb dL_law_629 rfl (lv_at hl 3 rfl) ?_
  refine lv_iload_n hx hb dL_law_630 rfl (lv_at hl 0 rfl) ?_
  refine lv_iconst (v := 2) hx hb dL_law_631 (by decide) ?_
  refine ln_add i 2 hx hb rfl rfl dL_law_632 ?_
  refine ll_sld (i + 2) hC hS (by omega) dL_law_633 ?_
  refine lv_aload_n hx hb dL_law_634 rfl (lv_at hl 3 rfl) ?_
  refine lv_iload_n hx hb dL_law_635 rfl (lv_at hl 0 rfl) ?_
  refine lv_iconst (v := 3) hx hb dL_law_636 (by decide) ?_
  refine ln_add i 3 hx hb rfl rfl dL_law_637 ?_
  refine ll_sld (i + 3) hC hS (by omega) dL_law_638 ?_
  refine lm_i (q := 809) [.int (xs (i + 1)), .int (xs (i + 2)), .int (xs (i + 3))] hC hX hS v_X4_mornings (by decide +kernel) (c_X4_mornings l G μ hs n S q V ch r (xs (i + 1)) (xs (i + 2)) (xs (i + 3))) (preM ⟨hM, hCM⟩ _) rfl hl.1 (Nat.le_of_ble_eq_true rfl) dL_law_639 ⟨rfl, rfl, (Nat.le_of_ble_eq_true rfl), (Nat.le_of_ble_eq_true rfl)⟩ (fun r2 μ1 hs1 H locs h2 hX hM hS => ?_)
  refine lv_icmp_eq (tgt := 710) hx hb dL_law_642 (by decide) (fun c_ => ?_) (fun c_ => absurd (h1.1.trans h2.1.symm) c_)
  exact kk σ1 μ1 hs1 _ _ (IVw.iv (w.mu h1.2 (rel_kq h2.2))) hX hM hS
set_option maxHeartbeats 4000000 in
set_option maxRecDepth 100000 in
theorem lc_image {p : Program} {e : Env} {s : State} {m : MethodId} {below : List Frame} {meth : Method} {c : Code} {H : Heap} {locs : List Loc} {Q : State → Prop} {ls : Array Slot} {G : Gam} {σ μ : St} {hs : Int64} {b L : Nat} {xs : Nat → Int32} (l : Launch) (hC : LC p s m c b L xs G) (i c9 : Nat) (hi : i + 4 ≤ L) (hc9 : c9 < 1000000) (iv : IV c9 σ μ) (hX : PX G σ H) (hM : PM G μ hs H) (hS : va_S (A0 s) s.heap H locs) (hl : lv_has ls 4 [(3, .int (nI i)), (2, .ref (gm G 0)), (1, .ref (ga G 0)), (0, .ref b)]) (kk : KK p l e s m b below meth c Q G ls c9) : WL p l e s m b below meth c H locs Q (F0 m 647 ls []) := by
  obtain ⟨hx, hb, hml, hown, hCX, hCM, hSX, hXS, hbl, hL, hd⟩ := id hC
  obtain ⟨n, S, q, V, ch, pn, P, R, kp, w⟩ := iv
  obtain ⟨g, r, pg, rp, ⟨t1, t2, t3⟩, ax, hk, kv9⟩ := id w
  have hG : GW s := hCX.2.2.1
  refine lv_aload_n hx hb dL_law_647 rfl (lv_at hl 2 rfl) ?_
  refine lx_i (q := 515) [] hC hM hS v_X3_image (by decide +kernel) (c_X3_image l G σ n S q V ch g ax ) (preX ⟨hX, hCX⟩ _) rfl hl.1 (Nat.le_of_ble_eq_true rfl) dL_law_648 ⟨rfl, rfl, (Nat.le_of_ble_eq_true rfl), (Nat.le_of_ble_eq_true rfl)⟩ (fun r1 σ1 H locs h1 hX hM hS => ?_)
  refine lv_aload_n hx hb dL_law_651 rfl (lv_at hl 1 rfl) ?_
  refine lm_i (q := 834) [] hC hX hS v_X4_image (by decide +kernel) (c_X4_image l G μ hs n S q V ch r ) (preM ⟨hM, hCM⟩ _) rfl hl.1 (Nat.le_of_ble_eq_true rfl) dL_law_652 ⟨rfl, rfl, (Nat.le_of_ble_eq_true rfl), (Nat.le_of_ble_eq_true rfl)⟩ (fun r2 μ1 hs1 H locs h2 hX hM hS => ?_)
  have hfin : r1 = r2 ∧ IV (c9 + 1) σ1 μ1 := by
    by_cases hh : n = 0
    · obtain ⟨e1, z1⟩ := h1.1 hh
      obtain ⟨e2, y1⟩ := h2.1 hh
      refine ⟨e1.trans e2.symm, ?_⟩
      rw [z1]
      exact IVw.iv (w.mu (fun _ _ => rfl) (rel_rf y1))
    · obtain ⟨e1, σ8, z1, z2⟩ := h1.2 hh
      obtain ⟨e2, y1⟩ := h2.2 hh
      refine ⟨e1.trans e2.symm, ?_⟩
      rw [z2]
      exact IVw.iv (w.img z1 y1)
  refine lv_icmp_eq (tgt := 710) hx hb dL_law_655 (by decide) (fun c_ => ?_) (fun c_ => absurd hfin.1 c_)
  exact kk σ1 μ1 hs1 _ _ (hfin.2) hX hM hS
set_option maxHeartbeats 4000000 in
set_option maxRecDepth 100000 in
theorem lc_restore {p : Program} {e : Env} {s : State} {m : MethodId} {below : List Frame} {meth : Method} {c : Code} {H : Heap} {locs : List Loc} {Q : State → Prop} {ls : Array Slot} {G : Gam} {σ μ : St} {hs : Int64} {b L : Nat} {xs : Nat → Int32} (l : Launch) (hC : LC p s m c b L xs G) (i c9 : Nat) (hi : i + 4 ≤ L) (hc9 : c9 < 1000000) (iv : IV c9 σ μ) (hX : PX G σ H) (hM : PM G μ hs H) (hS : va_S (A0 s) s.heap H locs) (hl : lv_has ls 4 [(3, .int (nI i)), (2, .ref (gm G 0)), (1, .ref (ga G 0)), (0, .ref b)]) (kk : KK p l e s m b below meth c Q G ls c9) : WL p l e s m b below meth c H locs Q (F0 m 660 ls []) := by
  obtain ⟨hx, hb, hml, hown, hCX, hCM, hSX, hXS, hbl, hL, hd⟩ := id hC
  obtain ⟨n, S, q, V, ch, pn, P, R, kp, w⟩ := iv
  obtain ⟨g, r, pg, rp, ⟨t1, t2, t3⟩, ax, hk, kv9⟩ := id w
  have hG : GW s := hCX.2.2.1
  refine lv_aload_n hx hb dL_law_660 rfl (lv_at hl 2 rfl) ?_
  refine lx_i (q := 531) [] hC hM hS v_X3_restore (by decide +kernel) (c_X3_restore l G σ ax kp hk ) (preX ⟨hX, hCX⟩ _) rfl hl.1 (Nat.le_of_ble_eq_true rfl) dL_law_661 ⟨rfl, rfl, (Nat.le_of_ble_eq_true rfl), (Nat.le_of_ble_eq_true rfl)⟩ (fun r1 σ1 H locs h1 hX hM hS => ?_)
  refine lv_aload_n hx hb dL_law_664 rfl (lv_at hl 1 rfl) ?_
  refine lm_i (q := 838) [] hC hX hS v_X4_restore (by decide +kernel) (c_X4_restore l G μ hs ) (preM ⟨hM, hCM⟩ _) rfl hl.1 (Nat.le_of_ble_eq_true rfl) dL_law_665 ⟨rfl, rfl, (Nat.le_of_ble_eq_true rfl), (Nat.le_of_ble_eq_true rfl)⟩ (fun r2 μ1 hs1 H locs h2 hX hM hS => ?_)
  have hfin : r1 = r2 ∧ IV (c9 + 1) σ1 μ1 := by
    cases hkp : kp with
    | false =>
      obtain ⟨e1, z1⟩ := h1.1 hkp
      obtain ⟨e2, y1⟩ := h2.1 (w.kp_f (by omega) hkp)
      refine ⟨e1.trans e2.symm, ?_⟩
      rw [z1]
      exact IVw.iv (w.mu (fun _ _ => rfl) (rel_rf y1))
    | true =>
      obtain ⟨e1, z1⟩ := h1.2 hkp
      by_cases he : μ 0 15 = μ 0 7
      · obtain ⟨e2, y1⟩ := h2.2 he
        obtain ⟨-, n9, S9, q9, V9, ch9, w9, a1, a2⟩ := w.rst hkp z1 y1
        exact ⟨by rw [e1, e2, a1, a2], w9.iv⟩
      · exact absurd (w.kp_t hkp) he
  refine lv_icmp_eq (tgt := 710) hx hb dL_law_668 (by decide) (fun c_ => ?_) (fun c_ => absurd hfin.1 c_)
  exact kk σ1 μ1 hs1 _ _ (hfin.2) hX hM hS
set_option maxHeartbeats 4000000 in
set_option maxRecDepth 100000 in
theorem lc_count {p : Program} {e : Env} {s : State} {m : MethodId} {below : List Frame} {meth : Method} {c : Code} {H : Heap} {locs : List Loc} {Q : State → Prop} {ls : Array Slot} {G : Gam} {σ μ : St} {hs : Int64} {b L : Nat} {xs : Nat → Int32} (l : Launch) (hC : LC p s m c b L xs G) (i c9 : Nat) (hi : i + 4 ≤ L) (hc9 : c9 < 1000000) (iv : IV c9 σ μ) (hX : PX G σ H) (hM : PM G μ hs H) (hS : va_S (A0 s) s.heap H locs) (hl : lv_has ls 4 [(3, .int (nI i)), (2, .ref (gm G 0)), (1, .ref (ga G 0)), (0, .ref b)]) (kk : KK p l e s m b below meth c Q G ls c9) : WL p l e s m b below meth c H locs Q (F0 m 673 ls []) := by
  obtain ⟨hx, hb, hml, hown, hCX, hCM, hSX, hXS, hbl, hL, hd⟩ := id hC
  obtain ⟨n, S, q, V, ch, pn, P, R, kp, w⟩ := iv
  obtain ⟨g, r, pg, rp, ⟨t1, t2, t3⟩, ax, hk, kv9⟩ := id w
  have hG : GW s := hCX.2.2.1
  refine lv_aload_n hx hb dL_law_673 rfl (lv_at hl 2 rfl) ?_
  refine lv_aload_n hx hb dL_law_674 rfl (lv_at hl 3 rfl) ?_
  refine lv_iload_n hx hb dL_law_675 rfl (lv_at hl 0 rfl) ?_
  refine lv_iconst (v := 1) hx hb dL_law_676 (by decide) ?_
  refine ln_add i 1 hx hb rfl rfl dL_law_677 ?_
  refine ll_sld (i + 1) hC hS (by omega) dL_law_678 ?_
  refine cr_i (q := 535) [.int (xs (i + 1))] hx hb hml hown hG v_X3_count (by decide +kernel) (c_X3_count l G σ n S q V ch g pn P pg (nI R) t1 (xs (i + 1))) (preX ⟨hX, hCX⟩ _) rfl hl.1 (Nat.le_of_ble_eq_true rfl) dL_law_679 ⟨rfl, rfl, (Nat.le_of_ble_eq_true rfl), (Nat.le_of_ble_eq_true rfl)⟩ ⟨(Nat.le_of_ble_eq_true rfl), (Nat.le_of_ble_eq_true rfl)⟩ ?_
  have hR := hS
  refine lv_aload_n hx hb dL_law_682 rfl (lv_at hl 1 rfl) ?_
  refine lv_aload_n hx hb dL_law_683 rfl (lv_at hl 3 rfl) ?_
  refine lv_iload_n hx hb dL_law_684 rfl (lv_at hl 0 rfl) ?_
  refine lv_iconst (v := 1) hx hb dL_law_685 (by decide) ?_
  refine ln_add i 1 hx hb rfl rfl dL_law_686 ?_
  refine ll_sld (i + 1) hC hS (by omega) dL_law_687 ?_
  refine cr_i (q := 842) [.int (xs (i + 1))] hx hb hml hown hG v_X4_count (by decide +kernel) (c_X4_count l G μ hs n S q V ch r pn P rp (nI R) t2 (xs (i + 1))) (preM ⟨hM, hCM⟩ _) rfl hl.1 (Nat.le_of_ble_eq_true rfl) dL_law_688 ⟨rfl, rfl, (Nat.le_of_ble_eq_true rfl), (Nat.le_of_ble_eq_true rfl)⟩ ⟨(Nat.le_of_ble_eq_true rfl), (Nat.le_of_ble_eq_true rfl)⟩ ?_
  refine lv_icmp_eq (tgt := 710) hx hb dL_law_691 (by decide) (fun c_ => ?_) (fun c_ => absurd rfl c_)
  exact kk σ μ hs _ _ ((IVw.iv w.same)) hX hM hS
set_option maxHeartbeats 4000000 in
set_option maxRecDepth 100000 in
theorem lc_digest {p : Program} {e : Env} {s : State} {m : MethodId} {below : List Frame} {meth : Method} {c : Code} {H : Heap} {locs : List Loc} {Q : State → Prop} {ls : Array Slot} {G : Gam} {σ μ : St} {hs : Int64} {b L : Nat} {xs : Nat → Int32} (l : Launch) (hC : LC p s m c b L xs G) (i c9 : Nat) (hi : i + 4 ≤ L) (hc9 : c9 < 1000000) (iv : IV c9 σ μ) (hX : PX G σ H) (hM : PM G μ hs H) (hS : va_S (A0 s) s.heap H locs) (hl : lv_has ls 4 [(3, .int (nI i)), (2, .ref (gm G 0)), (1, .ref (ga G 0)), (0, .ref b)]) (kk : KK p l e s m b below meth c Q G ls c9) : WL p l e s m b below meth c H locs Q (F0 m 696 ls []) := by
  obtain ⟨hx, hb, hml, hown, hCX, hCM, hSX, hXS, hbl, hL, hd⟩ := id hC
  obtain ⟨n, S, q, V, ch, pn, P, R, kp, w⟩ := iv
  obtain ⟨g, r, pg, rp, ⟨t1, t2, t3⟩, ax, hk, kv9⟩ := id w
  have hG : GW s := hCX.2.2.1
  refine lv_aload_n hx hb dL_law_696 rfl (lv_at hl 2 rfl) ?_
  refine cr_l (q := 543) [] hx hb hml hown hG v_X3_digest (by decide +kernel) (c_X3_digest l G σ n S q V ch g pn P pg (nI R) t1 ) (preX ⟨hX, hCX⟩ _) rfl hl.1 (Nat.le_of_ble_eq_true rfl) dL_law_697 ⟨rfl, rfl, (Nat.le_of_ble_eq_true rfl), (Nat.le_of_ble_eq_true rfl)⟩ ⟨(Nat.le_of_ble_eq_true rfl), (Nat.le_of_ble_eq_true rfl)⟩ ?_
  have hR := hS
  refine lv_aload_n hx hb dL_law_700 rfl (lv_at hl 1 rfl) ?_
  refine lm_l (q := 854) [] hC hX hS v_X4_digest (by decide +kernel) (c_X4_digest l G μ hs n S q V ch r pn P rp (nI R) t2 ) (preM ⟨hM, hCM⟩ _) rfl hl.1 (Nat.le_of_ble_eq_true rfl) dL_law_701 ⟨rfl, rfl, (Nat.le_of_ble_eq_true rfl), (Nat.le_of_ble_eq_true rfl)⟩ (fun r2 μ1 hs1 H locs h2 hX hM hS => ?_)
  refine W.lcmp hx hb dL_law_704 ?_
  refine lv_if_eq (tgt := 710) hx hb dL_law_705 (by decide) (fun c_ => ?_) (fun c_ => absurd (lgc_eq h2.1.symm) c_)
  exact kk σ μ1 hs1 _ _ (IVw.iv (w.mu (fun _ _ => rfl) (rel_sc h2.2))) hX hM hS
