theorem ww_idx {n : Nat} {a : Nat → Nat} {f : Nat → va_E} {w2 : va_W} {i : Nat} (h : i < n) : (ww n a f ++ w2)[i]? = some (a i, f i) := by
  rw [List.getElem?_append_left (by rw [ww_len]; exact h), ww_get h]
theorem ww_idr {n : Nat} {a : Nat → Nat} {f : Nat → va_E} {w2 : va_W} {i : Nat} : (ww n a f ++ w2)[n + i]? = w2[i]? := by
  rw [List.getElem?_append_right (by rw [ww_len]; omega), ww_len, Nat.add_sub_cancel_left]
theorem ww_id2 {n k : Nat} {a a2 : Nat → Nat} {f f2 : Nat → va_E} {i : Nat} (h : i < k) : (ww n a f ++ ww k a2 f2)[n + i]? = some (a2 i, f2 i) := by
  rw [ww_idr, ww_get h]
theorem ww_isR {n : Nat} {a : Nat → Nat} {f : Nat → va_E} {w2 : va_W} : (List.range n).map (fun i => (ww n a f ++ w2)[i]?) = (ww n a f).map some := by
  unfold ww
  rw [List.map_map]
  exact List.map_congr_left (fun i hi => ww_idx (List.mem_range.mp hi))
theorem gx_e (D : va_G) (cI cC cS : ClassId) (u v k9 v9 : Nat → Nat) (r : Nat → Int32) (i : Nat) : cX (GG D cI cC cS u v k9 v9) r i = cX (GG D cI cC cS u u u u) r i := rfl
theorem gm_e (D : va_G) (cI cC cS : ClassId) (u v k9 v9 : Nat → Nat) (hs : Int64) (r : Nat → Int32) (i : Nat) : cM (GG D cI cC cS u v k9 v9) hs r i = cM (GG D cI cC cS v v v v) hs r i := rfl
set_option maxHeartbeats 8000000 in
set_option maxRecDepth 100000 in
/-- from the law's entry -/
theorem whole_start {p : Program} {e : Env} {s : State} {m : MethodId} {below : List Frame} {meth : Method} {c : Code} (l : Launch) (hflags : l.flags = flags0) {b L : Nat} {xs : Nat → Int32} (hL : L ≤ 2048) (C0 : lw_At p s m meth c b L xs) : W p l e room_1 s m #[Value.ref b] below meth c s.heap [] 0 0 (lw_Z below #[Value.ref b] s) (entryFrame m ([Value.ref b] : List Value).toArray 4) := by
  obtain ⟨hx, hb, hr, hml, hown, hts, hX, hbl, hlocks, hgv⟩ := id C0
  have hA : ∀ q : Nat, s.heap.size ≤ q → A0 s q := fun _ h => h
  have hnA : ∀ q : Nat, q < s.heap.size → ¬ A0 s q := fun q h => Nat.not_le.mpr h
  obtain ⟨D, cI, cC, cS, hKC⟩ := st_KC hts
  obtain ⟨adK, adV, s1, s2, s3, s4, s5⟩ := st_SX hts hgv (A0 s) hnA
  have hG : GW s := hKC.2.2.2.2.2
  have hN : NN s := st_NN hts
  have hown : s.vm.findClass RL = some m.cls := hown
  have hb : c.code = cL_law := hb
  have hS : va_S (A0 s) s.heap s.heap [] := va_S.rf
  have hP : va_P D vwCl [] s.heap := fun k q h => by simp at h
  have hD : va_D (A0 s) [] := ⟨fun i j p q h => by simp at h, fun k q h => by simp at h⟩
  have hl := lv_entry ([.ref b]) (n := 4) (Nat.le_of_ble_eq_true rfl)
  rw [lg_entry_eq]
  generalize (lg_sl ([.ref b]) ++ List.replicate (4 - (lg_sl ([.ref b])).length) Slot.unset).toArray = ls at hl ⊢
  have hl : lv_has ls 4 [(0, .ref b)] := hl
  refine va_new (D := D) (cl := vwCl) (ci := 3) (fs := [.null, .null, .null, .null, .int 0, .int 0]) (C := RX3) (T := TX3) (N := 6) hx hb (Ts := u_ws RX3 TX3 6) (fun w hw => hG w (inX3 w hw).1 (inX3 w hw).2 _) (fun _ h => h) tyX3 tyX3_ok hown (hG.use (i := 50) (by decide +kernel) rfl _) (hG.use (i := 51) (by decide +kernel) rfl _) (hG.use (i := 37) (by decide +kernel) rfl _) hKC.1 hP hD hS hA rfl (fun j hj => by rcases (show j = 0 ∨ j = 1 ∨ j = 2 ∨ j = 3 ∨ j = 4 ∨ j = 5 by omega) with rfl | rfl | rfl | rfl | rfl | rfl <;> rfl) (Nat.le_of_ble_eq_true rfl) (Nat.le_of_ble_eq_true rfl) dL_law_0 (fun q0 H hP hD hS => ?_)
  have hP : va_P D vwCl [(q0, .inr (3, [.null, .null, .null, .null, .int 0, .int 0]))] H := hP
  have hD : va_D (A0 s) [(q0, .inr (3, [.null, .null, .null, .null, .int 0, .int 0]))] := hD
  refine W.widen (k := 1) (n := 6) (by decide) (by decide) ?_
  refine lv_dup hx hb dL_law_3 rfl ?_
  have hPc := hP.sub (ws' := [(q0, .inr (3, [.null, .null, .null, .null, .int 0, .int 0]))]) [0] rfl
  have hDc := hD.sub (ws' := [(q0, .inr (3, [.null, .null, .null, .null, .int 0, .int 0]))]) [0] (by decide) rfl
  have hFc := va_free (wc := [(q0, .inr (3, [.null, .null, .null, .null, .int 0, .int 0]))]) hD hS hA [0] rfl
  refine va_callv (xrI (q := 52) [] hx hb hml hown hG v_X3_init (by decide +kernel) (c_X3_init l D cI cC cS q0 H.size) ⟨fun a U g mk q => ⟨q.1, q.2.1, q.2.2.1, q.2.2.2.1.call, q.2.2.2.2⟩, fun U hU hW => ⟨rfl, by rw [hU], by rw [hU]; exact hPc, hKC.warm hW, hDc.weaken (fun _ _ _ _ => trivial)⟩⟩ rfl hl.1 (Nat.le_of_ble_eq_true rfl) dL_law_4 ⟨rfl, rfl, (Nat.le_of_ble_eq_true rfl), (Nat.le_of_ble_eq_true rfl)⟩ ⟨(Nat.le_of_ble_eq_true rfl), (Nat.le_of_ble_eq_true rfl)⟩) hS (fun q _ h => hFc q h) hFc (fun u t H1 locs ht hvm hw hB hz1 hk1 hS => ?_)
  obtain ⟨hP1, hD1, kI, kC, kS, eu⟩ := hB
  rw [ht] at hP1
  have kI := KT.moved hvm.symm kI
  have kC := KT.moved hvm.symm kC
  have kS := KT.moved hvm.symm kS
  obtain ⟨hP, hD⟩ := va_join (wr := []) (w1 := (ww 50 u (fun i => cX (GG D cI cC cS u u u u) (σz i) i))) hP hD [0] [] rfl rfl (by decide) (by decide) hk1 hFc hP1 hD1
  generalize H1 = H at hP hS ⊢
  have hP : va_P D vwCl (ww 50 u (fun i => cX (GG D cI cC cS u u u u) (σz i) i)) H := hP
  have hD : va_D (A0 s) (ww 50 u (fun i => cX (GG D cI cC cS u u u u) (σz i) i)) := hD
  rw [← eu]
  refine W.widen (k := 50) (n := 620) (by decide) (by decide) ?_
  refine lv_astore_n (lv' := [(1, .ref (u 0)), (0, .ref b)]) hx hb dL_law_7 rfl hl (by decide) rfl (fun ls hl => ?_)
  refine va_new (D := D) (cl := vwCl) (ci := 4) (fs := [.null, .int 0, .null, .int 0, .int 0, .int 0, .int 0, .int 0, .null, .null, .int 0, .null, .null, .int 0, .null, .int 0, .int 0, .int 0, .int 0, .null, .null, .long 0]) (C := RX4) (T := TX4) (N := 22) hx hb (Ts := u_ws RX4 TX4 22) (fun w hw => hG w (inX4 w hw).1 (inX4 w hw).2 _) (fun _ h => h) tyX4 tyX4_ok hown (hG.use (i := 563) (by decide +kernel) rfl _) (hG.use (i := 564) (by decide +kernel) rfl _) (hG.use (i := 41) (by decide +kernel) rfl _) hKC.1 hP hD hS hA rfl (fun j hj => by rcases (show j = 0 ∨ j = 1 ∨ j = 2 ∨ j = 3 ∨ j = 4 ∨ j = 5 ∨ j = 6 ∨ j = 7 ∨ j = 8 ∨ j = 9 ∨ j = 10 ∨ j = 11 ∨ j = 12 ∨ j = 13 ∨ j = 14 ∨ j = 15 ∨ j = 16 ∨ j = 17 ∨ j = 18 ∨ j = 19 ∨ j = 20 ∨ j = 21 by omega) with rfl | rfl | rfl | rfl | rfl | rfl | rfl | rfl | rfl | rfl | rfl | rfl | rfl | rfl | rfl | rfl | rfl | rfl | rfl | rfl | rfl | rfl <;> rfl) (Nat.le_of_ble_eq_true rfl) (Nat.le_of_ble_eq_true rfl) dL_law_8 (fun q4 H hP hD hS => ?_)
  have hP : va_P D vwCl ((ww 50 u (fun i => cX (GG D cI cC cS u u u u) (σz i) i)) ++ [(q4, .inr (4, [.null, .int 0, .null, .int 0, .int 0, .int 0, .int 0, .int 0, .null, .null, .int 0, .null, .null, .int 0, .null, .int 0, .int 0, .int 0, .int 0, .null, .null, .long 0]))]) H := hP
  have hD : va_D (A0 s) ((ww 50 u (fun i => cX (GG D cI cC cS u u u u) (σz i) i)) ++ [(q4, .inr (4, [.null, .int 0, .null, .int 0, .int 0, .int 0, .int 0, .int 0, .null, .null, .int 0, .null, .null, .int 0, .null, .int 0, .int 0, .int 0, .int 0, .null, .null, .long 0]))]) := hD
  refine W.widen (k := 51) (n := 642) (by decide) (by decide) ?_
  refine lv_dup hx hb dL_law_11 rfl ?_
  have e50 : [50].map (fun i => ((ww 50 u (fun i => cX (GG D cI cC cS u u u u) (σz i) i)) ++ [(q4, .inr (4, [.null, .int 0, .null, .int 0, .int 0, .int 0, .int 0, .int 0, .null, .null, .int 0, .null, .null, .int 0, .null, .int 0, .int 0, .int 0, .int 0, .null, .null, .long 0]))])[i]?) = ([(q4, .inr (4, [.null, .int 0, .null, .int 0, .int 0, .int 0, .int 0, .int 0, .null, .null, .int 0, .null, .null, .int 0, .null, .int 0, .int 0, .int 0, .int 0, .null, .null, .long 0]))] : va_W).map some := by
    show [((ww 50 u (fun i => cX (GG D cI cC cS u u u u) (σz i) i)) ++ [(q4, .inr (4, [.null, .int 0, .null, .int 0, .int 0, .int 0, .int 0, .int 0, .null, .null, .int 0, .null, .null, .int 0, .null, .int 0, .int 0, .int 0, .int 0, .null, .null, .long 0]))])[50 + 0]?] = _
    rw [ww_idr]; rfl
  have e51 : [50].filterMap (fun i => ((ww 50 u (fun i => cX (GG D cI cC cS u u u u) (σz i) i)) ++ [(q4, .inr (4, [.null, .int 0, .null, .int 0, .int 0, .int 0, .int 0, .int 0, .null, .null, .int 0, .null, .null, .int 0, .null, .int 0, .int 0, .int 0, .int 0, .null, .null, .long 0]))])[i]?) = [(q4, .inr (4, [.null, .int 0, .null, .int 0, .int 0, .int 0, .int 0, .int 0, .null, .null, .int 0, .null, .null, .int 0, .null, .int 0, .int 0, .int 0, .int 0, .null, .null, .long 0]))] := by
    have z : ((ww 50 u (fun i => cX (GG D cI cC cS u u u u) (σz i) i)) ++ [(q4, .inr (4, [.null, .int 0, .null, .int 0, .int 0, .int 0, .int 0, .int 0, .null, .null, .int 0, .null, .null, .int 0, .null, .int 0, .int 0, .int 0, .int 0, .null, .null, .long 0]))])[50]? = some (q4, .inr (4, [.null, .int 0, .null, .int 0, .int 0, .int 0, .int 0, .int 0, .null, .null, .int 0, .null, .null, .int 0, .null, .int 0, .int 0, .int 0, .int 0, .null, .null, .long 0])) := (ww_idr (i := 0)).trans rfl
    rw [List.filterMap_cons, z]; rfl
  have hPc := hP.sub (ws' := [(q4, .inr (4, [.null, .int 0, .null, .int 0, .int 0, .int 0, .int 0, .int 0, .null, .null, .int 0, .null, .null, .int 0, .null, .int 0, .int 0, .int 0, .int 0, .null, .null, .long 0]))]) [50] e51
  have hDc := hD.sub (ws' := [(q4, .inr (4, [.null, .int 0, .null, .int 0, .int 0, .int 0, .int 0, .int 0, .null, .null, .int 0, .null, .null, .int 0, .null, .int 0, .int 0, .int 0, .int 0, .null, .null, .long 0]))]) [50] (by decide) e50
  have hFc := va_free (wc := [(q4, .inr (4, [.null, .int 0, .null, .int 0, .int 0, .int 0, .int 0, .int 0, .null, .null, .int 0, .null, .null, .int 0, .null, .int 0, .int 0, .int 0, .int 0, .null, .null, .long 0]))]) hD hS hA [50] e50
  refine va_callv (xrI (q := 565) [] hx hb hml hown hG v_X4_init (by decide +kernel) (c_X4_init l D cI cC cS q4 H.size) ⟨fun a U g mk q => ⟨q.1, q.2.1, q.2.2.1, q.2.2.2.1.call, q.2.2.2.2⟩, fun U hU hW => ⟨rfl, by rw [hU], by rw [hU]; exact hPc, hKC.warm hW, hDc.weaken (fun _ _ _ _ => trivial)⟩⟩ rfl hl.1 (Nat.le_of_ble_eq_true rfl) dL_law_12 ⟨rfl, rfl, (Nat.le_of_ble_eq_true rfl), (Nat.le_of_ble_eq_true rfl)⟩ ⟨(Nat.le_of_ble_eq_true rfl), (Nat.le_of_ble_eq_true rfl)⟩) hS (fun q _ h => hFc q h) hFc (fun v t H1 locs ht hvm hw hB hz1 hk1 hS => ?_)
  obtain ⟨hP1, hD1, ev⟩ := hB
  rw [ht] at hP1
  obtain ⟨hP, hD⟩ := va_join (wr := (ww 50 u (fun i => cX (GG D cI cC cS u u u u) (σz i) i))) (w1 := (ww 10 v (fun i => cM (GG D cI cC cS v v v v) 0 (μz i) i))) hP hD [50] (List.range 50) e50 ww_isR (by decide) (by decide) hk1 hFc hP1 hD1
  generalize H1 = H at hP hS ⊢
  rw [← ev]
  refine W.widen (k := 600000) (n := 7302250) (Nat.le_of_ble_eq_true rfl) (Nat.le_of_ble_eq_true rfl) ?_
  refine lv_astore_n (lv' := [(2, .ref (v 0)), (1, .ref (u 0)), (0, .ref b)]) hx hb dL_law_15 rfl hl (by decide) rfl (fun ls hl => ?_)
  refine lv_iconst (v := 0) hx hb dL_law_16 (by decide) ?_
  refine lv_istore_n (lv' := [(3, .int 0), (2, .ref (v 0)), (1, .ref (u 0)), (0, .ref b)]) hx hb dL_law_17 rfl hl (by decide) rfl (fun ls hl => ?_)
  have hII : ∀ i j, i < 50 → j < 50 → u i = u j → i = j := fun i j h1 h2 h3 => hD.1 i j _ _ (ww_idx h1) (ww_idx h2) h3
  have hIM : ∀ i j, i < 10 → j < 10 → v i = v j → i = j := fun i j h1 h2 h3 => by
    have := hD.1 (50 + i) (50 + j) _ _ (ww_id2 h1) (ww_id2 h2) h3
    omega
  have hdj : DJ (GG D cI cC cS u v adK adV) s := ⟨fun i j h1 h2 h3 => by
    have h3 : u i = v j := h3
    have := hD.1 i (50 + j) _ _ (ww_idx h1) (ww_id2 h2) h3
    omega, fun i h1 => hD.2 i _ (ww_idx h1), fun j h2 => (show A0 s (v j) from hD.2 (50 + j) _ (ww_id2 h2))⟩
  have hK3 : va_K D vwCl [(cI, .int), (cC, .char), (cS, .object RX2)] s := ⟨hKC.1.1, fun k q hq => by
    match k, hq with
    | 0, hq => cases hq; exact kI
    | 1, hq => cases hq; exact kC
    | 2, hq => cases hq; exact kS
    | k + 3, hq => simp at hq⟩
  have hPX : PX (GG D cI cC cS u v adK adV) σz H := fun k q hk => by
    obtain ⟨h1, rfl⟩ := ww_inv hk
    exact hP k _ (ww_idx h1)
  have hPM : PM (GG D cI cC cS u v adK adV) μz 0 H := fun k q hk => by
    obtain ⟨h1, rfl⟩ := ww_inv hk
    exact hP (50 + k) _ (ww_id2 h1)
  have sx : SX (GG D cI cC cS u v adK adV) s s.heap := ⟨s1.narrow hdj.xA, s2.narrow hdj.xA, s3, s4, s5, hG, hN⟩
  have hLC : LC p s m c b L xs (GG D cI cC cS u v adK adV) := ⟨hx, hb, hml, hown, ⟨hK3, hII, hG, hN⟩, ⟨hK3, hIM, hG⟩, sx, hX, hbl, hL, hdj⟩
  exact law_loop l hLC hr hlocks 601 0 σz μz 0 H locs (by omega) (by omega) iv_0 hPX hPM hS ls hl
