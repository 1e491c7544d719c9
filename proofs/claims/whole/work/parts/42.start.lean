/-! ===== the law's start: what the tables and the given texts say ===== -/
theorem nws_in : ∀ w ∈ nws, w ∈ lw_tbl := by decide +kernel
theorem nws_ot : ∀ w ∈ nws, w.onTables = true := by decide +kernel
theorem st_NN {s : State} {b : Nat} (hts : ∀ w ∈ lw_tbl, w.before #[Value.ref b] s = true) : NN s := fun w hw => va_Nw.of (nws_ot w hw) (hts w (nws_in w hw))
theorem fc_ex (s : State) (c0 : ClassId) (nm : String) : ∃ cI : ClassId, ∀ x, s.vm.findClass nm = some x → x = cI := by
  cases h : s.vm.findClass nm with
  | none => exact ⟨c0, fun x hx => by cases hx⟩
  | some y => exact ⟨y, fun x hx => (Option.some.inj hx).symm⟩
theorem st_KC {s : State} {b : Nat} (hts : ∀ w ∈ lw_tbl, w.before #[Value.ref b] s = true) : ∃ (D : va_G) (cI cC cS : ClassId), KC D cI cC cS s := by
  obtain ⟨c0, i0, k0⟩ := u_known (C := RX0) (T := TX0) (N := 7) (n := 7) hts (fun w hw => (inX0 w hw).1) (hts (.instantiable RX0 7) (List.mem_of_getElem? (i := 75) (by decide +kernel)))
  obtain ⟨c1, i1, k1⟩ := u_known (C := RX1) (T := TX1) (N := 2) (n := 2) hts (fun w hw => (inX1 w hw).1) (hts (.instantiable RX1 2) (List.mem_of_getElem? (i := 59) (by decide +kernel)))
  obtain ⟨c2, i2, k2⟩ := u_known (C := RX2) (T := TX2) (N := 6) (n := 6) hts (fun w hw => (inX2 w hw).1) (hts (.instantiable RX2 6) (List.mem_of_getElem? (i := 82) (by decide +kernel)))
  obtain ⟨c3, i3, k3⟩ := u_known (C := RX3) (T := TX3) (N := 6) (n := 6) hts (fun w hw => (inX3 w hw).1) (hts (.instantiable RX3 6) (List.mem_of_getElem? (i := 51) (by decide +kernel)))
  obtain ⟨c4, i4, k4⟩ := u_known (C := RX4) (T := TX4) (N := 22) (n := 22) hts (fun w hw => (inX4 w hw).1) (hts (.instantiable RX4 22) (List.mem_of_getElem? (i := 564) (by decide +kernel)))
  obtain ⟨cI, hI⟩ := fc_ex s c0 ("[" ++ FieldType.int.toString)
  obtain ⟨cC, hC⟩ := fc_ex s c0 ("[" ++ FieldType.char.toString)
  obtain ⟨cS, hS⟩ := fc_ex s c0 ("[" ++ (FieldType.object RX2).toString)
  obtain ⟨D, hD⟩ : ∃ D : va_G, ∀ (k : Nat) (q : vw_C), vwCl[k]? = some q → u_Kn s q.1 q.2.1 q.2.2 (D.1 k) (D.2 k) := by
    refine ⟨(fun k => if k = 0 then c0 else if k = 1 then c1 else if k = 2 then c2 else if k = 3 then c3 else c4, fun k => if k = 0 then i0 else if k = 1 then i1 else if k = 2 then i2 else if k = 3 then i3 else i4), ?_⟩
    intro k q hq
    match k, hq with
    | 0, hq => cases hq; exact k0
    | 1, hq => cases hq; exact k1
    | 2, hq => cases hq; exact k2
    | 3, hq => cases hq; exact k3
    | 4, hq => cases hq; exact k4
    | k + 5, hq => simp [vwCl] at hq
  exact ⟨D, cI, cC, cS, ⟨hD, fun k q h => by simp at h⟩, hI, hC, hS, va_AO.of (hts (.arrayOver (.object RX2)) (List.mem_of_getElem? (i := 81) (by decide +kernel))), GW.of hts⟩
/-- the class's two texts -/
def tmS (i : Nat) : Term := if i = 0 then .string RX1 23 else .string RX1 35
theorem two2 {i : Nat} (h : i < 2) : i = 0 ∨ i = 1 := by omega
set_option maxRecDepth 20000 in
theorem st_SX {s : State} {b : Nat} (hts : ∀ w ∈ lw_tbl, w.before #[Value.ref b] s = true) (hgv : (Jvm.Cond.and given_1 narrow_1).before #[Value.ref b] s = true) (A : Nat → Prop) (hA : ∀ a : Nat, a < s.heap.size → ¬ A a) :
    ∃ adK adV : Nat → Nat, vk_S 2 lsS btS adK adV A s s.heap ∧ va_Z "java/lang/String" "COMPACT_STRINGS" "Z" (.int 1) A s s.heap ∧ vk_R RX1 23 "kclxa" (adK 0) s ∧ vk_R RX1 35 "nesw" (adK 1) s ∧ vk_R RX3 100 "kclxa" (adK 0) s := by
  have hq := flat_of_before _ hgv
  obtain ⟨adK, adV, h1, h2⟩ := vk_Sof (args := #[Value.ref b]) (s := s) (N := 2) (tm := tmS) (len := lsS) (byt := btS) (A := A) (fun i hi => by rcases two2 hi with rfl | rfl <;> decide)
    (fun i hi => by rcases two2 hi with rfl | rfl <;> exact hq _ (by decide +kernel))
    (fun i hi => by rcases two2 hi with rfl | rfl <;> exact hq _ (by decide +kernel))
    (fun i hi => by rcases two2 hi with rfl | rfl <;> exact hq _ (by decide +kernel))
    (fun i hi => by rcases two2 hi with rfl | rfl <;> exact hq _ (by decide +kernel))
    (fun i hi j hj => by
      rcases two2 hi with rfl | rfl
      · have hj : j < 5 := hj
        rcases sw5 hj with rfl | rfl | rfl | rfl | rfl <;> exact hq _ (by decide +kernel)
      · have hj : j < 4 := hj
        rcases sw4 hj with rfl | rfl | rfl | rfl <;> exact hq _ (by decide +kernel))
    (fun i j hi hj hij => by
      rcases two2 hi with rfl | rfl <;> rcases two2 hj with rfl | rfl
      · exact absurd rfl hij
      · exact Or.inl (hq _ (by decide +kernel))
      · exact Or.inr (hq _ (by decide +kernel))
      · exact absurd rfl hij) hA
  have e0 : (Term.string RX1 23).eval #[Value.ref b] s none [] s = some (.ref (adK 0)) := h2 0 (by decide)
  have e1 : (Term.string RX1 35).eval #[Value.ref b] s none [] s = some (.ref (adK 1)) := h2 1 (by decide)
  have e2 : (Term.string RX3 100).eval #[Value.ref b] s none [] s = some (.ref (adK 0)) := va_eqR (t := .string RX1 23) (hq _ (by decide +kernel)) e0
  exact ⟨adK, adV, h1, va_Zof (args := #[Value.ref b]) (hts (.laysStatic "java/lang/String" "COMPACT_STRINGS" "Z") (List.mem_of_getElem? (i := 202) (by decide +kernel))) (hts (.initialized "java/lang/String") (List.mem_of_getElem? (i := 42) (by decide +kernel))) (va_eqi (hq _ (by decide +kernel))) hA,
    vk_R.of (hts (.stringRef RX1 23 "kclxa") (List.mem_of_getElem? (i := 188) (by decide +kernel))) e0, vk_R.of (hts (.stringRef RX1 35 "nesw") (List.mem_of_getElem? (i := 278) (by decide +kernel))) e1, vk_R.of (hts (.stringRef RX3 100 "kclxa") (List.mem_of_getElem? (i := 356) (by decide +kernel))) e2⟩
theorem iv_0 : IV 0 σz μz := by
  refine ⟨0, fun _ _ => 0, 0, fun _ => 0, 0, 0, fun _ => 0, 0, false, ⟨⟨by decide, by omega⟩, by decide, ⟨by decide, by omega⟩, fun k hk => absurd hk (Nat.not_lt_zero k), fun k hk => absurd hk (Nat.not_lt_zero k)⟩, ⟨⟨by decide, by omega⟩, by decide, ⟨by decide, by omega⟩, fun k hk => absurd hk (Nat.not_lt_zero k), fun k hk => absurd hk (Nat.not_lt_zero k)⟩, ⟨⟨by decide, by omega⟩, fun k hk => absurd hk (Nat.not_lt_zero k)⟩, ⟨⟨by decide, by omega⟩, fun k hk => absurd hk (Nat.not_lt_zero k)⟩, ⟨by decide, by decide, by omega⟩, fun j hj => ⟨fun _ => 0, ⟨by decide, by decide, by decide, fun i hi => absurd hi (Nat.not_lt_zero i)⟩, ?_⟩, by decide, Or.inl ⟨rfl, Or.inl (by decide)⟩⟩
  exact ⟨by show (0 : Int32) = nI 0; decide, by show (0 : Int32) = nI 0; decide, by show (0 : Int32) = nI 0; decide, fun i hi => absurd hi (Nat.not_lt_zero i)⟩
