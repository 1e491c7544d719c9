theorem mt_min : Cond.static Lib.Math.min.name ∈ lw_tbl ∧ Cond.initialized "java/lang/Math" ∈ lw_tbl ∧ Cond.code Lib.Math.min.name Lib.Math.min.code 2 (some .int) ∈ lw_tbl := ⟨List.mem_of_getElem? (i := 221) (by decide +kernel), List.mem_of_getElem? (i := 44) (by decide +kernel), List.mem_of_getElem? (i := 222) (by decide +kernel)⟩
theorem mt_max : Cond.static Lib.Math.max.name ∈ lw_tbl ∧ Cond.initialized "java/lang/Math" ∈ lw_tbl ∧ Cond.code Lib.Math.max.name Lib.Math.max.code 2 (some .int) ∈ lw_tbl := ⟨List.mem_of_getElem? (i := 218) (by decide +kernel), List.mem_of_getElem? (i := 44) (by decide +kernel), List.mem_of_getElem? (i := 219) (by decide +kernel)⟩
theorem mt_abs : Cond.static Lib.Math.abs.name ∈ lw_tbl ∧ Cond.initialized "java/lang/Math" ∈ lw_tbl ∧ Cond.code Lib.Math.abs.name Lib.Math.abs.code 1 (some .int) ∈ lw_tbl := ⟨List.mem_of_getElem? (i := 451) (by decide +kernel), List.mem_of_getElem? (i := 44) (by decide +kernel), List.mem_of_getElem? (i := 452) (by decide +kernel)⟩
theorem mt_copy : Cond.native arraycopyName ∈ lw_tbl ∧ Cond.static arraycopyName ∈ lw_tbl ∧ Cond.initialized "java/lang/System" ∈ lw_tbl := ⟨List.mem_of_getElem? (i := 529) (by decide +kernel), List.mem_of_getElem? (i := 528) (by decide +kernel), List.mem_of_getElem? (i := 49) (by decide +kernel)⟩
theorem min_nI (a b : Nat) (ha : a < 2 ^ 31) (hb : b < 2 ^ 31) : (if nI b < nI a then nI b else nI a) = nI (min a b) := by
  by_cases h : b < a
  · rw [if_pos ((nI_ltI hb ha).mpr h), Nat.min_eq_right (by omega)]
  · rw [if_neg (fun z => h ((nI_ltI hb ha).mp z)), Nat.min_eq_left (by omega)]
theorem max_nI (a b : Nat) (ha : a < 2 ^ 31) (hb : b < 2 ^ 31) : (if nI a < nI b then nI b else nI a) = nI (max a b) := by
  by_cases h : a < b
  · rw [if_pos ((nI_ltI ha hb).mpr h), Nat.max_eq_right (by omega)]
  · rw [if_neg (fun z => h ((nI_ltI ha hb).mp z)), Nat.max_eq_left (by omega)]
/-- the first n places of a row put into another -/
def cpy2 (σ : St) (i0 i1 n : Nat) : St := fun a b => if a = i1 ∧ b < n then σ i0 b else σ a b
theorem cpy2_ne {σ : St} {i0 i1 n a : Nat} (h : a ≠ i1) : cpy2 σ i0 i1 n a = σ a := by funext b; simp [cpy2, h]
theorem cpy2_at {σ : St} {i0 i1 n b : Nat} (h : b < n) : cpy2 σ i0 i1 n i1 b = σ i0 b := by simp [cpy2, h]
theorem cpy2_row (σ : St) (i0 i1 n : Nat) : cpy2 σ i0 i1 n i1 = va_cpy (σ i0) (σ i1) 0 0 n := by
  funext b
  by_cases h : b < n
  · simp [cpy2, va_cpy, h]
  · simp [cpy2, va_cpy, h]
theorem x_copy {p : Program} {l : Launch} {e : Env} {R : Room} {s : State} {m : MethodId} {args : Array Value} {below : List Frame} {meth : Method} {c : Code} {H : Heap} {locs : List Loc} {cells slots : Nat} {Q : State → Prop} {cc : ByteArray} {pc : Nat} {ls : Array Slot} {rest : List Value} {G : Gam} {σ : St} {H0 : Heap} {own : String} {q index : Nat} (n : Nat) (hx : p.tables.exec = Jvm.exec) (hb : c.code = cc) (hml : c.maxLocals = ls.size) (hown : s.vm.findClass own = some m.cls) (hW : WX G σ s H) (hS : va_S (aX G) H0 H locs) {i0 i1 : Nat} (h0 : i0 < 50) (h1 : i1 < 50) (hc0 : ∀ r, cX G r i0 = .inl (gI G, n, .inl r)) (hc1 : ∀ r, cX G r i1 = .inl (gI G, n, .inl r)) (hn : n < 64) (hlk : lw_tbl[q]? = some (.methodLink own index arraycopyName)) (hframes : 1 ≤ R.frames) (hlocals : (rest.map fun v => v.category).sum + (nativeFrameWords "java/lang/System" "arraycopy" 5 + 11) ≤ R.locals) (hdg : decode cc pc = .ok (.invokestatic index, 3))
    (kk : ∀ (H1 : Heap) (locs1 : List Loc), WX G (cpy2 σ i0 i1 n) s H1 → va_S (aX G) H0 H1 locs1 → W p l e R s m args below meth c H1 locs1 cells slots Q (F0 m (pc + 3) ls rest)) : W p l e R s m args below meth c H locs cells slots Q (F0 m pc ls (.int (nI n) :: .int 0 :: .ref (ga G i1) :: .int 0 :: .ref (ga G i0) :: rest)) := by
  have hG := hW.2.2.2.1
  have e0 : (0 : Int32).toNatClampNeg = 0 := by decide
  have en : (nI n).toNatClampNeg = n := nI_clamp (by omega)
  refine va_copyi (ws := wX G σ) (A := aX G) (f := σ i0) (g := σ i1) (n0 := n) (n1 := n) (ty := .int) hx hb hml hown (hG.use hlk rfl _) (hG _ mt_copy.1 rfl _) (hG _ mt_copy.2.1 rfl _) (hG _ mt_copy.2.2 rfl _) hW.2.1 hW.1 (ww_D hW.2.2.1 _) hS i0 i1 0 0 (by rw [wX, ww_get h0, hc0]) (by rw [wX, ww_get h1, hc1]) rfl rfl rfl (by decide) (by decide) (nI_pos (by omega)) (by rw [e0, en]; omega) (by rw [e0, en]; omega) (fun i _ => rfl) hframes hlocals hdg (fun H1 locs1 g1 _ g3 => kk H1 locs1 ⟨?_, hW.2⟩ g3)
  rw [e0, en, wX, ww_set (g := fun i => cX G (cpy2 σ i0 i1 n i) i) h1 (by show cX G (cpy2 σ i0 i1 n i1) i1 = _; rw [cpy2_row, hc1]) (fun j _ hne => by show cX G (cpy2 σ i0 i1 n j) j = cX G (σ j) j; rw [cpy2_ne hne])] at g1
  exact g1
theorem sub_neg {a b : Nat} (h : a < b) (hb : b < 2 ^ 30) : ¬ 0 ≤ nI a - nI b := by
  rw [Int32.le_iff_toInt_le, pk_sub_toInt (by omega) hb]
  show ¬ (0 : Int) ≤ _
  omega
/-- all outside the stick j stays -/
def FR (σ : St) (j : Nat) (σ' : St) : Prop := ∀ a, a ≠ 3 * j + 14 → a ≠ 3 * j + 15 → a ≠ 3 * j + 16 → σ' a = σ a
/-- a stick's state behind a change of it -/
def NS (σ : St) (j : Nat) (S : Sk) (σ' : St) : Prop := FR σ j σ' ∧ GS σ' j S ∧ GT σ' j S
theorem NS.of {σ σ1 σ' : St} {j : Nat} {S : Sk} (hF : FR σ j σ1) (hg : GS σ1 j S) (h : RT σ1 j S σ') : NS σ j S σ' :=
  ⟨fun a h1 h2 h3 => (h.1 a h1 h3).trans (hF a h1 h2 h3), h.gs hg, h.2.2⟩
