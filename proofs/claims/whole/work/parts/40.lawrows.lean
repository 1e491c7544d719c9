/-! ===== the law: the class's world and the reference's in one heap ===== -/
def A0 (s : State) : Nat → Prop := fun q => s.heap.size ≤ q
/-- the two worlds are apart, and new -/
def DJ (G : Gam) (s : State) : Prop := (∀ i j, i < 50 → j < 10 → ga G i ≠ gm G j) ∧ (∀ i, i < 50 → s.heap.size ≤ ga G i) ∧ ∀ j, j < 10 → s.heap.size ≤ gm G j
theorem DJ.xA {G : Gam} {s : State} (h : DJ G s) : ∀ q, aX G q → A0 s q := fun q ⟨i, hi, e⟩ => by rw [e]; exact h.2.1 i hi
theorem DJ.mA {G : Gam} {s : State} (h : DJ G s) : ∀ q, aM G q → A0 s q := fun q ⟨i, hi, e⟩ => by rw [e]; exact h.2.2 i hi
theorem PM.kept {G : Gam} {s : State} {μ : St} {hs : Int64} {H H1 : Heap} (h : PM G μ hs H) (hd : DJ G s) (hk : ∀ q : Nat, q < H.size → ¬ aX G q → H1[q]? = H[q]?) : PM G μ hs H1 := fun k q hq => by
  have hl := (h k q hq).lt
  refine (h k q hq).kept (hk _ hl ?_)
  obtain ⟨h1, rfl⟩ := ww_inv hq
  exact fun ⟨i, hi, e⟩ => hd.1 i k hi h1 e.symm
theorem PX.kept {G : Gam} {s : State} {σ : St} {H H1 : Heap} (h : PX G σ H) (hd : DJ G s) (hk : ∀ q : Nat, q < H.size → ¬ aM G q → H1[q]? = H[q]?) : PX G σ H1 := fun k q hq => by
  have hl := (h k q hq).lt
  refine (h k q hq).kept (hk _ hl ?_)
  obtain ⟨h1, rfl⟩ := ww_inv hq
  exact fun ⟨i, hi, e⟩ => hd.1 k i h1 hi e
/-- what holds all through the law -/
def LC (p : Program) (s : State) (m : MethodId) (c : Code) (b L : Nat) (xs : Nat → Int32) (G : Gam) : Prop :=
  p.tables.exec = Jvm.exec ∧ c.code = cL_law ∧ c.maxLocals = 4 ∧ s.vm.findClass RL = some m.cls ∧ CX G s ∧ CM G s ∧ SX G s s.heap ∧ va_X b L xs s s.heap ∧ b < s.heap.size ∧ L ≤ 2048 ∧ DJ G s
theorem SX.law {G : Gam} {s : State} {H : Heap} {locs : List Loc} (h : SX G s s.heap) (hS : va_S (A0 s) s.heap H locs) : SX G s H :=
  ⟨h.1.kept (fun a h1 _ => hS.2.1 a h1 (Nat.not_le.mpr h1)), h.2.1.kept (fun a h1 _ => hS.2.1 a h1 (Nat.not_le.mpr h1)), h.2.2⟩
abbrev WL (p : Program) (l : Launch) (e : Env) (s : State) (m : MethodId) (b : Nat) (below : List Frame) (meth : Method) (c : Code) (H : Heap) (locs : List Loc) (Q : State → Prop) (g : JFrame) : Prop :=
  W p l e room_1 s m #[Value.ref b] below meth c H locs 600000 7302250 Q g
section LL
variable {p : Program} {l : Launch} {e : Env} {s : State} {m : MethodId} {below : List Frame} {meth : Method} {c : Code} {H : Heap} {locs : List Loc} {Q : State → Prop}
variable {pc : Nat} {ls : Array Slot} {rest : List Value} {G : Gam} {σ μ : St} {hs : Int64} {b L : Nat} {xs : Nat → Int32}
variable {y : MethodName} {bytes : ByteArray} {maxL n q index : Nat} {ret : Option FieldType} {rm : Room} {Pc : Array Value → State → Prop} {b9 : Addr}
theorem ll_sld (k : Nat) (hC : LC p s m c b L xs G) (hS : va_S (A0 s) s.heap H locs) (hk : k < L) (hdg : decode cL_law pc = .ok (.iaload, 1))
    (kk : WL p l e s m b below meth c H locs Q (F0 m (pc + 1) ls (.int (xs k) :: rest))) : WL p l e s m b below meth c H locs Q (F0 m pc ls (.int (nI k) :: .ref b :: rest)) := by
  obtain ⟨hx, hb, -, -, -, -, -, hX, hbl, hL, -⟩ := hC
  exact va_sld hx hb hX hbl (Nat.not_le.mpr hbl) hS (vp_in_nI hk (by omega)) hdg (by rw [nI_clamp (by omega)]; exact kk)
theorem lx_i (As : List Value) {post : Int32 → St → Prop} (hC : LC p s m c b L xs G) (hM : PM G μ hs H) (hS : va_S (A0 s) s.heap H locs) (hv : cV y bytes maxL ret n) (hlk : lw_tbl[q]? = some (.methodLink RL index y)) (hMt : Met l y (w1 y bytes maxL ret) rm Pc (QiX G post) 0 0 (aX G)) (hp : PreV s H y.cls b9 Pc As) (hn : As.length = n) (hsz : ls.size = 4) (hroom : (rest.map fun v => v.category).sum ≤ 8) (hdg : decode cL_law pc = .ok (.invokevirtual index, 3)) (hrm : RmOk rm room_1 maxL 0 0)
    (kk : ∀ (r : Int32) (σ' : St) (H1 : Heap) (locs1 : List Loc), post r σ' → PX G σ' H1 → PM G μ hs H1 → va_S (A0 s) s.heap H1 locs1 → WL p l e s m b below meth c H1 locs1 Q (F0 m (pc + 3) ls (.int r :: rest))) : WL p l e s m b below meth c H locs Q (F0 m pc ls (As.reverse ++ .ref b9 :: rest)) := by
  obtain ⟨hx, hb, hml, hown, hCX, -, -, -, -, -, hd⟩ := hC
  exact va_calli (xrV As hx hb hml hown hCX.2.2.1 hv hlk hMt hp hn hsz hroom hdg hrm ⟨Nat.le_of_ble_eq_true rfl, Nat.le_of_ble_eq_true rfl⟩) hS (fun q _ h => hd.xA q h) (fun q h => hd.xA q h) (fun r u t H1 locs1 ht _ hw hB _ hk1 hS1 => kk r u H1 locs1 hw (by rw [← ht]; exact hB) (hM.kept hd hk1) hS1)
theorem lm_i (As : List Value) {post : Int32 → StM → Prop} (hC : LC p s m c b L xs G) (hX : PX G σ H) (hS : va_S (A0 s) s.heap H locs) (hv : cV y bytes maxL ret n) (hlk : lw_tbl[q]? = some (.methodLink RL index y)) (hMt : Met l y (w1 y bytes maxL ret) rm Pc (QiM G post) 0 0 (aM G)) (hp : PreV s H y.cls b9 Pc As) (hn : As.length = n) (hsz : ls.size = 4) (hroom : (rest.map fun v => v.category).sum ≤ 8) (hdg : decode cL_law pc = .ok (.invokevirtual index, 3)) (hrm : RmOk rm room_1 maxL 0 0)
    (kk : ∀ (r : Int32) (μ' : St) (hs' : Int64) (H1 : Heap) (locs1 : List Loc), post r (μ', hs') → PX G σ H1 → PM G μ' hs' H1 → va_S (A0 s) s.heap H1 locs1 → WL p l e s m b below meth c H1 locs1 Q (F0 m (pc + 3) ls (.int r :: rest))) : WL p l e s m b below meth c H locs Q (F0 m pc ls (As.reverse ++ .ref b9 :: rest)) := by
  obtain ⟨hx, hb, hml, hown, hCX, -, -, -, -, -, hd⟩ := hC
  exact va_calli (xrV As hx hb hml hown hCX.2.2.1 hv hlk hMt hp hn hsz hroom hdg hrm ⟨Nat.le_of_ble_eq_true rfl, Nat.le_of_ble_eq_true rfl⟩) hS (fun q _ h => hd.mA q h) (fun q h => hd.mA q h) (fun r u t H1 locs1 ht _ hw hB _ hk1 hS1 => kk r u.1 u.2 H1 locs1 hw (hX.kept hd hk1) (by rw [← ht]; exact hB) hS1)
theorem lm_l (As : List Value) {post : Int64 → StM → Prop} (hC : LC p s m c b L xs G) (hX : PX G σ H) (hS : va_S (A0 s) s.heap H locs) (hv : cV y bytes maxL ret n) (hlk : lw_tbl[q]? = some (.methodLink RL index y)) (hMt : Met l y (w1 y bytes maxL ret) rm Pc (QlM G post) 0 0 (aM G)) (hp : PreV s H y.cls b9 Pc As) (hn : As.length = n) (hsz : ls.size = 4) (hroom : (rest.map fun v => v.category).sum ≤ 8) (hdg : decode cL_law pc = .ok (.invokevirtual index, 3)) (hrm : RmOk rm room_1 maxL 0 0)
    (kk : ∀ (r : Int64) (μ' : St) (hs' : Int64) (H1 : Heap) (locs1 : List Loc), post r (μ', hs') → PX G σ H1 → PM G μ' hs' H1 → va_S (A0 s) s.heap H1 locs1 → WL p l e s m b below meth c H1 locs1 Q (F0 m (pc + 3) ls (.long r :: rest))) : WL p l e s m b below meth c H locs Q (F0 m pc ls (As.reverse ++ .ref b9 :: rest)) := by
  obtain ⟨hx, hb, hml, hown, hCX, -, -, -, -, -, hd⟩ := hC
  exact va_calll (xrV As hx hb hml hown hCX.2.2.1 hv hlk hMt hp hn hsz hroom hdg hrm ⟨Nat.le_of_ble_eq_true rfl, Nat.le_of_ble_eq_true rfl⟩) hS (fun q _ h => hd.mA q h) (fun q h => hd.mA q h) (fun r u t H1 locs1 ht _ hw hB _ hk1 hS1 => kk r u.1 u.2 H1 locs1 hw (hX.kept hd hk1) (by rw [← ht]; exact hB) hS1)
end LL
/-- the goal behind a call of the law, at its instruction 710 -/
def KK (p : Program) (l : Launch) (e : Env) (s : State) (m : MethodId) (b : Nat) (below : List Frame) (meth : Method) (c : Code) (Q : State → Prop) (G : Gam) (ls : Array Slot) (c9 : Nat) : Prop :=
  ∀ (σ' μ' : St) (hs' : Int64) (H' : Heap) (locs' : List Loc), IV (c9 + 1) σ' μ' → PX G σ' H' → PM G μ' hs' H' → va_S (A0 s) s.heap H' locs' → WL p l e s m b below meth c H' locs' Q (F0 m 710 ls [])
theorem lgc_eq {x y : Int64} (h : x = y) : lg_cmp x y = 0 := by
  subst h
  unfold lg_cmp
  rw [if_neg (fun z : x > x => by have := Int64.lt_iff_toInt_lt.mp z; omega), if_pos rfl]
