/-! ===== constructors: worlds that grow ===== -/
theorem GW.of {s : State} {A : Array Value} (h : ∀ w ∈ lw_tbl, w.before A s = true) : GW s := fun w hw hg a =>
  pay_in (big := [w]) (ws := [w]) (args := A) (s := s) (fun w' h' => by rw [List.mem_singleton.mp h']; exact h w hw) (fun w' h' => ⟨h', by rw [List.mem_singleton.mp h']; exact good_of_word hg⟩) w (List.mem_singleton.mpr rfl) a s (State.WarmedH.refl s)
def KT (U : State) (cA : ClassId) (ty : FieldType) : Prop := ArrOfT U cA ty ∧ va_RA U cA ty
theorem KT.moved {u U : State} (hvm : u.vm.Alike U.vm) {cA : ClassId} {ty : FieldType} (h : KT u cA ty) : KT U cA ty := ⟨arrOfT_moved hvm h.1, h.2.moved hvm⟩
/-- what constructors know: the classes, the numbers of the array classes -/
def KC (D : va_G) (cI cC cS : ClassId) (U : State) : Prop := va_K D vwCl [] U ∧ (∀ x, U.vm.findClass ("[" ++ FieldType.int.toString) = some x → x = cI) ∧ (∀ x, U.vm.findClass ("[" ++ FieldType.char.toString) = some x → x = cC) ∧ (∀ x, U.vm.findClass ("[" ++ (FieldType.object RX2).toString) = some x → x = cS) ∧ va_AO RX2 U ∧ GW U
theorem KC.warm {D : va_G} {cI cC cS : ClassId} {s U : State} (hW : s.WarmedH U.vm) (h : KC D cI cC cS s) : KC D cI cC cS U :=
  ⟨va_K.moved hW.alike h.1, by rw [hW.alike.findClass]; exact h.2.1, by rw [hW.alike.findClass]; exact h.2.2.1, by rw [hW.alike.findClass]; exact h.2.2.2.1, va_AO.moved hW.alike h.2.2.2.2.1, h.2.2.2.2.2.warm hW⟩
theorem KC.call {D : va_G} {cI cC cS : ClassId} {U : State} {g : JFrame} {mk : MethodId} {a : Array Value} (h : KC D cI cC cS U) : KC D cI cC cS (U.calling g mk a) := KC.warm (s := U) (U := U.calling g mk a) (State.WarmedH.refl U) h
def z0 : Nat → Int32 := fun _ => 0
theorem met_ofI {l : Launch} {y : MethodName} {cc : ByteArray} {maxL : Nat} {ret : Option FieldType} {rm : Room} {B : State → Prop} {Qc : Array Value → State → Outcome → State → Prop} {mc ms : Nat} {free : Addr → Prop} (av : List Value) (lv : List (Nat × Value)) (hy : plainName y.cls = true) (hn : (lg_sl av).length ≤ maxL) (hlv : lv_args 0 av = lv)
    (body : ∀ (p : Program) (e : Env) (s : State) (m : MethodId) (below : List Frame) (meth : Method) (c : Code), p.tables.exec = Jvm.exec → c.code = cc → meth.sig.returnType = ret → s.vm.findClass y.cls = some m.cls → c.maxLocals = maxL → meth.locks = false → meth.name = y.name → B s → ∀ ls : Array Slot, lv_has ls maxL lv → W p l e (headSpec (w1 y cc maxL ret) rm).room s m av.toArray below meth c s.heap [] 0 0 (MQ below Qc av.toArray s mc ms free) (F0 m 0 ls [])) : Met l y (w1 y cc maxL ret) rm (va_Pc av B) Qc mc ms free := by
  refine Met.ofW (cc := cc) (maxL := maxL) (ret := ret) hy rfl ?_
  intro p e s m args below meth c s₁ Bd hml hv
  obtain ⟨rfl, hB⟩ := hv
  have hl := lv_entry av (n := maxL) hn
  rw [lg_entry_eq]
  rw [hlv] at hl
  exact body p e s m below meth c Bd.exec Bd.bytes Bd.returns (findClass_of_methodNamed Bd.named) hml Bd.notSynchronized (name_of_methodNamed Bd.named Bd.method).1 hB _ hl
def cI9 (y : MethodName) (bytes : ByteArray) (maxL : Nat) (n : Nat) : Prop :=
  Cond.code y bytes maxL none ∈ lw_tbl ∧ Cond.instanceMethod y ∈ lw_tbl ∧ Cond.initialized y.cls ∈ lw_tbl ∧ y.cls ≠ "java/lang/invoke/MethodHandle" ∧ y.cls ≠ "java/lang/invoke/VarHandle" ∧ (parseMethodDescriptor y.desc).map (fun d => d.parameters.length) = some n ∧ y.name = "<init>"
section LI
variable {p : Program} {l : Launch} {e : Env} {R : Room} {s : State} {m : MethodId} {args : Array Value} {below : List Frame} {meth : Method} {c : Code} {H : Heap} {locs : List Loc} {cells slots : Nat} {Q : State → Prop}
variable {cc : ByteArray} {pc : Nat} {ls : Array Slot} {rest : List Value} {H0 : Heap} {D : va_G} {cI cC cS : ClassId} {ws : va_W} {A : Nat → Prop} {tys : List (ClassId × FieldType)}
variable {own : String} {y : MethodName} {bytes : ByteArray} {maxL n nL q index : Nat} {rm : Room} {Pc : Array Value → State → Prop} {Qc : Array Value → State → Outcome → State → Prop} {free : Addr → Prop} {b : Addr} {mc ms : Nat}
theorem xrI (As : List Value) (hx : p.tables.exec = Jvm.exec) (hb : c.code = cc) (hml : c.maxLocals = nL) (hown : s.vm.findClass own = some m.cls) (hG : GW s) (hv : cI9 y bytes maxL n) (hlk : lw_tbl[q]? = some (.methodLink own index y)) (hM : Met l y (w1 y bytes maxL none) rm Pc Qc mc ms free) (hp : PreS s H Pc (.ref b :: As)) (hn : As.length = n) (hsz : ls.size = nL) (hroom : (rest.map fun v => v.category).sum ≤ 8) (hdg : decode cc pc = .ok (.invokespecial index, 3)) (hrm : RmOk rm R maxL mc ms) (hf : cells + mc ≤ R.cells ∧ slots + ms ≤ R.slots) :
    va_Run p l e R s m args below meth c H locs cells slots mc ms (F0 m pc ls (As.reverse ++ .ref b :: rest)) rest (Qc (Value.ref b :: As).toArray) free := by
  obtain ⟨h1, h2, h4, h5, h6, h7, h8⟩ := hv
  refine va_runI (Ts := []) (nL := nL) (n := n) ⟨hx, hb, hml, hown, fun _ h => by cases h⟩ hM ⟨⟨hrm.1, hrm.2.1, hrm.2.2.1, hrm.2.2.2, ?_, List.mem_singleton.mpr rfl, hG _ h1 rfl args, hG _ h4 rfl args, ⟨h5, h6⟩, parm_of h7, hG.use hlk rfl args⟩, h8, hG _ h2 rfl args⟩ hp rfl hn hsz rfl (lv_room hroom) hdg hf
  intro w hw a' U hW
  rw [List.mem_singleton.mp hw]
  exact (hG.warm hW) _ h1 rfl a'
theorem kt_last {ty : FieldType} {cA : ClassId} (hK : va_K D vwCl (tys ++ [(cA, ty)]) s) : KT s cA ty := hK.2 tys.length (cA, ty) (by simp)
theorem n_int (hx : p.tables.exec = Jvm.exec) (hb : c.code = cc) (hC : KC D cI cC cS s) (hP : va_P D vwCl ws H) (hD : va_D A ws) (hS : va_S A H0 H locs) (hA : ∀ q, H0.size ≤ q → A q) (N : Nat) {n : Int32} (hn : ¬ n < 0) (hN : n.toNatClampNeg = N) (hN2 : N ≤ 64) (hcells : cells + 1 ≤ R.cells) (hslots : slots + N ≤ R.slots) (hdg : decode cc pc = .ok (.newarray .int, 2))
    (kk : ∀ (q : Nat) (H1 : Heap), KT s cI .int → va_P D vwCl (ws ++ [(q, .inl (cI, N, .inl z0))]) H1 → va_D A (ws ++ [(q, .inl (cI, N, .inl z0))]) → va_S A H0 H1 locs → W p l e R s m args below meth c H1 locs (cells + 1) (slots + N) Q (F0 m (pc + 2) ls (.ref q :: rest))) : W p l e R s m args below meth c H locs cells slots Q (F0 m pc ls (.int n :: rest)) :=
  va_newa hx hb (atype := .int) (hC.2.2.2.2.2.use (i := 114) (by decide +kernel) rfl args) (ty := .int) rfl hC.1 hP hD hS hA (a0 := (N, .inl z0)) (fun _ => rfl) hn hN (by show N * 4 ≤ 536870912; omega) hcells hslots hdg (fun q cA H1 hK hP1 hD1 hS1 => by
    have hk := kt_last hK
    have e9 : cA = cI := hC.2.1 cA hk.2
    subst e9
    exact kk q H1 hk hP1 hD1 hS1)
theorem n_char (hx : p.tables.exec = Jvm.exec) (hb : c.code = cc) (hC : KC D cI cC cS s) (hP : va_P D vwCl ws H) (hD : va_D A ws) (hS : va_S A H0 H locs) (hA : ∀ q, H0.size ≤ q → A q) (N : Nat) {n : Int32} (hn : ¬ n < 0) (hN : n.toNatClampNeg = N) (hN2 : N ≤ 64) (hcells : cells + 1 ≤ R.cells) (hslots : slots + N ≤ R.slots) (hdg : decode cc pc = .ok (.newarray .char, 2))
    (kk : ∀ (q : Nat) (H1 : Heap), KT s cC .char → va_P D vwCl (ws ++ [(q, .inl (cC, N, .inl z0))]) H1 → va_D A (ws ++ [(q, .inl (cC, N, .inl z0))]) → va_S A H0 H1 locs → W p l e R s m args below meth c H1 locs (cells + 1) (slots + N) Q (F0 m (pc + 2) ls (.ref q :: rest))) : W p l e R s m args below meth c H locs cells slots Q (F0 m pc ls (.int n :: rest)) :=
  va_newa hx hb (atype := .char) (hC.2.2.2.2.2.use (i := 73) (by decide +kernel) rfl args) (ty := .char) rfl hC.1 hP hD hS hA (a0 := (N, .inl z0)) (fun _ => rfl) hn hN (by show N * 2 ≤ 536870912; omega) hcells hslots hdg (fun q cA H1 hK hP1 hD1 hS1 => by
    have hk := kt_last hK
    have e9 : cA = cC := hC.2.2.1 cA hk.2
    subst e9
    exact kk q H1 hk hP1 hD1 hS1)
theorem n_obj {index : Nat} (hx : p.tables.exec = Jvm.exec) (hb : c.code = cc) (hown : s.vm.findClass own = some m.cls) (hcl : lw_tbl[q]? = some (.classLink own index RX2)) (hC : KC D cI cC cS s) (hP : va_P D vwCl ws H) (hD : va_D A ws) (hS : va_S A H0 H locs) (hA : ∀ q, H0.size ≤ q → A q) (N : Nat) {n : Int32} (hn : ¬ n < 0) (hN : n.toNatClampNeg = N) (hN2 : N ≤ 64) (hcells : cells + 1 ≤ R.cells) (hslots : slots + N ≤ R.slots) (hdg : decode cc pc = .ok (.anewarray index, 3))
    (kk : ∀ (q : Nat) (H1 : Heap), KT s cS (.object RX2) → va_P D vwCl (ws ++ [(q, .inl (cS, N, .inr (.inr (.inr (.inr (fun _ => none))))))]) H1 → va_D A (ws ++ [(q, .inl (cS, N, .inr (.inr (.inr (.inr (fun _ => none))))))]) → va_S A H0 H1 locs → W p l e R s m args below meth c H1 locs (cells + 1) (slots + N) Q (F0 m (pc + 3) ls (.ref q :: rest))) : W p l e R s m args below meth c H locs cells slots Q (F0 m pc ls (.int n :: rest)) :=
  va_newq hx hb (C := RX2) hown (hC.2.2.2.2.2.use hcl rfl args) hC.2.2.2.2.1 hC.1 hP hD hS hA hn hN (by omega) hcells hslots hdg (fun q cA H1 hK hP1 hD1 hS1 => by
    have hk := kt_last hK
    obtain ⟨kA, comp, k1, k2, k3, k4⟩ := hk.2
    have e9 : cA = cS := hC.2.2.2.1 cA k4
    subst e9
    exact kk q H1 ⟨hk.1, kA, comp, k1, k2, k3, k4⟩ hP1 hD1 hS1)
end LI
theorem oi_code : lw_tbl[57]? = some (.code Lib.objectInit ⟨#[0xb1]⟩ 1 none) := by decide +kernel
theorem oi_inst : lw_tbl[56]? = some (.instanceMethod Lib.objectInit) := by decide +kernel
theorem KC.k1 {D : va_G} {cI cC cS : ClassId} {U : State} (h : KC D cI cC cS U) {cA : ClassId} {ty : FieldType} (k : KT U cA ty) : va_K D vwCl [(cA, ty)] U := ⟨h.1.1, fun i x hx => by
  have hz : i < 1 := (List.getElem?_eq_some_iff.mp hx).1
  rw [show i = 0 by omega] at hx
  cases hx
  exact k⟩
theorem v_X3_init : cI9 yX3_init cX3_init 1 0 := ⟨List.mem_of_getElem? (i := 54) (by decide +kernel), List.mem_of_getElem? (i := 53) (by decide +kernel), List.mem_of_getElem? (i := 37) (by decide +kernel), by decide +kernel, by decide +kernel, by decide +kernel, rfl⟩
theorem v_X1_init : cI9 yX1_init cX1_init 1 0 := ⟨List.mem_of_getElem? (i := 62) (by decide +kernel), List.mem_of_getElem? (i := 61) (by decide +kernel), List.mem_of_getElem? (i := 38) (by decide +kernel), by decide +kernel, by decide +kernel, by decide +kernel, rfl⟩
theorem v_X0_init : cI9 yX0_init cX0_init 2 0 := ⟨List.mem_of_getElem? (i := 78) (by decide +kernel), List.mem_of_getElem? (i := 77) (by decide +kernel), List.mem_of_getElem? (i := 39) (by decide +kernel), by decide +kernel, by decide +kernel, by decide +kernel, rfl⟩
theorem v_X2_init : cI9 yX2_init cX2_init 1 0 := ⟨List.mem_of_getElem? (i := 85) (by decide +kernel), List.mem_of_getElem? (i := 84) (by decide +kernel), List.mem_of_getElem? (i := 40) (by decide +kernel), by decide +kernel, by decide +kernel, by decide +kernel, rfl⟩
theorem v_X4_init : cI9 yX4_init cX4_init 1 0 := ⟨List.mem_of_getElem? (i := 567) (by decide +kernel), List.mem_of_getElem? (i := 566) (by decide +kernel), List.mem_of_getElem? (i := 41) (by decide +kernel), by decide +kernel, by decide +kernel, by decide +kernel, rfl⟩
set_option maxHeartbeats 8000000 in
set_option maxRecDepth 100000 in
/-- new Stick -/
theorem c_X2_init (l : Launch) (D : va_G) (cI cC cS : ClassId) (h0 sz : Nat) : Met l yX2_init (w1 yX2_init cX2_init 1 none) ({ frames := 1, cells := 2, slots := 36, locals := 12 }) (va_Pc [.ref h0] (fun U => U.heap.size = sz ∧ va_P D vwCl [(h0, .inr (2, [.int 0, .int 0, .int 0, .null, .null, .int 0]))] U.heap ∧ KC D cI cC cS U ∧ va_D (fun _ => True) [(h0, .inr (2, [.int 0, .int 0, .int 0, .null, .null, .int 0]))])) (va_Qv (fun _ : Nat × Nat => True) (fun u t => va_P D vwCl [(h0, .inr (2, [.int 0, .int 0, .int 0, .ref (u.1), .ref (u.2), .int 0])), ((u.1), .inl (cI, 5, .inl z0)), ((u.2), .inl (cI, 31, .inl z0))] t.heap ∧ va_D (va_A [(h0, .inr (2, [.int 0, .int 0, .int 0, .null, .null, .int 0]))] sz) [(h0, .inr (2, [.int 0, .int 0, .int 0, .ref (u.1), .ref (u.2), .int 0])), ((u.1), .inl (cI, 5, .inl z0)), ((u.2), .inl (cI, 31, .inl z0))] ∧ True) (va_A [(h0, .inr (2, [.int 0, .int 0, .int 0, .null, .null, .int 0]))] sz)) 2 36 (va_A [(h0, .inr (2, [.int 0, .int 0, .int 0, .null, .null, .int 0]))] sz) := by
  refine met_ofI [.ref h0] [(0, .ref h0)] (by decide) (Nat.le_of_ble_eq_true rfl) rfl ?_
  intro p e s m below meth c hx hb hr hown hml hlocks hin hB0 ls hl
  obtain ⟨hsz, hP, hC, hD0⟩ := hB0
  have hG : GW s := hC.2.2.2.2.2
  subst hsz
  have hD := hD0.self (sz := s.heap.size)
  generalize hAe : va_A [(h0, .inr (2, [.int 0, .int 0, .int 0, .null, .null, .int 0]))] s.heap.size = A at hD ⊢
  have hA : ∀ q : Nat, s.heap.size ≤ q → A q := fun q h => by rw [← hAe]; exact Or.inr h
  have hS : va_S A s.heap s.heap [] := va_S.rf
  refine lv_aload_n hx hb dX2_init_0 rfl (lv_at hl 0 rfl) ?_
  refine W.objInit hx hb hown (hG.use (i := 86) (by decide +kernel) rfl _) (hG.use oi_inst rfl _) (hG.use oi_code rfl _) rfl (by rw [hml]; exact hl.1) rfl dX2_init_1 (Nat.le_of_ble_eq_true rfl) (Nat.le_of_ble_eq_true rfl) ?_
  refine W.eq (g2 := F0 m 4 ls []) rfl ?_
  refine lv_aload_n hx hb dX2_init_4 rfl (lv_at hl 0 rfl) ?_
  refine lv_iconst (v := 0) hx hb dX2_init_5 (by decide) ?_
  refine va_put (D := D) (cl := vwCl) (ci := 2) (v := .int 0) (ty := tyX2 0) (C := RX2) (T := TX2) (N := 6) hx hb (Ts := u_ws RX2 TX2 6) (fun w hw => hG w (inX2 w hw).1 (inX2 w hw).2 _) (fun _ h => h) tyX2 tyX2_ok nmX2 hown hC.1 hP hD hS 0 rfl rfl 0 (by decide) (hG.use (i := 87) (by decide +kernel) rfl _) (fun _ h9 => h9) rfl (by decide +kernel) rfl rfl (Nat.le_of_ble_eq_true rfl) dX2_init_6 (fun H locs hP hD hS => ?_)
  have hP : va_P D vwCl [(h0, .inr (2, [.int 0, .int 0, .int 0, .null, .null, .int 0]))] H := hP
  have hD : va_D A [(h0, .inr (2, [.int 0, .int 0, .int 0, .null, .null, .int 0]))] := hD
  refine lv_aload_n hx hb dX2_init_9 rfl (lv_at hl 0 rfl) ?_
  refine lv_iconst (v := 0) hx hb dX2_init_10 (by decide) ?_
  refine va_put (D := D) (cl := vwCl) (ci := 2) (v := .int 0) (ty := tyX2 1) (C := RX2) (T := TX2) (N := 6) hx hb (Ts := u_ws RX2 TX2 6) (fun w hw => hG w (inX2 w hw).1 (inX2 w hw).2 _) (fun _ h => h) tyX2 tyX2_ok nmX2 hown hC.1 hP hD hS 0 rfl rfl 1 (by decide) (hG.use (i := 90) (by decide +kernel) rfl _) (fun _ h9 => h9) rfl (by decide +kernel) rfl rfl (Nat.le_of_ble_eq_true rfl) dX2_init_11 (fun H locs hP hD hS => ?_)
  have hP : va_P D vwCl [(h0, .inr (2, [.int 0, .int 0, .int 0, .null, .null, .int 0]))] H := hP
  have hD : va_D A [(h0, .inr (2, [.int 0, .int 0, .int 0, .null, .null, .int 0]))] := hD
  refine lv_aload_n hx hb dX2_init_14 rfl (lv_at hl 0 rfl) ?_
  refine lv_iconst (v := 0) hx hb dX2_init_15 (by decide) ?_
  refine va_put (D := D) (cl := vwCl) (ci := 2) (v := .int 0) (ty := tyX2 2) (C := RX2) (T := TX2) (N := 6) hx hb (Ts := u_ws RX2 TX2 6) (fun w hw => hG w (inX2 w hw).1 (inX2 w hw).2 _) (fun _ h => h) tyX2 tyX2_ok nmX2 hown hC.1 hP hD hS 0 rfl rfl 2 (by decide) (hG.use (i := 92) (by decide +kernel) rfl _) (fun _ h9 => h9) rfl (by decide +kernel) rfl rfl (Nat.le_of_ble_eq_true rfl) dX2_init_16 (fun H locs hP hD hS => ?_)
  have hP : va_P D vwCl [(h0, .inr (2, [.int 0, .int 0, .int 0, .null, .null, .int 0]))] H := hP
  have hD : va_D A [(h0, .inr (2, [.int 0, .int 0, .int 0, .null, .null, .int 0]))] := hD
  refine lv_aload_n hx hb dX2_init_19 rfl (lv_at hl 0 rfl) ?_
  refine lv_iconst (v := 5) hx hb dX2_init_20 (by decide) ?_
  refine n_int hx hb hC hP hD hS hA 5 (by decide) (by decide) (by decide) (Nat.le_of_ble_eq_true rfl) (Nat.le_of_ble_eq_true rfl) dX2_init_21 (fun q1_ H hKI hP hD hS => ?_)
  have hP : va_P D vwCl [(h0, .inr (2, [.int 0, .int 0, .int 0, .null, .null, .int 0])), (q1_, .inl (cI, 5, .inl z0))] H := hP
  have hD : va_D A [(h0, .inr (2, [.int 0, .int 0, .int 0, .null, .null, .int 0])), (q1_, .inl (cI, 5, .inl z0))] := hD
  refine W.widen (k := 1) (n := 5) (by decide) (by decide) ?_
  refine va_putF (D := D) (cl := vwCl) (ci := 2) (v := .ref q1_) (ty := tyX2 3) (C := RX2) (T := TX2) (N := 6) hx hb (Ts := u_ws RX2 TX2 6) (fun w hw => hG w (inX2 w hw).1 (inX2 w hw).2 _) (fun _ h => h) tyX2 tyX2_ok nmX2 hown hC.1 hP hD hS 0 rfl rfl 3 (by decide) (hG.use (i := 95) (by decide +kernel) rfl _) (fun _ h9 => h9) rfl hin rfl (by decide +kernel) rfl rfl (Nat.le_of_ble_eq_true rfl) dX2_init_23 (fun H locs hP hD hS => ?_)
  have hP : va_P D vwCl [(h0, .inr (2, [.int 0, .int 0, .int 0, .ref q1_, .null, .int 0])), (q1_, .inl (cI, 5, .inl z0))] H := hP
  have hD : va_D A [(h0, .inr (2, [.int 0, .int 0, .int 0, .ref q1_, .null, .int 0])), (q1_, .inl (cI, 5, .inl z0))] := hD
  refine lv_aload_n hx hb dX2_init_26 rfl (lv_at hl 0 rfl) ?_
  refine lv_bipush (v := 31) hx hb dX2_init_27 (by decide) ?_
  refine n_int hx hb hC hP hD hS hA 31 (by decide) (by decide) (by decide) (Nat.le_of_ble_eq_true rfl) (Nat.le_of_ble_eq_true rfl) dX2_init_29 (fun q2_ H hKI hP hD hS => ?_)
  have hP : va_P D vwCl [(h0, .inr (2, [.int 0, .int 0, .int 0, .ref q1_, .null, .int 0])), (q1_, .inl (cI, 5, .inl z0)), (q2_, .inl (cI, 31, .inl z0))] H := hP
  have hD : va_D A [(h0, .inr (2, [.int 0, .int 0, .int 0, .ref q1_, .null, .int 0])), (q1_, .inl (cI, 5, .inl z0)), (q2_, .inl (cI, 31, .inl z0))] := hD
  refine W.widen (k := 2) (n := 36) (by decide) (by decide) ?_
  refine va_putF (D := D) (cl := vwCl) (ci := 2) (v := .ref q2_) (ty := tyX2 4) (C := RX2) (T := TX2) (N := 6) hx hb (Ts := u_ws RX2 TX2 6) (fun w hw => hG w (inX2 w hw).1 (inX2 w hw).2 _) (fun _ h => h) tyX2 tyX2_ok nmX2 hown hC.1 hP hD hS 0 rfl rfl 4 (by decide) (hG.use (i := 96) (by decide +kernel) rfl _) (fun _ h9 => h9) rfl hin rfl (by decide +kernel) rfl rfl (Nat.le_of_ble_eq_true rfl) dX2_init_31 (fun H locs hP hD hS => ?_)
  have hP : va_P D vwCl [(h0, .inr (2, [.int 0, .int 0, .int 0, .ref q1_, .ref q2_, .int 0])), (q1_, .inl (cI, 5, .inl z0)), (q2_, .inl (cI, 31, .inl z0))] H := hP
  have hD : va_D A [(h0, .inr (2, [.int 0, .int 0, .int 0, .ref q1_, .ref q2_, .int 0])), (q1_, .inl (cI, 5, .inl z0)), (q2_, .inl (cI, 31, .inl z0))] := hD
  refine lv_aload_n hx hb dX2_init_34 rfl (lv_at hl 0 rfl) ?_
  refine lv_iconst (v := 0) hx hb dX2_init_35 (by decide) ?_
  refine va_put (D := D) (cl := vwCl) (ci := 2) (v := .int 0) (ty := tyX2 5) (C := RX2) (T := TX2) (N := 6) hx hb (Ts := u_ws RX2 TX2 6) (fun w hw => hG w (inX2 w hw).1 (inX2 w hw).2 _) (fun _ h => h) tyX2 tyX2_ok nmX2 hown hC.1 hP hD hS 0 rfl rfl 5 (by decide) (hG.use (i := 98) (by decide +kernel) rfl _) (fun _ h9 => h9) rfl (by decide +kernel) rfl rfl (Nat.le_of_ble_eq_true rfl) dX2_init_36 (fun H locs hP hD hS => ?_)
  have hP : va_P D vwCl [(h0, .inr (2, [.int 0, .int 0, .int 0, .ref q1_, .ref q2_, .int 0])), (q1_, .inl (cI, 5, .inl z0)), (q2_, .inl (cI, 31, .inl z0))] H := hP
  have hD : va_D A [(h0, .inr (2, [.int 0, .int 0, .int 0, .ref q1_, .ref q2_, .int 0])), (q1_, .inl (cI, 5, .inl z0)), (q2_, .inl (cI, 31, .inl z0))] := hD
  have hP9 := hP.sub (ws' := [(h0, .inr (2, [.int 0, .int 0, .int 0, .ref q1_, .ref q2_, .int 0])), (q1_, .inl (cI, 5, .inl z0)), (q2_, .inl (cI, 31, .inl z0))]) [0, 1, 2] rfl
  have hD9 := hD.sub (ws' := [(h0, .inr (2, [.int 0, .int 0, .int 0, .ref q1_, .ref q2_, .int 0])), (q1_, .inl (cI, 5, .inl z0)), (q2_, .inl (cI, 31, .inl z0))]) [0, 1, 2] (by decide) rfl
  exact W.vret hx hb hr (fun t ht hW => ⟨⟨(q1_, q2_), rfl, trivial, by rw [ht]; exact hP9, hD9, trivial⟩, hS.F ht⟩) hS.2.2 dX2_init_39
set_option maxHeartbeats 8000000 in
set_option maxRecDepth 100000 in
/-- new Page -/
theorem c_X1_init (l : Launch) (D : va_G) (cI cC cS : ClassId) (h0 sz : Nat) : Met l yX1_init (w1 yX1_init cX1_init 1 none) ({ frames := 1, cells := 1, slots := 32, locals := 12 }) (va_Pc [.ref h0] (fun U => U.heap.size = sz ∧ va_P D vwCl [(h0, .inr (1, [.null, .int 0]))] U.heap ∧ KC D cI cC cS U ∧ va_D (fun _ => True) [(h0, .inr (1, [.null, .int 0]))])) (va_Qv (fun _ : Nat => True) (fun u t => va_P D vwCl [(h0, .inr (1, [.ref u, .int 0])), (u, .inl (cC, 32, .inl z0))] t.heap ∧ va_D (va_A [(h0, .inr (1, [.null, .int 0]))] sz) [(h0, .inr (1, [.ref u, .int 0])), (u, .inl (cC, 32, .inl z0))] ∧ KT t cC .char) (va_A [(h0, .inr (1, [.null, .int 0]))] sz)) 1 32 (va_A [(h0, .inr (1, [.null, .int 0]))] sz) := by
  refine met_ofI [.ref h0] [(0, .ref h0)] (by decide) (Nat.le_of_ble_eq_true rfl) rfl ?_
  intro p e s m below meth c hx hb hr hown hml hlocks hin hB0 ls hl
  obtain ⟨hsz, hP, hC, hD0⟩ := hB0
  have hG : GW s := hC.2.2.2.2.2
  subst hsz
  have hD := hD0.self (sz := s.heap.size)
  generalize hAe : va_A [(h0, .inr (1, [.null, .int 0]))] s.heap.size = A at hD ⊢
  have hA : ∀ q : Nat, s.heap.size ≤ q → A q := fun q h => by rw [← hAe]; exact Or.inr h
  have hS : va_S A s.heap s.heap [] := va_S.rf
  refine lv_aload_n hx hb dX1_init_0 rfl (lv_at hl 0 rfl) ?_
  refine W.objInit hx hb hown (hG.use (i := 63) (by decide +kernel) rfl _) (hG.use oi_inst rfl _) (hG.use oi_code rfl _) rfl (by rw [hml]; exact hl.1) rfl dX1_init_1 (Nat.le_of_ble_eq_true rfl) (Nat.le_of_ble_eq_true rfl) ?_
  refine W.eq (g2 := F0 m 4 ls []) rfl ?_
  refine lv_aload_n hx hb dX1_init_4 rfl (lv_at hl 0 rfl) ?_
  refine lv_bipush (v := 32) hx hb dX1_init_5 (by decide) ?_
  refine n_char hx hb hC hP hD hS hA 32 (by decide) (by decide) (by decide) (Nat.le_of_ble_eq_true rfl) (Nat.le_of_ble_eq_true rfl) dX1_init_7 (fun q1_ H hKC hP hD hS => ?_)
  have hP : va_P D vwCl [(h0, .inr (1, [.null, .int 0])), (q1_, .inl (cC, 32, .inl z0))] H := hP
  have hD : va_D A [(h0, .inr (1, [.null, .int 0])), (q1_, .inl (cC, 32, .inl z0))] := hD
  refine W.widen (k := 1) (n := 32) (by decide) (by decide) ?_
  refine va_putF (D := D) (cl := vwCl) (ci := 1) (v := .ref q1_) (ty := tyX1 0) (C := RX1) (T := TX1) (N := 2) hx hb (Ts := u_ws RX1 TX1 2) (fun w hw => hG w (inX1 w hw).1 (inX1 w hw).2 _) (fun _ h => h) tyX1 tyX1_ok nmX1 hown hC.1 hP hD hS 0 rfl rfl 0 (by decide) (hG.use (i := 64) (by decide +kernel) rfl _) (fun _ h9 => h9) rfl hin rfl (by decide +kernel) rfl rfl (Nat.le_of_ble_eq_true rfl) dX1_init_9 (fun H locs hP hD hS => ?_)
  have hP : va_P D vwCl [(h0, .inr (1, [.ref q1_, .int 0])), (q1_, .inl (cC, 32, .inl z0))] H := hP
  have hD : va_D A [(h0, .inr (1, [.ref q1_, .int 0])), (q1_, .inl (cC, 32, .inl z0))] := hD
  refine lv_aload_n hx hb dX1_init_12 rfl (lv_at hl 0 rfl) ?_
  refine lv_iconst (v := 0) hx hb dX1_init_13 (by decide) ?_
  refine va_put (D := D) (cl := vwCl) (ci := 1) (v := .int 0) (ty := tyX1 1) (C := RX1) (T := TX1) (N := 2) hx hb (Ts := u_ws RX1 TX1 2) (fun w hw => hG w (inX1 w hw).1 (inX1 w hw).2 _) (fun _ h => h) tyX1 tyX1_ok nmX1 hown hC.1 hP hD hS 0 rfl rfl 1 (by decide) (hG.use (i := 66) (by decide +kernel) rfl _) (fun _ h9 => h9) rfl (by decide +kernel) rfl rfl (Nat.le_of_ble_eq_true rfl) dX1_init_14 (fun H locs hP hD hS => ?_)
  have hP : va_P D vwCl [(h0, .inr (1, [.ref q1_, .int 0])), (q1_, .inl (cC, 32, .inl z0))] H := hP
  have hD : va_D A [(h0, .inr (1, [.ref q1_, .int 0])), (q1_, .inl (cC, 32, .inl z0))] := hD
  have hP9 := hP.sub (ws' := [(h0, .inr (1, [.ref q1_, .int 0])), (q1_, .inl (cC, 32, .inl z0))]) [0, 1] rfl
  have hD9 := hD.sub (ws' := [(h0, .inr (1, [.ref q1_, .int 0])), (q1_, .inl (cC, 32, .inl z0))]) [0, 1] (by decide) rfl
  exact W.vret hx hb hr (fun t ht hW => ⟨⟨q1_, rfl, trivial, by rw [ht]; exact hP9, hD9, hKC.moved hW.alike⟩, hS.F ht⟩) hS.2.2 dX1_init_17
