/-! ===== LAYER 1: the words that hold everywhere, the worlds of the class and of the reference, rows over them ===== -/
/-- every good word of the tables holds, whatever the arguments -/
def GW (U : State) : Prop := ∀ w, w ∈ lw_tbl → goodWord w = true → ∀ a : Array Value, w.before a U = true
theorem GW.warm {s U : State} (hW : s.WarmedH U.vm) (h : GW s) : GW U := fun w hw hg a =>
  pay_in (big := [w]) (ws := [w]) (args := #[]) (s := s) (fun w' h' => by rw [List.mem_singleton.mp h']; exact h w hw hg #[]) (fun w' h' => ⟨h', by rw [List.mem_singleton.mp h']; exact good_of_word hg⟩) w (List.mem_singleton.mpr rfl) a U hW
theorem GW.use {U : State} (h : GW U) {w : Cond} {i : Nat} (hi : lw_tbl[i]? = some w) (hg : goodWord w = true) (a : Array Value) : w.before a U = true := h w (List.mem_of_getElem? hi) hg a
/-- the private members that nest mates use -/
def nws : List Cond := [.fieldLinkNest RX3 124 RX0 "changes" "I" RX3, .fieldLinkNest RX3 148 RX0 "seenCount" "I" RX3, .fieldLinkNest RX3 192 RX1 "letters" "[C" RX3, .fieldLinkNest RX3 42 RX1 "length" "I" RX3, .fieldLinkNest RX3 57 RX0 "stickCount" "I" RX3, .fieldLinkNest RX3 64 RX0 "sticks" "[LStickWays$Stick;" RX3, .fieldLinkNest RX3 74 RX2 "kind" "I" RX3, .fieldLinkNest RX3 77 RX2 "begin" "I" RX3, .fieldLinkNest RX3 80 RX2 "stepCount" "I" RX3, .fieldLinkNest RX3 83 RX0 "lateBy" "[I" RX3, .fieldLinkNest RX3 89 RX2 "trail" "[I" RX3, .fieldLinkNest RX3 92 RX2 "places" "I" RX3, .fieldLinkNest RX0 59 RX2 "kind" "I" RX3, .fieldLinkNest RX0 70 RX2 "stepCount" "I" RX3, .fieldLinkNest RX0 94 RX2 "places" "I" RX3, .methodLinkNest RX0 103 yX3_stepsBetween RX3, .methodLinkNest RX1 31 yX3_isPlace RX3, .methodLinkNest RX2 46 yX3_stepFrom RX3]
def NN (U : State) : Prop := ∀ w, w ∈ nws → va_Nw w U
theorem NN.warm {s U : State} (hW : s.WarmedH U.vm) (h : NN s) : NN U := by
  intro w hw
  have h0 := h w hw
  simp only [nws, List.mem_cons, List.not_mem_nil, or_false] at hw
  rcases hw with rfl | rfl | rfl | rfl | rfl | rfl | rfl | rfl | rfl | rfl | rfl | rfl | rfl | rfl | rfl | rfl | rfl | rfl
  all_goals first | exact va_Nw.warmF hW h0 | exact va_Nw.warmM hW h0
theorem NN.use {U : State} (h : NN U) {w : Cond} (i : Nat) (hi : nws[i]? = some w) : va_Nw w U := h w (List.mem_of_getElem? hi)
/-- what is fixed: classes' numbers, addresses of the class's cells, of the reference's, of the texts and their bytes, array classes -/
abbrev St : Type := Nat → Nat → Int32
def Gam : Type := va_G × (Nat → Nat) × (Nat → Nat) × (Nat → Nat) × (Nat → Nat) × (Nat → ClassId)
def gD (G : Gam) : va_G := G.1
def ga (G : Gam) : Nat → Nat := G.2.1
def gm (G : Gam) : Nat → Nat := G.2.2.1
def gK (G : Gam) : Nat → Nat := G.2.2.2.1
def gV (G : Gam) : Nat → Nat := G.2.2.2.2.1
def gI (G : Gam) : ClassId := G.2.2.2.2.2 0
def gC (G : Gam) : ClassId := G.2.2.2.2.2 1
def gS (G : Gam) : ClassId := G.2.2.2.2.2 2
abbrev tX (G : Gam) : List (ClassId × FieldType) := [(gI G, .int), (gC G, .char), (gS G, .object RX2)]
def up2 (σ : St) (i j : Nat) (v : Int32) : St := fun a b => if a = i ∧ b = j then v else σ a b
theorem up2_row (σ : St) (i j : Nat) (v : Int32) : up2 σ i j v i = upd (σ i) j v := by
  funext b; simp [up2, upd]
theorem up2_ne {σ : St} {i j a : Nat} {v : Int32} (h : a ≠ i) : up2 σ i j v a = σ a := by
  funext b; simp [up2, h]
theorem up2_eq {σ : St} {i j : Nat} {v : Int32} : up2 σ i j v i j = v := by simp [up2]
theorem up2_nf {σ : St} {i j a b : Nat} {v : Int32} (h : b ≠ j) : up2 σ i j v a b = σ a b := by simp [up2, h]
theorem up2_nr {σ : St} {i j a b : Nat} {v : Int32} (h : a ≠ i) : up2 σ i j v a b = σ a b := by simp [up2, h]
/-- n cells at the addresses a, holding f -/
def ww (n : Nat) (a : Nat → Nat) (f : Nat → va_E) : va_W := (List.range n).map fun i => (a i, f i)
theorem ww_len {n : Nat} {a : Nat → Nat} {f : Nat → va_E} : (ww n a f).length = n := by simp [ww]
theorem ww_get {n : Nat} {a : Nat → Nat} {f : Nat → va_E} {i : Nat} (h : i < n) : (ww n a f)[i]? = some (a i, f i) := by simp [ww, h]
theorem ww_inv {n : Nat} {a : Nat → Nat} {f : Nat → va_E} {i : Nat} {q : Nat × va_E} (h : (ww n a f)[i]? = some q) : i < n ∧ q = (a i, f i) := by
  have hl : i < n := by have := (List.getElem?_eq_some_iff.mp h).1; rwa [ww_len] at this
  rw [ww_get hl] at h
  exact ⟨hl, (Option.some.inj h).symm⟩
theorem ww_set {n : Nat} {a : Nat → Nat} {f g : Nat → va_E} {i : Nat} {e : va_E} (hi : i < n) (he : g i = e) (ho : ∀ j, j < n → j ≠ i → g j = f j) : (ww n a f).set i (a i, e) = ww n a g := by
  apply List.ext_getElem?
  intro j
  by_cases hj : j = i
  · subst hj
    rw [List.getElem?_set_self (by rw [ww_len]; exact hi), ww_get hi, he]
  · rw [List.getElem?_set_ne (fun z => hj z.symm)]
    by_cases hl : j < n
    · rw [ww_get hl, ww_get hl, ho j hl hj]
    · rw [List.getElem?_eq_none (by rw [ww_len]; omega), List.getElem?_eq_none (by rw [ww_len]; omega)]
def AA (n : Nat) (a : Nat → Nat) : Nat → Prop := fun q => ∃ i, i < n ∧ q = a i
def II (n : Nat) (a : Nat → Nat) : Prop := ∀ i j, i < n → j < n → a i = a j → i = j
theorem ww_D {n : Nat} {a : Nat → Nat} (h : II n a) (f : Nat → va_E) : va_D (AA n a) (ww n a f) := by
  refine ⟨fun i j p q hi hj e => ?_, fun k q hk => ?_⟩
  · obtain ⟨h1, rfl⟩ := ww_inv hi
    obtain ⟨h2, rfl⟩ := ww_inv hj
    exact h i j h1 h2 e
  · obtain ⟨h1, rfl⟩ := ww_inv hk
    exact ⟨k, h1, rfl⟩
/-- the class's cells: 0 the object, 1 page, 2 letters, 3 drawn, hills h at 5h+4 .. 5h+8, stick j = 6h+k at 3j+14 .. 3j+16 -/
def cX (G : Gam) (r : Nat → Int32) (i : Nat) : va_E :=
  if i < 14 then
    (match i with
    | 0 => .inr (3, [.ref (ga G 1), .ref (ga G 4), .ref (ga G 9), .ref (ga G 3), .int (r 4), .int (r 5)])
    | 1 => .inr (1, [.ref (ga G 2), .int (r 1)])
    | 2 => .inl (gC G, 32, .inl r)
    | 3 => .inl (gI G, 6, .inl r)
    | 4 => .inr (0, [.ref (ga G 5), .ref (ga G 6), .ref (ga G 7), .ref (ga G 8), .int (r 4), .int (r 5), .int (r 6)])
    | 5 => .inl (gS G, 6, .inr (.inr (.inr (.inr fun j => some (ga G (3 * (6 * 0 + j) + 14))))))
    | 6 => .inl (gI G, 6, .inl r)
    | 7 => .inl (gI G, 8, .inl r)
    | 8 => .inl (gI G, 8, .inl r)
    | 9 => .inr (0, [.ref (ga G 10), .ref (ga G 11), .ref (ga G 12), .ref (ga G 13), .int (r 4), .int (r 5), .int (r 6)])
    | 10 => .inl (gS G, 6, .inr (.inr (.inr (.inr fun j => some (ga G (3 * (6 * 1 + j) + 14))))))
    | 11 => .inl (gI G, 6, .inl r)
    | 12 => .inl (gI G, 8, .inl r)
    | _ => .inl (gI G, 8, .inl r))
  else if (i - 14) % 3 = 0 then .inr (2, [.int (r 0), .int (r 1), .int (r 2), .ref (ga G (i + 1)), .ref (ga G (i + 2)), .int (r 5)])
  else if (i - 14) % 3 = 1 then .inl (gI G, 5, .inl r)
  else .inl (gI G, 31, .inl r)
def wX (G : Gam) (σ : St) : va_W := ww 50 (ga G) (fun i => cX G (σ i) i)
def aX (G : Gam) : Nat → Prop := AA 50 (ga G)
def PX (G : Gam) (σ : St) (H : Heap) : Prop := va_P (gD G) vwCl (wX G σ) H
def CX (G : Gam) (U : State) : Prop := va_K (gD G) vwCl (tX G) U ∧ II 50 (ga G) ∧ GW U ∧ NN U
def WX (G : Gam) (σ : St) (U : State) (H : Heap) : Prop := PX G σ H ∧ CX G U
/-- the reference's cells: 0 the object, 1 page, 2 read, 3 rows, 4 seenBy, 5 sights, 6 parts, 7 savedRows, 8 keptRows, 9 keptSights -/
def lM (i : Nat) : Nat := match i with
  | 1 => 32
  | 2 => 36
  | 3 => 54
  | 4 => 6
  | 5 => 16
  | 6 => 16
  | 7 => 54
  | 8 => 54
  | _ => 16
def cM (G : Gam) (hs : Int64) (r : Nat → Int32) (i : Nat) : va_E :=
  if i = 0 then .inr (4, [.ref (gm G 1), .int (r 1), .ref (gm G 2), .int (r 3), .int (r 4), .int (r 5), .int (r 6), .int (r 7), .ref (gm G 3), .ref (gm G 4), .int (r 10), .ref (gm G 5), .ref (gm G 6), .int (r 13), .ref (gm G 7), .int (r 15), .int (r 16), .int (r 17), .int (r 18), .ref (gm G 8), .ref (gm G 9), .long hs])
  else .inl (gI G, lM i, .inl r)
def wM (G : Gam) (μ : St) (hs : Int64) : va_W := ww 10 (gm G) (fun i => cM G hs (μ i) i)
def aM (G : Gam) : Nat → Prop := AA 10 (gm G)
def PM (G : Gam) (μ : St) (hs : Int64) (H : Heap) : Prop := va_P (gD G) vwCl (wM G μ hs) H
def CM (G : Gam) (U : State) : Prop := va_K (gD G) vwCl (tX G) U ∧ II 10 (gm G) ∧ GW U
def WM (G : Gam) (μ : St) (hs : Int64) (U : State) (H : Heap) : Prop := PM G μ hs H ∧ CM G U
/-! moves of the context -/
theorem CX.warm {G : Gam} {s U : State} (hW : s.WarmedH U.vm) (h : CX G s) : CX G U := ⟨va_K.moved hW.alike h.1, h.2.1, h.2.2.1.warm hW, h.2.2.2.warm hW⟩
theorem CM.warm {G : Gam} {s U : State} (hW : s.WarmedH U.vm) (h : CM G s) : CM G U := ⟨va_K.moved hW.alike h.1, h.2.1, h.2.2.warm hW⟩
theorem CX.call {G : Gam} {U : State} {g : JFrame} {mk : MethodId} {a : Array Value} (h : CX G U) : CX G (U.calling g mk a) := CX.warm (s := U) (U := U.calling g mk a) (State.WarmedH.refl U) h
theorem CM.call {G : Gam} {U : State} {g : JFrame} {mk : MethodId} {a : Array Value} (h : CM G U) : CM G (U.calling g mk a) := CM.warm (s := U) (U := U.calling g mk a) (State.WarmedH.refl U) h
section LX
variable {p : Program} {l : Launch} {e : Env} {R : Room} {s : State} {m : MethodId} {args : Array Value} {below : List Frame} {meth : Method} {c : Code} {H : Heap} {locs : List Loc} {cells slots : Nat} {Q : State → Prop}
variable {cc : ByteArray} {pc : Nat} {ls : Array Slot} {rest : List Value} {D : va_G} {tys : List (ClassId × FieldType)} {H0 : Heap} {n : Nat} {a : Nat → Nat} {f : Nat → va_E}
theorem wd_get (hx : p.tables.exec = Jvm.exec) (hb : c.code = cc) {own C : String} {T : u_T} {N ci index : Nat} (hown : s.vm.findClass own = some m.cls) (hG : GW s) (hK : va_K D vwCl tys s) (hP : va_P D vwCl (ww n a f) H) {i : Nat} (hi : i < n) {fs : List Value} (hc : f i = .inr (ci, fs)) (hcl : vwCl[ci]? = some (C, T, N)) (hin : ∀ w ∈ u_ws C T N, w ∈ lw_tbl ∧ goodWord w = true) (k : Nat) (hk : k < N) {q : Nat} (hl : lw_tbl[q]? = some (.fieldLink own index (T k).1 (T k).2.1 (T k).2.2.1)) {v : Value} (hv : fs[k]? = some v) (hdg : decode cc pc = .ok (.getfield index, 3))
    (kk : W p l e R s m args below meth c H locs cells slots Q (F0 m (pc + 3) ls (v :: rest))) : W p l e R s m args below meth c H locs cells slots Q (F0 m pc ls (.ref (a i) :: rest)) :=
  va_get hx hb (Ts := u_ws C T N) (fun w hw => hG w (hin w hw).1 (hin w hw).2 args) (fun _ h => h) hown hK hP i (by rw [ww_get hi, hc]) hcl k hk (hG.use hl rfl args) (fun _ h => h) hv hdg kk
theorem wd_getN (hx : p.tables.exec = Jvm.exec) (hb : c.code = cc) {own host C : String} {T : u_T} {N ci index : Nat} (hown : s.vm.findClass own = some m.cls) (hG : GW s) (hK : va_K D vwCl tys s) (hP : va_P D vwCl (ww n a f) H) {i : Nat} (hi : i < n) {fs : List Value} (hc : f i = .inr (ci, fs)) (hcl : vwCl[ci]? = some (C, T, N)) (hin : ∀ w ∈ u_ws C T N, w ∈ lw_tbl ∧ goodWord w = true) (k : Nat) (hk : k < N) (hl : va_Nw (.fieldLinkNest own index (T k).1 (T k).2.1 (T k).2.2.1 host) s) {v : Value} (hv : fs[k]? = some v) (hdg : decode cc pc = .ok (.getfield index, 3))
    (kk : W p l e R s m args below meth c H locs cells slots Q (F0 m (pc + 3) ls (v :: rest))) : W p l e R s m args below meth c H locs cells slots Q (F0 m pc ls (.ref (a i) :: rest)) :=
  va_getN hx hb (Ts := u_ws C T N) (fun w hw => hG w (hin w hw).1 (hin w hw).2 args) (fun _ h => h) hown hK hP i (by rw [ww_get hi, hc]) hcl k hk (va_Nw.use rfl hl) (fun _ h => h) hv hdg kk
theorem wd_put (hx : p.tables.exec = Jvm.exec) (hb : c.code = cc) {own C : String} {T : u_T} {N ci index : Nat} (ty0 : Nat → FieldType) (hty : ∀ k, k < N → parseFieldDescriptor (T k).2.2.1 = some (ty0 k)) (hnm : ∀ a, a < N → ∀ b, b < N → a ≠ b → (T a).2.1 ≠ (T b).2.1) (hown : s.vm.findClass own = some m.cls) (hG : GW s) (hK : va_K D vwCl tys s) (hI : II n a) (hP : va_P D vwCl (ww n a f) H) (hS : va_S (AA n a) H0 H locs) {i : Nat} (hi : i < n) {fs : List Value} (hc : f i = .inr (ci, fs)) (hcl : vwCl[ci]? = some (C, T, N)) (hin : ∀ w ∈ u_ws C T N, w ∈ lw_tbl ∧ goodWord w = true) (k : Nat) (hk : k < N) {q : Nat} (hl : lw_tbl[q]? = some (.fieldLink own index (T k).1 (T k).2.1 (T k).2.2.1)) (hfin : (T k).2.2.2 = false) {ty : FieldType} {v : Value} (hd : parseFieldDescriptor (T k).2.2.1 = some ty) (hn : narrow ty v = v) (hfit : fits ty v = true) (hlen : k < fs.length) {g : Nat → va_E} (hg : g i = .inr (ci, fs.set k v)) (ho : ∀ j, j < n → j ≠ i → g j = f j) (hdg : decode cc pc = .ok (.putfield index, 3))
    (kk : ∀ (H1 : Heap) (locs1 : List Loc), va_P D vwCl (ww n a g) H1 → va_S (AA n a) H0 H1 locs1 → W p l e R s m args below meth c H1 locs1 cells slots Q (F0 m (pc + 3) ls rest)) : W p l e R s m args below meth c H locs cells slots Q (F0 m pc ls (v :: .ref (a i) :: rest)) :=
  va_put hx hb (Ts := u_ws C T N) (fun w hw => hG w (hin w hw).1 (hin w hw).2 args) (fun _ h => h) ty0 hty hnm hown hK hP (ww_D hI f) hS i (by rw [ww_get hi, hc]) hcl k hk (hG.use hl rfl args) (fun _ h => h) hfin hd hn hfit hlen hdg (fun H1 locs1 h1 _ h3 => kk H1 locs1 (by rw [ww_set hi hg ho] at h1; exact h1) h3)
theorem wd_putN (hx : p.tables.exec = Jvm.exec) (hb : c.code = cc) {own host C : String} {T : u_T} {N ci index : Nat} (ty0 : Nat → FieldType) (hty : ∀ k, k < N → parseFieldDescriptor (T k).2.2.1 = some (ty0 k)) (hnm : ∀ a, a < N → ∀ b, b < N → a ≠ b → (T a).2.1 ≠ (T b).2.1) (hown : s.vm.findClass own = some m.cls) (hG : GW s) (hK : va_K D vwCl tys s) (hI : II n a) (hP : va_P D vwCl (ww n a f) H) (hS : va_S (AA n a) H0 H locs) {i : Nat} (hi : i < n) {fs : List Value} (hc : f i = .inr (ci, fs)) (hcl : vwCl[ci]? = some (C, T, N)) (hin : ∀ w ∈ u_ws C T N, w ∈ lw_tbl ∧ goodWord w = true) (k : Nat) (hk : k < N) (hl : va_Nw (.fieldLinkNest own index (T k).1 (T k).2.1 (T k).2.2.1 host) s) (hfin : (T k).2.2.2 = false) {ty : FieldType} {v : Value} (hd : parseFieldDescriptor (T k).2.2.1 = some ty) (hn : narrow ty v = v) (hfit : fits ty v = true) (hlen : k < fs.length) {g : Nat → va_E} (hg : g i = .inr (ci, fs.set k v)) (ho : ∀ j, j < n → j ≠ i → g j = f j) (hdg : decode cc pc = .ok (.putfield index, 3))
    (kk : ∀ (H1 : Heap) (locs1 : List Loc), va_P D vwCl (ww n a g) H1 → va_S (AA n a) H0 H1 locs1 → W p l e R s m args below meth c H1 locs1 cells slots Q (F0 m (pc + 3) ls rest)) : W p l e R s m args below meth c H locs cells slots Q (F0 m pc ls (v :: .ref (a i) :: rest)) :=
  va_putN hx hb (Ts := u_ws C T N) (fun w hw => hG w (hin w hw).1 (hin w hw).2 args) (fun _ h => h) ty0 hty hnm hown hK hP (ww_D hI f) hS i (by rw [ww_get hi, hc]) hcl k hk (va_Nw.use rfl hl) (fun _ h => h) hfin hd hn hfit hlen hdg (fun H1 locs1 h1 _ h3 => kk H1 locs1 (by rw [ww_set hi hg ho] at h1; exact h1) h3)
theorem cl_nI {x : Int32} {k : Nat} (h : x = nI k) (hk : k < 2 ^ 31) : x.toNatClampNeg = k := by rw [h]; exact nI_clamp hk
theorem wd_ald (hx : p.tables.exec = Jvm.exec) (hb : c.code = cc) (hK : va_K D vwCl tys s) (hP : va_P D vwCl (ww n a f) H) (t0 : Nat) {i : Nat} (hi : i < n) {cA : ClassId} {N : Nat} {r : Nat → Int32} (hc : f i = .inl (cA, N, .inl r)) (ht : tys[t0]? = some (cA, .int)) {x : Int32} {k : Nat} (hxk : x = nI k) (hk : k < N) (hN : N ≤ 64) (hdg : decode cc pc = .ok (.iaload, 1))
    (kk : W p l e R s m args below meth c H locs cells slots Q (F0 m (pc + 1) ls (.int (r k) :: rest))) : W p l e R s m args below meth c H locs cells slots Q (F0 m pc ls (.int x :: .ref (a i) :: rest)) :=
  va_iald hx hb hK hP i t0 (by rw [ww_get hi, hc]) ht (by rw [hxk]; exact vp_in_nI hk (by omega)) hdg (by rw [cl_nI hxk (by omega)]; exact kk)
theorem wd_cald (hx : p.tables.exec = Jvm.exec) (hb : c.code = cc) (hK : va_K D vwCl tys s) (hP : va_P D vwCl (ww n a f) H) (t0 : Nat) {i : Nat} (hi : i < n) {cA : ClassId} {N : Nat} {r : Nat → Int32} (hc : f i = .inl (cA, N, .inl r)) (ht : tys[t0]? = some (cA, .char)) {x : Int32} {k : Nat} (hxk : x = nI k) (hk : k < N) (hN : N ≤ 64) (hdg : decode cc pc = .ok (.caload, 1))
    (kk : W p l e R s m args below meth c H locs cells slots Q (F0 m (pc + 1) ls (.int (r k) :: rest))) : W p l e R s m args below meth c H locs cells slots Q (F0 m pc ls (.int x :: .ref (a i) :: rest)) :=
  va_cald hx hb hK hP i t0 (by rw [ww_get hi, hc]) ht (by rw [hxk]; exact vp_in_nI hk (by omega)) hdg (by rw [cl_nI hxk (by omega)]; exact kk)
theorem wd_aald (hx : p.tables.exec = Jvm.exec) (hb : c.code = cc) (hK : va_K D vwCl tys s) (hP : va_P D vwCl (ww n a f) H) (t0 : Nat) {i : Nat} (hi : i < n) {cA : ClassId} {N : Nat} {r : Nat → Option Nat} {C : String} (hc : f i = .inl (cA, N, .inr (.inr (.inr (.inr r))))) (ht : tys[t0]? = some (cA, .object C)) {x : Int32} {k : Nat} (hxk : x = nI k) (hk : k < N) (hN : N ≤ 64) {y : Nat} (hy : r k = some y) (hdg : decode cc pc = .ok (.aaload, 1))
    (kk : W p l e R s m args below meth c H locs cells slots Q (F0 m (pc + 1) ls (.ref y :: rest))) : W p l e R s m args below meth c H locs cells slots Q (F0 m pc ls (.int x :: .ref (a i) :: rest)) :=
  va_aldq hx hb hK hP i t0 (by rw [ww_get hi, hc]) ht (by rw [hxk]; exact vp_in_nI hk (by omega)) hdg (by rw [cl_nI hxk (by omega), hy]; exact kk)
theorem wd_ast (hx : p.tables.exec = Jvm.exec) (hb : c.code = cc) (hK : va_K D vwCl tys s) (hI : II n a) (hP : va_P D vwCl (ww n a f) H) (hS : va_S (AA n a) H0 H locs) (t0 : Nat) {i : Nat} (hi : i < n) {cA : ClassId} {N : Nat} {r : Nat → Int32} (hc : f i = .inl (cA, N, .inl r)) (ht : tys[t0]? = some (cA, .int)) {x v : Int32} {k : Nat} (hxk : x = nI k) (hk : k < N) (hN : N ≤ 64) {g : Nat → va_E} (hg : g i = .inl (cA, N, .inl (upd r k v))) (ho : ∀ j, j < n → j ≠ i → g j = f j) (hdg : decode cc pc = .ok (.iastore, 1))
    (kk : ∀ (H1 : Heap) (locs1 : List Loc), va_P D vwCl (ww n a g) H1 → va_S (AA n a) H0 H1 locs1 → W p l e R s m args below meth c H1 locs1 cells slots Q (F0 m (pc + 1) ls rest)) : W p l e R s m args below meth c H locs cells slots Q (F0 m pc ls (.int v :: .int x :: .ref (a i) :: rest)) :=
  va_iast hx hb hK hP (ww_D hI f) hS i t0 (by rw [ww_get hi, hc]) ht (by rw [hxk]; exact vp_in_nI hk (by omega)) hdg (fun H1 locs1 h1 _ h3 => kk H1 locs1 (by rw [cl_nI hxk (by omega), ww_set hi hg ho] at h1; exact h1) h3)
theorem wd_cast (hx : p.tables.exec = Jvm.exec) (hb : c.code = cc) (hK : va_K D vwCl tys s) (hI : II n a) (hP : va_P D vwCl (ww n a f) H) (hS : va_S (AA n a) H0 H locs) (t0 : Nat) {i : Nat} (hi : i < n) {cA : ClassId} {N : Nat} {r : Nat → Int32} (hc : f i = .inl (cA, N, .inl r)) (ht : tys[t0]? = some (cA, .char)) {x v : Int32} {k : Nat} (hxk : x = nI k) (hk : k < N) (hN : N ≤ 64) (hv : vp_nar .char v = v) {g : Nat → va_E} (hg : g i = .inl (cA, N, .inl (upd r k v))) (ho : ∀ j, j < n → j ≠ i → g j = f j) (hdg : decode cc pc = .ok (.castore, 1))
    (kk : ∀ (H1 : Heap) (locs1 : List Loc), va_P D vwCl (ww n a g) H1 → va_S (AA n a) H0 H1 locs1 → W p l e R s m args below meth c H1 locs1 cells slots Q (F0 m (pc + 1) ls rest)) : W p l e R s m args below meth c H locs cells slots Q (F0 m pc ls (.int v :: .int x :: .ref (a i) :: rest)) :=
  va_cast hx hb hK hP (ww_D hI f) hS i t0 (by rw [ww_get hi, hc]) ht (by rw [hxk]; exact vp_in_nI hk (by omega)) hdg (fun H1 locs1 h1 _ h3 => kk H1 locs1 (by rw [cl_nI hxk (by omega), hv, ww_set hi hg ho] at h1; exact h1) h3)
end LX
