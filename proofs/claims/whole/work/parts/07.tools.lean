/-! ===== LAYER 4: a method's start, rows on small numbers ===== -/
theorem met_of {l : Launch} {y : MethodName} {cc : ByteArray} {maxL : Nat} {ret : Option FieldType} {rm : Room} {B : State → Prop} {Qc : Array Value → State → Outcome → State → Prop} {mc ms : Nat} {free : Addr → Prop} (av : List Value) (lv : List (Nat × Value)) (hy : plainName y.cls = true) (hn : (lg_sl av).length ≤ maxL) (hlv : lv_args 0 av = lv)
    (body : ∀ (p : Program) (e : Env) (s : State) (m : MethodId) (below : List Frame) (meth : Method) (c : Code), p.tables.exec = Jvm.exec → c.code = cc → meth.sig.returnType = ret → s.vm.findClass y.cls = some m.cls → c.maxLocals = maxL → meth.locks = false → B s → ∀ ls : Array Slot, lv_has ls maxL lv → W p l e (headSpec (w1 y cc maxL ret) rm).room s m av.toArray below meth c s.heap [] 0 0 (MQ below Qc av.toArray s mc ms free) (F0 m 0 ls [])) : Met l y (w1 y cc maxL ret) rm (va_Pc av B) Qc mc ms free := by
  refine Met.ofW (cc := cc) (maxL := maxL) (ret := ret) hy rfl ?_
  intro p e s m args below meth c s₁ Bd hml hv
  obtain ⟨rfl, hB⟩ := hv
  have hl := lv_entry av (n := maxL) hn
  rw [lg_entry_eq]
  rw [hlv] at hl
  exact body p e s m below meth c Bd.exec Bd.bytes Bd.returns (findClass_of_methodNamed Bd.named) hml Bd.notSynchronized hB _ hl
section LT
variable {p : Program} {l : Launch} {e : Env} {R : Room} {s : State} {m : MethodId} {args : Array Value} {below : List Frame} {meth : Method} {c : Code} {H : Heap} {locs : List Loc} {cells slots : Nat} {Q : State → Prop}
variable {cc : ByteArray} {pc : Nat} {ls : Array Slot} {rest : List Value}
theorem lv_eqi {x y : Int32} (h : x = y) (k : W p l e R s m args below meth c H locs cells slots Q (F0 m pc ls (.int y :: rest))) : W p l e R s m args below meth c H locs cells slots Q (F0 m pc ls (.int x :: rest)) := by rw [h]; exact k
theorem lv_eql {x y : Int64} (h : x = y) (k : W p l e R s m args below meth c H locs cells slots Q (F0 m pc ls (.long y :: rest))) : W p l e R s m args below meth c H locs cells slots Q (F0 m pc ls (.long x :: rest)) := by rw [h]; exact k
theorem ln_add (a b : Nat) {x y : Int32} (hx : p.tables.exec = Jvm.exec) (hb : c.code = cc) (ex : x = nI a) (ey : y = nI b) (hdg : decode cc pc = .ok (.iadd, 1)) (k : W p l e R s m args below meth c H locs cells slots Q (F0 m (pc + 1) ls (.int (nI (a + b)) :: rest))) : W p l e R s m args below meth c H locs cells slots Q (F0 m pc ls (.int y :: .int x :: rest)) := by
  subst ex; subst ey
  exact lv_iadd hx hb hdg (by rw [nI_add]; exact k)
theorem ln_sub (a b : Nat) {x y : Int32} (hx : p.tables.exec = Jvm.exec) (hb : c.code = cc) (ex : x = nI a) (ey : y = nI b) (hba : b ≤ a) (hdg : decode cc pc = .ok (.isub, 1)) (k : W p l e R s m args below meth c H locs cells slots Q (F0 m (pc + 1) ls (.int (nI (a - b)) :: rest))) : W p l e R s m args below meth c H locs cells slots Q (F0 m pc ls (.int y :: .int x :: rest)) := by
  subst ex; subst ey
  exact lv_isub hx hb hdg (by rw [pk_sub hba]; exact k)
theorem ln_mul (a b : Nat) {x y : Int32} (hx : p.tables.exec = Jvm.exec) (hb : c.code = cc) (ex : x = nI a) (ey : y = nI b) (hdg : decode cc pc = .ok (.imul, 1)) (k : W p l e R s m args below meth c H locs cells slots Q (F0 m (pc + 1) ls (.int (nI (a * b)) :: rest))) : W p l e R s m args below meth c H locs cells slots Q (F0 m pc ls (.int y :: .int x :: rest)) := by
  subst ex; subst ey
  exact lv_imul hx hb hdg (by rw [pk_mul]; exact k)
theorem ln_div (a b : Nat) {x y : Int32} (hx : p.tables.exec = Jvm.exec) (hb : c.code = cc) (ex : x = nI a) (ey : y = nI b) (ha : a < 2 ^ 31) (h0 : 0 < b) (hb2 : b < 2 ^ 31) (hdg : decode cc pc = .ok (.idiv, 1)) (k : W p l e R s m args below meth c H locs cells slots Q (F0 m (pc + 1) ls (.int (nI (a / b)) :: rest))) : W p l e R s m args below meth c H locs cells slots Q (F0 m pc ls (.int y :: .int x :: rest)) := by
  subst ex; subst ey
  exact lv_idiv hx hb hdg (nI_ne0 h0 hb2) (by rw [pk_div ha h0 hb2]; exact k)
theorem ln_rem (a b : Nat) {x y : Int32} (hx : p.tables.exec = Jvm.exec) (hb : c.code = cc) (ex : x = nI a) (ey : y = nI b) (ha : a < 2 ^ 31) (h0 : 0 < b) (hb2 : b < 2 ^ 31) (hdg : decode cc pc = .ok (.irem, 1)) (k : W p l e R s m args below meth c H locs cells slots Q (F0 m (pc + 1) ls (.int (nI (a % b)) :: rest))) : W p l e R s m args below meth c H locs cells slots Q (F0 m pc ls (.int y :: .int x :: rest)) := by
  subst ex; subst ey
  exact lv_irem hx hb hdg (nI_ne0 h0 hb2) (by rw [pk_rem ha h0 hb2]; exact k)
end LT
theorem inc1 (a : Nat) : nI a + Int32.ofInt 1 = nI (a + 1) := nI_1 a
theorem tN_lt (a b : Nat) {x y : Int32} (c : x < y) (hx : x = nI a) (hy : y = nI b) (ha : a < 2 ^ 31) (hb : b < 2 ^ 31) : a < b := by subst hx; subst hy; exact (nI_ltI ha hb).mp c
theorem tN_nlt (a b : Nat) {x y : Int32} (c : ¬ x < y) (hx : x = nI a) (hy : y = nI b) (ha : a < 2 ^ 31) (hb : b < 2 ^ 31) : b ≤ a := by subst hx; subst hy; exact Nat.not_lt.mp fun h => c ((nI_ltI ha hb).mpr h)
theorem tN_le (a b : Nat) {x y : Int32} (c : x ≤ y) (hx : x = nI a) (hy : y = nI b) (ha : a < 2 ^ 31) (hb : b < 2 ^ 31) : a ≤ b := by subst hx; subst hy; exact (nI_leI ha hb).mp c
theorem tN_nle (a b : Nat) {x y : Int32} (c : ¬ x ≤ y) (hx : x = nI a) (hy : y = nI b) (ha : a < 2 ^ 31) (hb : b < 2 ^ 31) : b < a := by subst hx; subst hy; exact Nat.not_le.mp fun h => c ((nI_leI ha hb).mpr h)
theorem tN_eq (a b : Nat) {x y : Int32} (c : x = y) (hx : x = nI a) (hy : y = nI b) (ha : a < 2 ^ 31) (hb : b < 2 ^ 31) : a = b := by subst hx; subst hy; exact (nI_eq ha hb).mp c
theorem tN_ne (a b : Nat) {x y : Int32} (c : ¬ x = y) (hx : x = nI a) (hy : y = nI b) (ha : a < 2 ^ 31) (hb : b < 2 ^ 31) : a ≠ b := by subst hx; subst hy; exact fun h => c (by rw [h])
/-- an answer that is a truth value -/
def bI (b : Bool) : Int32 := if b then 1 else 0
theorem bI_t : bI true = 1 := rfl
theorem bI_f : bI false = 0 := rfl
theorem bI_n (b : Bool) : narrow .boolean (.int (bI b)) = .int (bI b) := by cases b <;> rfl
theorem bI_0 {b : Bool} (h : bI b = 0) : b = false := by cases b <;> first | rfl | exact absurd h (by decide)
theorem bI_1 {b : Bool} (h : ¬ bI b = 0) : b = true := by cases b <;> first | rfl | exact absurd rfl h
theorem sw5 {k : Nat} (h : k < 5) : k = 0 ∨ k = 1 ∨ k = 2 ∨ k = 3 ∨ k = 4 := by omega
theorem sw4 {k : Nat} (h : k < 4) : k = 0 ∨ k = 1 ∨ k = 2 ∨ k = 3 := by omega
/-! the hills as numbers -/
def stepN (p d : Nat) : Nat :=
  if d = 0 then (if 0 < p / 4 then p - 4 else p) else if d = 1 then (if p % 4 < 3 then p + 1 else p) else if d = 2 then (if p / 4 < 3 then p + 4 else p) else (if 0 < p % 4 then p - 1 else p)
theorem stepN_lt : ∀ p, p < 16 → ∀ d, d < 4 → stepN p d < 16 := by decide +kernel
def hpN (K : Nat) : Nat := if K = 2 then 2 else 1
def swN (K C : Nat) : Nat := if K = 1 then 2 * C else if K = 4 then 4 * C else C
def hwN (K C : Nat) : Nat := swN K C * hpN K
/-- a stick S: 0 kind, 1 begin, 2 how late, 3 how many steps, 4 .. the steps -/
abbrev Sk : Type := Nat → Nat
def dirN (S : Sk) (n : Nat) : Nat :=
  if n / S 3 % 2 = 1 then (S (4 + (S 3 - 1 - n % S 3)) + 2) % 4 else if S 0 = 3 then (S (4 + n % S 3) + 2) % 4 else S (4 + n % S 3)
def posN (S : Sk) : Nat → Nat
  | 0 => S 1
  | t + 1 => if t + 1 ≤ hwN (S 0) (S 3) ∧ (t + 1) % hpN (S 0) = 0 then stepN (posN S t) (dirN S ((t + 1) / hpN (S 0) - 1)) else posN S t
/-- a stick that can be walked (it may have no steps yet) -/
def VS (S : Sk) : Prop := S 0 < 5 ∧ S 1 < 16 ∧ S 3 ≤ 5 ∧ ∀ i, i < S 3 → S (4 + i) < 4
theorem dirN_lt {S : Sk} (h : VS S) (h0 : 0 < S 3) (n : Nat) : dirN S n < 4 := by
  unfold dirN
  have h1 : n % S 3 < S 3 := Nat.mod_lt _ h0
  split
  · omega
  · split
    · omega
    · exact h.2.2.2 _ h1
theorem hwN_0 {K : Nat} : hwN K 0 = 0 := by unfold hwN swN; split <;> (try split) <;> simp
theorem posN_lt {S : Sk} (h : VS S) : ∀ t, posN S t < 16 := by
  intro t
  induction t with
  | zero => exact h.2.1
  | succ t ih =>
    unfold posN
    split
    · rename_i hc
      have h0 : 0 < S 3 := by
        rcases Nat.eq_zero_or_pos (S 3) with q | q
        · rw [q, hwN_0] at hc; omega
        · exact q
      exact stepN_lt _ ih _ (dirN_lt h h0 _)
    · exact ih
def orN (f : Nat → Nat) : Nat → Nat
  | 0 => 0
  | t + 1 => orN f t ||| 2 ^ f t
/-- the class's stick j holds S -/
def GS (σ : St) (j : Nat) (S : Sk) : Prop :=
  σ (3 * j + 14) 0 = nI (S 0) ∧ σ (3 * j + 14) 1 = nI (S 1) ∧ σ (3 * j + 14) 2 = nI (S 3) ∧ ∀ i, i < S 3 → σ (3 * j + 15) i = nI (S (4 + i))
/-- .. and its walk is traced -/
def GT (σ : St) (j : Nat) (S : Sk) : Prop := (∀ t, t < 31 → σ (3 * j + 16) t = nI (posN S t)) ∧ σ (3 * j + 14) 5 = nI (orN (posN S) 31)
