/-! ===== what each call answers, as both sides have it ===== -/
theorem hasB_c (x : Int32) {n : Nat} (hn : n < 2 ^ 31) : hasB x n = false ∨ ∃ k, k < n ∧ x = nI k := by
  cases h : hasB x n
  · exact Or.inl rfl
  · exact Or.inr (hasB_t hn h)
theorem hB_of {x : Int32} {n : Nat} (h0 : ¬ x < 0) (h1 : ¬ nI n ≤ x) : hasB x n = true := by simp only [hasB, decide_eq_true_eq]; exact ⟨h0, h1⟩
theorem hB_ff {x : Int32} {n : Nat} (h : hasB x n = false) : x < 0 ∨ nI n ≤ x := by
  by_cases h0 : x < 0
  · exact Or.inl h0
  · by_cases h1 : nI n ≤ x
    · exact Or.inr h1
    · rw [hB_of h0 h1] at h; exact absurd h (by decide)
theorem i_lt (x y : Int32) : x < y ↔ x.toInt < y.toInt := Int32.lt_iff_toInt_lt
theorem i_le (x y : Int32) : x ≤ y ↔ x.toInt ≤ y.toInt := Int32.le_iff_toInt_le
/-- x ≤ n as x < n + 1 -/
theorem hB_le {x : Int32} (n : Nat) (hn : n < 1000000) (h0 : ¬ x < 0) (h1 : x ≤ nI n) : hasB x (n + 1) = true := by
  refine hB_of h0 ?_
  rw [i_le] at h1 ⊢
  rw [nI_toInt (by omega)] at h1
  rw [nI_toInt (by omega)]
  omega
theorem hB_lt {x : Int32} (n : Nat) (h0 : ¬ x < 0) (h1 : x < nI n) : hasB x n = true := by
  refine hB_of h0 ?_
  rw [i_le]; rw [i_lt] at h1
  omega
theorem hB_nle {x : Int32} (n : Nat) (hn : n < 1000000) (h0 : ¬ x < 0) (h1 : ¬ nI n < x) : hasB x (n + 1) = true := by
  refine hB_le n hn h0 ?_
  rw [i_le]; rw [i_lt] at h1
  omega
theorem nlt_mono {x : Int32} (n : Nat) (hn : n < 1000000) (h : ¬ x < nI n) : ¬ x < 0 := by
  rw [i_lt] at h ⊢
  rw [nI_toInt (by omega)] at h
  show ¬ x.toInt < 0
  omega
theorem hB_out {x : Int32} (n m : Nat) (hn : m < n) (hn2 : n < 1000000) (h : hasB x n = false) : x.toInt < 0 ∨ (m : Int) < x.toInt := by
  rcases hB_ff h with q | q
  · left; rw [i_lt] at q; exact q
  · right; rw [i_le, nI_toInt (by omega)] at q; omega
theorem hB30 (x : Int32) : decide (¬ x < 0 ∧ ¬ 30 < x) = hasB x 31 := by
  cases h : hasB x 31
  · rcases hB_ff h with q | q
    · simp [q]
    · have : (30 : Int32) < x := by
        rw [i_lt]; rw [i_le] at q
        have e : (nI 31).toInt = 31 := nI_toInt (by omega)
        rw [e] at q
        show (30 : Int) < _
        omega
      simp [this]
  · obtain ⟨k, hk, rfl⟩ := hasB_t (by omega) h
    have h1 : ¬ nI k < 0 := nI_pos (by omega)
    have h2 : ¬ (30 : Int32) < nI k := nI_nlt (a := 30) (b := k) (by omega) (by omega)
    simp [h1, h2]
theorem hB16 (x : Int32) : decide (¬ x < 0 ∧ ¬ 16 ≤ x) = hasB x 16 := rfl
/-- f of the number x is below n, else d -/
def wK (x : Int32) (n : Nat) (f : Nat → Int32) (d : Int32) : Int32 := if hasB x n = true then f x.toNatClampNeg else d
theorem wK_f {x : Int32} {n : Nat} {f : Nat → Int32} {d : Int32} (h : hasB x n = false) : wK x n f d = d := by unfold wK; rw [h]; rfl
theorem wK_k {k n : Nat} {f : Nat → Int32} {d : Int32} (hk : k < n) (hn : n < 2 ^ 31) : wK (nI k) n f d = f k := by
  unfold wK; rw [if_pos (hasB_k hk hn), nI_clamp (by omega)]
/-- the walk is over before hour 30, whatever the lateness -/
theorem posN_end {S : Sk} (h : S 3 ≤ 5) : ∀ t, hwN (S 0) (S 3) ≤ t → posN S t = posN S (hwN (S 0) (S 3)) := by
  intro t
  induction t with
  | zero => intro ht; have : hwN (S 0) (S 3) = 0 := by omega
            rw [this]
  | succ t ih =>
    intro ht
    by_cases e : hwN (S 0) (S 3) = t + 1
    · rw [e]
    · rw [posN, if_neg (fun z => by omega)]; exact ih (by omega)
theorem bit_or (a b i : Nat) : (a ||| b).testBit i = (a.testBit i || b.testBit i) := Nat.testBit_or a b i
theorem orN_bit {f : Nat → Nat} {i : Nat} : ∀ n, (orN f n).testBit i = true ↔ ∃ t, t < n ∧ f t = i := by
  intro n
  induction n with
  | zero => simp [orN]
  | succ n ih =>
    unfold orN
    rw [bit_or, Bool.or_eq_true, ih, Nat.testBit_two_pow, decide_eq_true_eq]
    constructor
    · rintro (⟨t, h1, h2⟩ | h)
      · exact ⟨t, by omega, h2⟩
      · exact ⟨n, by omega, h⟩
    · rintro ⟨t, h1, h2⟩
      by_cases e : t = n
      · subst e; exact Or.inr h2
      · exact Or.inl ⟨t, by omega, h2⟩
theorem orN_at {S : Sk} (h3 : S 3 ≤ 5) (h2 : S 2 ≤ 9) : orN (atN S) 31 = orN (posN S) 31 := by
  have hw := hw_20 (K := S 0) h3
  apply Nat.eq_of_testBit_eq
  intro i
  have key : (orN (atN S) 31).testBit i = true ↔ (orN (posN S) 31).testBit i = true := by
    rw [orN_bit, orN_bit]
    constructor
    · rintro ⟨t, h1, rfl⟩
      exact ⟨t - S 2, by omega, rfl⟩
    · rintro ⟨t, h1, rfl⟩
      by_cases e : t + S 2 < 31
      · exact ⟨t + S 2, e, by show posN S (t + S 2 - S 2) = _; rw [Nat.add_sub_cancel]⟩
      · refine ⟨30, by omega, ?_⟩
        show posN S (30 - S 2) = _
        rw [posN_end h3 (30 - S 2) (by omega), posN_end h3 t (by omega)]
  cases q1 : (orN (atN S) 31).testBit i <;> cases q2 : (orN (posN S) 31).testBit i <;> simp_all
def tellN (S : Sk) : Nat → Int32
  | 0 => nI (S 0)
  | 1 => nI (S 1)
  | 2 => nI (S 3)
  | 3 => nI (S 2)
  | 4 => nI (S 2 + hwN (S 0) (S 3))
  | 5 => nI (posN S 30)
  | 6 => nI (popN (orN (posN S) 31))
  | 7 => -102
  | 8 => -102
  | 9 => -102
  | f + 10 => if f < S 3 then nI (S (4 + f)) else -1
def aStick (n : Nat) (S : Nat → Sk) (x w : Int32) : Int32 := wK x n (fun k => wK w 15 (tellN (S k)) (-102)) (-101)
def aAs (n : Nat) (S : Nat → Sk) (x w : Int32) : Int32 := wK x n (fun k => wK w 5 (fun t => if isK (S k 0) t = true then nI k else -1) (-102)) (-101)
def aAt (n : Nat) (S : Nat → Sk) (x w : Int32) : Int32 := wK x n (fun k => wK w 31 (fun t => nI (atN (S k) t)) (-102)) (-101)
/-- two different sticks -/
def w2 (x y : Int32) (n : Nat) (f : Nat → Nat → Int32) : Int32 := wK x n (fun a => wK y n (fun b => if a = b then -101 else f a b) (-101)) (-101)
def aMeet (n : Nat) (S : Nat → Sk) (x y : Int32) : Int32 := w2 x y n (fun a b => nI (meL S (fun i => S i 2) a b))
def ltF (M : Nat → Nat) : Nat → Nat → Int32
  | 0, _ => -1
  | k + 1, h => if 0 < M h then nI h else ltF M k (h + 1)
def laM (S : Nat → Sk) (a b v : Nat) : Nat := meetN (atN (S a)) (fun t => posN (S b) (t - v)) 31
def aLater (n : Nat) (S : Nat → Sk) (x y : Int32) : Int32 := w2 x y n (fun a b => ltF (laM S a b) 10 0)
def covA (P : Nat → Nat) (n W u : Nat) : Int32 := match cvN P n W (2 ^ n) with
  | none => -1
  | some b => if u = 1 then nI b else nI (popN b)
abbrev PL (S : Nat → Sk) : Nat → Nat := fun i => orN (posN (S i)) 31
def aCover (n : Nat) (S : Nat → Sk) (x w : Int32) : Int32 := wK x 65536 (fun W => wK w 2 (fun u => if n = 0 then -103 else covA (PL S) n W u) (-102)) (-102)
def aCatch (n : Nat) (S : Nat → Sk) (x y : Int32) : Int32 := wK y n (fun k => wK x 16 (fun P => nI (catN (atN (S k)) P)) (-102)) (-101)
abbrev OKf (S : Nat → Sk) (q : Nat) (V : Nat → Nat) : Nat → Bool := fun i => okN (atN (S i)) V q
def aWhose (n : Nat) (S : Nat → Sk) (q : Nat) (V : Nat → Nat) : Int32 := if n = 0 then -103 else nI (whN (OKf S q V) n)
abbrev MLf (S : Nat → Sk) (n C : Nat) : Nat → Nat := fun t => mlN C (fun i => atN (S i) t) n n
def aLook (n : Nat) (S : Nat → Sk) (q : Nat) (V : Nat → Nat) : Int32 := if n = 0 then -103 else if whN (OKf S q V) n = 0 then -1 else nI (lkN (MLf S n (whN (OKf S q V) n)) 30).1
theorem w2_f1 {x y : Int32} {n : Nat} {f : Nat → Nat → Int32} (h : hasB x n = false) : w2 x y n f = -101 := wK_f h
theorem w2_f2 {k n : Nat} {y : Int32} {f : Nat → Nat → Int32} (hk : k < n) (hn : n < 2 ^ 31) (h : hasB y n = false) : w2 (nI k) y n f = -101 := (wK_k hk hn).trans (wK_f h)
theorem w2_e {k n : Nat} {f : Nat → Nat → Int32} (hk : k < n) (hn : n < 2 ^ 31) : w2 (nI k) (nI k) n f = -101 := by
  rw [w2, wK_k hk hn, wK_k hk hn, if_pos rfl]
theorem w2_k {a b n : Nat} {f : Nat → Nat → Int32} (ha : a < n) (hb : b < n) (hn : n < 2 ^ 31) (h : a ≠ b) : w2 (nI a) (nI b) n f = f a b := by
  rw [w2, wK_k ha hn, wK_k hb hn, if_neg h]
