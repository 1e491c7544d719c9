/-! numbers that the hills' methods answer -/
theorem sl31 : ∀ k, k < 32 → ((nI k &&& 31).toBitVec.smod 32).toNat = k := by decide +kernel
theorem bitT {g i : Nat} (hg : g < 2 ^ 31) (hi : i < 32) : (nI g >>> (nI i &&& 31)) &&& 1 = nI (g / 2 ^ i % 2) := by
  rw [pk_shrN hg _ i (sl31 i hi), pk_andN (k := 1) (by have := Nat.div_le_self g (2 ^ i); omega) (by decide)]
theorem nI_xm (P g : Nat) (hP : P < 2 ^ 31) : (nI P &&& (nI g ^^^ (-1))) = 0 ↔ P &&& g = P := by
  have e : (nI P &&& (nI g ^^^ (-1))) = 0 ↔ nI P &&& nI g = nI P := by
    have m1 : ∀ i, i < 32 → ((-1 : Int32).toBitVec).getLsbD i = true := by decide
    constructor
    · intro h
      apply Int32.toBitVec_inj.1
      apply BitVec.eq_of_getLsbD_eq
      intro i hi
      have h1 := congrArg (fun z : Int32 => z.toBitVec.getLsbD i) h
      simp only [Int32.toBitVec_and, Int32.toBitVec_xor, BitVec.getLsbD_and, BitVec.getLsbD_xor, m1 i hi] at h1 ⊢
      simp only [Int32.toBitVec_zero, BitVec.getLsbD_zero] at h1
      revert h1
      cases (nI P).toBitVec.getLsbD i <;> cases (nI g).toBitVec.getLsbD i <;> simp
    · intro h
      apply Int32.toBitVec_inj.1
      apply BitVec.eq_of_getLsbD_eq
      intro i hi
      have h1 := congrArg (fun z : Int32 => z.toBitVec.getLsbD i) h
      simp only [Int32.toBitVec_and, Int32.toBitVec_xor, BitVec.getLsbD_and, BitVec.getLsbD_xor, m1 i hi] at h1 ⊢
      simp only [Int32.toBitVec_zero, BitVec.getLsbD_zero]
      revert h1
      cases (nI P).toBitVec.getLsbD i <;> cases (nI g).toBitVec.getLsbD i <;> simp
  rw [e, nI_and]
  exact nI_eq (Nat.lt_of_le_of_lt Nat.and_le_left hP) hP
def hasB (x : Int32) (n : Nat) : Bool := decide (¬ x < 0 ∧ ¬ nI n ≤ x)
theorem hasB_t {x : Int32} {n : Nat} (hn : n < 2 ^ 31) (h : hasB x n = true) : ∃ k, k < n ∧ x = nI k := by
  simp only [hasB, decide_eq_true_eq] at h
  rcases pk_ix x hn with q | q | q
  · exact absurd q h.1
  · exact absurd q h.2
  · exact q
theorem hasB_k {k n : Nat} (hk : k < n) (hn : n < 2 ^ 31) : hasB (nI k) n = true := by
  simp only [hasB, decide_eq_true_eq]
  exact ⟨nI_pos (by omega), nI_ge hk hn⟩
abbrev atN (S : Sk) (t : Nat) : Nat := posN S (t - S 2)
def meetN (f g : Nat → Nat) : Nat → Nat
  | 0 => 0
  | t + 1 => meetN f g t + (if f t = g t then 1 else 0)
theorem meetN_y {f g : Nat → Nat} {t : Nat} (h : f t = g t) : meetN f g t + 1 = meetN f g (t + 1) := by rw [meetN, if_pos h]
theorem meetN_n {f g : Nat → Nat} {t : Nat} (h : f t ≠ g t) : meetN f g t = meetN f g (t + 1) := by rw [meetN, if_neg h]; rfl
/-- sums over pairs, as the class goes through them -/
def inN (M : Nat → Nat → Nat) (a : Nat) : Nat → Nat
  | 0 => 0
  | j + 1 => inN M a j + M a (a + 1 + j)
def ouN (M : Nat → Nat → Nat) (n : Nat) : Nat → Nat
  | 0 => 0
  | a + 1 => ouN M n a + inN M a (n - 1 - a)
/-- how often two meet, late by L -/
def meL (S : Nat → Sk) (L : Nat → Nat) (a b : Nat) : Nat := meetN (fun t => posN (S a) (t - L a)) (fun t => posN (S b) (t - L b)) 31
def sumN (f : Nat → Nat) : Nat → Nat
  | 0 => 0
  | i + 1 => sumN f i + f i
def grN (P : Nat → Nat) (g : Nat) : Nat → Nat
  | 0 => 0
  | i + 1 => if g / 2 ^ i % 2 = 1 then grN P g i ||| P i else grN P g i
def onN (x : Nat) : Nat → Nat
  | 0 => 0
  | k + 1 => onN x k + x / 2 ^ k % 2
def popN (x : Nat) : Nat := onN x 16
def oI : Option Nat → Int32
  | none => -1
  | some g => nI g
def btr (g : Nat) : Option Nat → Bool
  | none => true
  | some b => decide (popN g < popN b)
def cvN (P : Nat → Nat) (n W : Nat) : Nat → Option Nat
  | 0 => none
  | g + 1 => if btr g (cvN P n W g) = true ∧ W &&& grN P g n = W then some g else cvN P n W g
theorem cvN_lt {P : Nat → Nat} {n W : Nat} : ∀ {g b : Nat}, cvN P n W g = some b → b < g := by
  intro g
  induction g with
  | zero => intro b h; cases h
  | succ g ih =>
    intro b h
    unfold cvN at h
    split at h
    · cases h; omega
    · have := ih h; omega
def dfN (a b : Nat) : Nat := if b ≤ a then a - b else b - a
def farN (p q : Nat) : Nat := dfN (p / 4) (q / 4) + dfN (p % 4) (q % 4)
theorem far6 : ∀ p, p < 16 → ∀ q, q < 16 → farN p q ≤ 6 := by decide +kernel
def catF (f : Nat → Nat) (P : Nat) : Nat → Nat → Nat
  | 0, t => t
  | k + 1, t => if farN P (f t) ≤ t then t else catF f P k (t + 1)
def catN (f : Nat → Nat) (P : Nat) : Nat := catF f P 6 0
theorem cat_ret {f : Nat → Nat} {P t r : Nat} (h : catF f P (6 - t) t = r) (ht : t ≤ 6) (q : farN P (f t) ≤ t) : r = t := by
  rcases Nat.eq_zero_or_pos (6 - t) with z | z
  · rw [z] at h; exact h.symm
  · obtain ⟨k, hk⟩ : ∃ k, 6 - t = k + 1 := ⟨6 - t - 1, by omega⟩
    rw [hk, catF, if_pos q] at h; exact h.symm
theorem cat_go {f : Nat → Nat} {P t r : Nat} (h : catF f P (6 - t) t = r) (ht : t ≤ 6) (h6 : farN P (f t) ≤ 6) (q : t < farN P (f t)) : t + 1 ≤ 6 ∧ catF f P (6 - (t + 1)) (t + 1) = r := by
  refine ⟨by omega, ?_⟩
  obtain ⟨k, hk⟩ : ∃ k, 6 - t = k + 1 := ⟨6 - t - 1, by omega⟩
  rw [hk, catF, if_neg (by omega)] at h
  rw [show 6 - (t + 1) = k by omega]; exact h
def whN (ok : Nat → Bool) : Nat → Nat
  | 0 => 0
  | i + 1 => if ok i = true then whN ok i ||| 2 ^ i else whN ok i
def okN (f V : Nat → Nat) : Nat → Bool
  | 0 => true
  | i + 1 => okN f V i && decide (f (V (2 * i + 1)) = V (2 * i))
theorem okN_f {f V : Nat → Nat} {i : Nat} (h : f (V (2 * i + 1)) ≠ V (2 * i)) : ∀ {q : Nat}, i < q → okN f V q = false := by
  intro q
  induction q with
  | zero => intro h; omega
  | succ q ih =>
    intro hq
    unfold okN
    by_cases e : i = q
    · subst e; simp [h]
    · rw [ih (by omega)]; rfl
theorem okN_t {f V : Nat → Nat} {i : Nat} (h0 : okN f V i = true) (h : f (V (2 * i + 1)) = V (2 * i)) : okN f V (i + 1) = true := by
  unfold okN; rw [h0]; simp [h]
def tgN (C : Nat) (f : Nat → Nat) (k : Nat) : Nat → Nat
  | 0 => 0
  | i + 1 => tgN C f k i + (if C / 2 ^ i % 2 = 1 ∧ f i = f k then 1 else 0)
def mlN (C : Nat) (f : Nat → Nat) (n : Nat) : Nat → Nat
  | 0 => 0
  | i + 1 => if C / 2 ^ i % 2 = 1 then max (mlN C f n i) (tgN C f i n) else mlN C f n i
def lkN (w : Nat → Nat) : Nat → Nat × Nat
  | 0 => (0, w 0)
  | t + 1 => if w (t + 1) < (lkN w t).2 then (t + 1, w (t + 1)) else lkN w t
theorem tgN_le {C : Nat} {f : Nat → Nat} {k : Nat} : ∀ i, tgN C f k i ≤ i := by
  intro i
  induction i with
  | zero => exact Nat.le_refl _
  | succ i ih => unfold tgN; split <;> omega
theorem mlN_le {C : Nat} {f : Nat → Nat} {n : Nat} : ∀ i, mlN C f n i ≤ n := by
  intro i
  induction i with
  | zero => exact Nat.zero_le _
  | succ i ih =>
    unfold mlN
    split
    · exact Nat.max_le.mpr ⟨ih, tgN_le n⟩
    · exact ih
/-- hills h hold n sticks S, q sights V, ch changes -/
def GH (σ : St) (h n : Nat) (S : Nat → Sk) (q : Nat) (V : Nat → Nat) (ch : Int32) : Prop :=
  (σ (5 * h + 4) 4 = nI n ∧ n ≤ 6) ∧ σ (5 * h + 4) 5 = ch ∧ (σ (5 * h + 4) 6 = nI q ∧ q ≤ 8) ∧
  (∀ k, k < n → VS (S k) ∧ GS σ (6 * h + k) (S k) ∧ GT σ (6 * h + k) (S k) ∧ σ (5 * h + 6) k = nI (S k 2) ∧ S k 2 ≤ 9) ∧
  ∀ i, i < q → σ (5 * h + 7) i = nI (V (2 * i)) ∧ σ (5 * h + 8) i = nI (V (2 * i + 1)) ∧ V (2 * i) < 16 ∧ V (2 * i + 1) ≤ 30
theorem orN_lt {f : Nat → Nat} (h : ∀ t, f t < 16) : ∀ t, orN f t < 2 ^ 16 := by
  intro t
  induction t with
  | zero => exact Nat.two_pow_pos 16
  | succ t ih => exact Nat.or_lt_two_pow ih (Nat.pow_lt_pow_right (by omega) (h t))
theorem grN_lt {P : Nat → Nat} {g n : Nat} (h : ∀ i, i < n → P i < 2 ^ 16) : ∀ i, i ≤ n → grN P g i < 2 ^ 16 := by
  intro i
  induction i with
  | zero => intro _; exact Nat.two_pow_pos 16
  | succ i ih =>
    intro hi
    unfold grN
    split
    · exact Nat.or_lt_two_pow (ih (by omega)) (h i (by omega))
    · exact ih (by omega)
theorem whN_lt {ok : Nat → Bool} : ∀ i, whN ok i < 2 ^ i := by
  intro i
  induction i with
  | zero => exact Nat.one_pos
  | succ i ih =>
    unfold whN
    have h1 : whN ok i < 2 ^ (i + 1) := Nat.lt_of_lt_of_le ih (Nat.pow_le_pow_right (by omega) (by omega))
    split
    · exact Nat.or_lt_two_pow h1 (Nat.pow_lt_pow_right (by omega) (by omega))
    · exact h1
/-! ones of a number: the JDK's bitCount -/
def bcA (x : Nat) : Nat := x - (x / 2 &&& 1431655765)
def bcB (x : Nat) : Nat := (x &&& 858993459) + (x / 4 &&& 858993459)
def bcC (x : Nat) : Nat := (x + x / 16) &&& 252645135
def bcD (x : Nat) : Nat := (x + x / 256) + (x + x / 256) / 65536
def bcN (x : Nat) : Nat := bcD (bcC (bcB (bcA x))) &&& 63
theorem and_256 (x y : Nat) : x &&& y = 256 * (x / 256 &&& y / 256) + (x % 256 &&& y % 256) := by
  have h1 : (x &&& y) / 2 ^ 8 = x / 2 ^ 8 &&& y / 2 ^ 8 := Nat.and_div_two_pow
  have h2 : (x &&& y) % 2 ^ 8 = (x % 2 ^ 8) &&& (y % 2 ^ 8) := Nat.and_mod_two_pow
  have h3 := Nat.div_add_mod (x &&& y) (2 ^ 8)
  rw [h1, h2] at h3
  exact h3.symm
def a8 (y : Nat) : Nat := y - (y / 2 &&& 85)
def b8 (y : Nat) : Nat := (y &&& 51) + (y / 4 &&& 51)
def c8 (y : Nat) : Nat := (y + y / 16) % 16
theorem k85 : ∀ u, u < 2 → ∀ v, v < 128 → (128 * u + v) &&& 85 = v &&& 85 ∧ v &&& 5592405 = v &&& 85 := by decide +kernel
theorem k51 : ∀ u, u < 4 → ∀ v, v < 64 → (64 * u + v) &&& 51 = v &&& 51 ∧ v &&& 3355443 = v &&& 51 := by decide +kernel
theorem k51b : ∀ v, v < 256 → v &&& 3355443 = v &&& 51 := by decide +kernel
theorem k15 : ∀ v, v < 256 → v &&& 986895 = v % 16 ∧ v &&& 15 = v % 16 := by decide +kernel
theorem k8 : ∀ y, y < 256 → c8 (b8 (a8 y)) = onN y 8 ∧ b8 (a8 y) % 16 ≤ 4 ∧ b8 (a8 y) / 16 ≤ 4 ∧ a8 y < 256 ∧ onN y 8 ≤ 8 := by decide +kernel
theorem bcA_s {a b : Nat} (ha : a < 256) (hb : b < 256) : bcA (256 * a + b) = 256 * a8 a + a8 b := by
  unfold bcA a8
  rw [and_256, show (256 * a + b) / 2 / 256 = a / 2 by omega, show (256 * a + b) / 2 % 256 = 128 * (a % 2) + b / 2 by omega]
  rw [show 1431655765 / 256 = 5592405 from rfl, show 1431655765 % 256 = 85 from rfl, (k85 (a % 2) (by omega) (b / 2) (by omega)).1, (k85 0 (by omega) (a / 2) (by omega)).2]
  have h1 : a / 2 &&& 85 ≤ a / 2 := Nat.and_le_left
  have h2 : b / 2 &&& 85 ≤ b / 2 := Nat.and_le_left
  omega
theorem bcB_s {a b : Nat} (ha : a < 256) (hb : b < 256) : bcB (256 * a + b) = 256 * b8 a + b8 b := by
  unfold bcB b8
  rw [and_256 (256 * a + b), and_256 ((256 * a + b) / 4), show (256 * a + b) / 256 = a by omega, show (256 * a + b) % 256 = b by omega, show (256 * a + b) / 4 / 256 = a / 4 by omega, show (256 * a + b) / 4 % 256 = 64 * (a % 4) + b / 4 by omega]
  rw [show 858993459 / 256 = 3355443 from rfl, show 858993459 % 256 = 51 from rfl, (k51 (a % 4) (by omega) (b / 4) (by omega)).1, (k51 0 (by omega) (a / 4) (by omega)).2, k51b a ha]
  omega
theorem bcC_s {a b : Nat} (ha : a % 16 ≤ 4 ∧ a / 16 ≤ 4) (hb : b % 16 ≤ 4 ∧ b / 16 ≤ 4) : bcC (256 * a + b) = 256 * c8 a + c8 b := by
  unfold bcC c8
  rw [and_256, show (256 * a + b + (256 * a + b) / 16) / 256 = a + a / 16 by omega, show (256 * a + b + (256 * a + b) / 16) % 256 = b + b / 16 + 16 * (a % 16) by omega]
  rw [show 252645135 / 256 = 986895 from rfl, show 252645135 % 256 = 15 from rfl, (k15 _ (by omega)).1, (k15 _ (by omega)).2]
  omega
theorem bcD_s {a b : Nat} (ha : a ≤ 8) (hb : b ≤ 8) : bcD (256 * a + b) &&& 63 = a + b := by
  unfold bcD
  rw [show (63 : Nat) = 2 ^ 6 - 1 from rfl, Nat.and_two_pow_sub_one_eq_mod, show (256 * a + b) / 256 = a by omega, show (256 * a + b + a) / 65536 = 0 by omega]
  omega
theorem pop_s {a b : Nat} (ha : a < 256) (hb : b < 256) : popN (256 * a + b) = onN a 8 + onN b 8 := by
  have e0 : (256 * a + b) / 1 % 2 = b / 1 % 2 := by omega
  have e1 : (256 * a + b) / 2 % 2 = b / 2 % 2 := by omega
  have e2 : (256 * a + b) / 4 % 2 = b / 4 % 2 := by omega
  have e3 : (256 * a + b) / 8 % 2 = b / 8 % 2 := by omega
  have e4 : (256 * a + b) / 16 % 2 = b / 16 % 2 := by omega
  have e5 : (256 * a + b) / 32 % 2 = b / 32 % 2 := by omega
  have e6 : (256 * a + b) / 64 % 2 = b / 64 % 2 := by omega
  have e7 : (256 * a + b) / 128 % 2 = b / 128 % 2 := by omega
  have e8 : (256 * a + b) / 256 % 2 = a / 1 % 2 := by omega
  have e9 : (256 * a + b) / 512 % 2 = a / 2 % 2 := by omega
  have e10 : (256 * a + b) / 1024 % 2 = a / 4 % 2 := by omega
  have e11 : (256 * a + b) / 2048 % 2 = a / 8 % 2 := by omega
  have e12 : (256 * a + b) / 4096 % 2 = a / 16 % 2 := by omega
  have e13 : (256 * a + b) / 8192 % 2 = a / 32 % 2 := by omega
  have e14 : (256 * a + b) / 16384 % 2 = a / 64 % 2 := by omega
  have e15 : (256 * a + b) / 32768 % 2 = a / 128 % 2 := by omega
  simp only [popN, onN, Nat.reducePow, e0, e1, e2, e3, e4, e5, e6, e7, e8, e9, e10, e11, e12, e13, e14, e15]
  omega
theorem bc_pop {x : Nat} (h : x < 65536) : bcN x = popN x := by
  have e : 256 * (x / 256) + x % 256 = x := by omega
  have ha : x / 256 < 256 := by omega
  have hb : x % 256 < 256 := by omega
  obtain ⟨p1, p2, p3, p4, p5⟩ := k8 _ ha
  obtain ⟨q1, q2, q3, q4, q5⟩ := k8 _ hb
  rw [← e, pop_s ha hb]
  unfold bcN
  rw [bcA_s ha hb, bcB_s p4 q4, bcC_s ⟨p2, p3⟩ ⟨q2, q3⟩, bcD_s (by rw [p1]; exact p5) (by rw [q1]; exact q5), p1, q1]
