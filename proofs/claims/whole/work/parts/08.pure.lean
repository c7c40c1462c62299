/-! pure facts: natural numbers as ints, sets of grains as numbers, the mill's own functions -/
theorem nat_lt_t {x y : Int32} {a b : Nat} (hx : x = nI a) (hy : y = nI b) (ha : a < 2 ^ 31) (hb : b < 2 ^ 31) (h : x < y) : a < b := by subst hx; subst hy; exact (nI_ltI ha hb).mp h
theorem nat_lt_f {x y : Int32} {a b : Nat} (hx : x = nI a) (hy : y = nI b) (ha : a < 2 ^ 31) (hb : b < 2 ^ 31) (h : ¬ x < y) : b ≤ a := by subst hx; subst hy; rw [nI_ltI ha hb] at h; omega
theorem nat_le_t {x y : Int32} {a b : Nat} (hx : x = nI a) (hy : y = nI b) (ha : a < 2 ^ 31) (hb : b < 2 ^ 31) (h : x ≤ y) : a ≤ b := by subst hx; subst hy; exact (nI_leI ha hb).mp h
theorem nat_le_f {x y : Int32} {a b : Nat} (hx : x = nI a) (hy : y = nI b) (ha : a < 2 ^ 31) (hb : b < 2 ^ 31) (h : ¬ x ≤ y) : b < a := by subst hx; subst hy; rw [nI_leI ha hb] at h; omega
theorem nat_eq_t {x y : Int32} {a b : Nat} (hx : x = nI a) (hy : y = nI b) (ha : a < 2 ^ 31) (hb : b < 2 ^ 31) (h : x = y) : a = b := by subst hx; subst hy; exact (nI_eq ha hb).mp h
theorem nat_eq_f {x y : Int32} {a b : Nat} (hx : x = nI a) (hy : y = nI b) (ha : a < 2 ^ 31) (hb : b < 2 ^ 31) (h : ¬ x = y) : a ≠ b := by subst hx; subst hy; rwa [nI_eq ha hb] at h
/-- a set of numbers below k, as bits -/
def bs (p : Nat → Bool) : Nat → Nat
  | 0 => 0
  | k + 1 => bs p k + (if p k then 2 ^ k else 0)
theorem bs_lt (p : Nat → Bool) : ∀ k, bs p k < 2 ^ k
  | 0 => by show 0 < 1; decide
  | k + 1 => by
    have h := bs_lt p k
    unfold bs
    rw [Nat.pow_succ]
    split <;> omega
theorem bs_lt64 (p : Nat → Bool) {k : Nat} (h : k ≤ 6) : bs p k < 64 := Nat.lt_of_lt_of_le (bs_lt p k) (Nat.le_trans (Nat.pow_le_pow_right (by decide) h) (by decide))
theorem add_bit {s k j : Nat} (h : s < 2 ^ k) : (s + 2 ^ k).testBit j = (s.testBit j || decide (j = k)) := by
  have e : s + 2 ^ k = 2 ^ k * 1 + s := by omega
  rw [e, Nat.two_pow_add_eq_or_of_lt h, Nat.testBit_or, Nat.mul_one, Nat.testBit_two_pow]
  rw [Bool.or_comm]
  congr 1
  exact decide_eq_decide.mpr ⟨fun h => h.symm, fun h => h.symm⟩
theorem bs_bit (p : Nat → Bool) (j : Nat) : ∀ k, (bs p k).testBit j = (decide (j < k) && p j)
  | 0 => by simp [bs]
  | k + 1 => by
    have ih := bs_bit p j k
    unfold bs
    by_cases hp : p k = true
    · rw [if_pos hp, add_bit (bs_lt p k), ih]
      by_cases h : j = k
      · subst h; simp [hp]
      · by_cases h2 : j < k
        · simp [h, h2, show j < k + 1 by omega]
        · simp [h, h2, show ¬ j < k + 1 by omega]
    · have hp : p k = false := by simpa using hp
      rw [hp]
      simp only [Bool.false_eq_true, if_false, Nat.add_zero, ih]
      by_cases h : j = k
      · subst h; simp [hp]
      · by_cases h2 : j < k
        · simp [h2, show j < k + 1 by omega]
        · simp [h2, show ¬ j < k + 1 by omega]
theorem bs_cong {p q : Nat → Bool} : ∀ {k : Nat}, (∀ j, j < k → p j = q j) → bs p k = bs q k
  | 0, _ => rfl
  | k + 1, h => by
    unfold bs
    rw [bs_cong (fun j hj => h j (by omega)), h k (by omega)]
theorem i_or (a b : Nat) : nI a ||| nI b = nI (a ||| b) := by
  apply Int32.toBitVec_inj.mp
  show (nI a).toBitVec ||| (nI b).toBitVec = (nI (a ||| b)).toBitVec
  apply BitVec.eq_of_toNat_eq
  show ((BitVec.ofNat 32 a) ||| (BitVec.ofNat 32 b)).toNat = (BitVec.ofNat 32 (a ||| b)).toNat
  simp [BitVec.toNat_or, BitVec.toNat_ofNat, Nat.or_mod_two_pow]
theorem or_bit {z : Int32} {s g : Nat} (hz : z = nI s) (hs : s < 2 ^ g) (hg : g < 31) : z ||| ((1 : Int32) <<< (nI g &&& 31)) = nI (s + 2 ^ g) := by
  subst hz
  have e1 : (1 : Int32) <<< (nI g &&& 31) = nI (2 ^ g) := by
    have hk : ∀ g, g < 31 → (1 : Int32) <<< (nI g &&& 31) = nI (2 ^ g) := by decide +kernel
    exact hk g hg
  rw [e1]
  have e2 : nI s ||| nI (2 ^ g) = nI (s ||| 2 ^ g) := by
    exact i_or _ _
  rw [e2]
  congr 1
  have e : s + 2 ^ g = 2 ^ g * 1 + s := by omega
  rw [e, Nat.two_pow_add_eq_or_of_lt hs, Nat.mul_one, Nat.or_comm]
theorem bit_64 : ∀ s, s < 64 → ∀ g, g < 6 → (((nI s >>> (nI g &&& 31)) &&& 1 = 0) ↔ s.testBit g = false) := by decide +kernel
theorem bit_t {z : Int32} {s g : Nat} (hz : z = nI s) (hs : s < 64) (hg : g < 6) (h : ¬ ((z >>> (nI g &&& 31)) &&& 1) = 0) : s.testBit g = true := by
  subst hz
  rw [bit_64 s hs g hg] at h
  simpa using h
theorem bit_f {z : Int32} {s g : Nat} (hz : z = nI s) (hs : s < 64) (hg : g < 6) (h : ((z >>> (nI g &&& 31)) &&& 1) = 0) : s.testBit g = false := by
  subst hz
  exact (bit_64 s hs g hg).mp h
def nd (a b : Nat) : Nat := a ^^^ (a &&& b)
theorem nd_bit (a b j : Nat) : (nd a b).testBit j = (a.testBit j && !b.testBit j) := by
  unfold nd
  rw [Nat.testBit_xor, Nat.testBit_and]
  cases a.testBit j <;> cases b.testBit j <;> rfl
theorem nd_64 : ∀ a, a < 64 → ∀ b, b < 64 → nI a &&& (nI b ^^^ (-1)) = nI (nd a b) ∧ nd a b < 64 := by decide +kernel
theorem nd_lt {a b : Nat} (ha : a < 64) (hb : b < 64) : nd a b < 64 := (nd_64 a ha b hb).2
theorem nd_i {x y : Int32} {a b : Nat} (hx : x = nI a) (hy : y = nI b) (ha : a < 64) (hb : b < 64) : x &&& (y ^^^ (-1)) = nI (nd a b) := by subst hx; subst hy; exact (nd_64 a ha b hb).1
theorem set_ext {a b : Nat} (ha : a < 64) (hb : b < 64) (h : ∀ g, g < 6 → a.testBit g = b.testBit g) : a = b := by
  apply Nat.eq_of_testBit_eq
  intro i
  by_cases hi : i < 6
  · exact h i hi
  · have h1 : a < 2 ^ i := Nat.lt_of_lt_of_le ha (Nat.le_trans (by decide : 64 ≤ 2 ^ 6) (Nat.pow_le_pow_right (by decide) (by omega)))
    have h2 : b < 2 ^ i := Nat.lt_of_lt_of_le hb (Nat.le_trans (by decide : 64 ≤ 2 ^ 6) (Nat.pow_le_pow_right (by decide) (by omega)))
    rw [Nat.testBit_lt_two_pow h1, Nat.testBit_lt_two_pow h2]
/-- a mill's counts: grains, sieves, places of the row -/
def MW (m : Nat → Nat → Int32) (n sv pl : Nat) : Prop := m 9 0 = nI n ∧ n ≤ 6 ∧ m 9 1 = nI sv ∧ sv ≤ 8 ∧ m 9 2 = nI pl ∧ pl ≤ 6
/-- the load of a mill's first k grains -/
def ldS (m : Nat → Nat → Int32) (k : Nat) : Nat := bs (fun g => decide (0 < m 1 g)) k
theorem ldS_y {m : Nat → Nat → Int32} {z : Int32} {g : Nat} (hz : z = nI (ldS m g)) (hg : g < 6) (h : 0 < m 1 g) : z ||| ((1 : Int32) <<< (nI g &&& 31)) = nI (ldS m (g + 1)) := by
  rw [or_bit hz (bs_lt _ g) (by omega)]
  unfold ldS
  rw [bs, decide_eq_true h, if_pos rfl]
theorem ldS_n {m : Nat → Nat → Int32} {z : Int32} {g : Nat} (hz : z = nI (ldS m g)) (h : ¬ 0 < m 1 g) : z = nI (ldS m (g + 1)) := by
  rw [hz]
  unfold ldS
  rw [bs, decide_eq_false h]
  simp
/-- the amounts of a set together -/
def aS (f : Nat → Int32) (s : Nat) : Nat → Int32
  | 0 => 0
  | k + 1 => if s.testBit k then aS f s k + f k else aS f s k
/-- the least price in a set, 99 of none -/
def lS (f : Nat → Int32) (s : Nat) : Nat → Int32
  | 0 => 99
  | k + 1 => if s.testBit k then (if f k < lS f s k then f k else lS f s k) else lS f s k
theorem aS_y {f : Nat → Int32} {s g : Nat} {z : Int32} (hz : z = aS f s g) (h : s.testBit g = true) : z + f g = aS f s (g + 1) := by rw [aS, if_pos h, hz]
theorem aS_n {f : Nat → Int32} {s g : Nat} {z : Int32} (hz : z = aS f s g) (h : s.testBit g = false) : z = aS f s (g + 1) := by rw [aS, h, hz]; simp
theorem lS_y {f : Nat → Int32} {s g : Nat} {z : Int32} (hz : z = lS f s g) (h : s.testBit g = true) : (if f g < z then f g else z) = lS f s (g + 1) := by rw [lS, if_pos h, hz]
theorem lS_n {f : Nat → Int32} {s g : Nat} {z : Int32} (hz : z = lS f s g) (h : s.testBit g = false) : z = lS f s (g + 1) := by rw [lS, h, hz]; simp
def wS (m : Nat → Nat → Int32) (n s : Nat) : Int32 := aS (m 1) s n * lS (m 2) s n
/-- those of a set that are too big for a sieve -/
def bigS (m : Nat → Nat → Int32) (s : Int32) (came k : Nat) : Nat := bs (fun g => came.testBit g && !decide (atv (m 3) 8 s = 3 ∨ m 0 g ≤ atv (m 4) 8 s)) k
theorem bigS_y {m : Nat → Nat → Int32} {s z : Int32} {came g : Nat} (hz : z = nI (bigS m s came g)) (hg : g < 6) (h1 : came.testBit g = true) (h2 : ¬ (atv (m 3) 8 s = 3 ∨ m 0 g ≤ atv (m 4) 8 s)) : z ||| ((1 : Int32) <<< (nI g &&& 31)) = nI (bigS m s came (g + 1)) := by
  rw [or_bit hz (bs_lt _ g) (by omega)]
  unfold bigS
  rw [bs, h1, decide_eq_false h2]
  simp
theorem bigS_n1 {m : Nat → Nat → Int32} {s z : Int32} {came g : Nat} (hz : z = nI (bigS m s came g)) (h1 : came.testBit g = false) : z = nI (bigS m s came (g + 1)) := by
  rw [hz]
  unfold bigS
  rw [bs, h1]
  simp
theorem bigS_n2 {m : Nat → Nat → Int32} {s z : Int32} {came g : Nat} (hz : z = nI (bigS m s came g)) (h2 : atv (m 3) 8 s = 3 ∨ m 0 g ≤ atv (m 4) 8 s) : z = nI (bigS m s came (g + 1)) := by
  rw [hz]
  unfold bigS
  rw [bs, decide_eq_true h2]
  simp
def fallS (m : Nat → Nat → Int32) (n : Nat) (s : Int32) (came : Nat) : Nat := if atv (m 5) 8 s < aS (m 1) (bigS m s came n) n then 0 else nd came (bigS m s came n)
theorem fallS_lt {m : Nat → Nat → Int32} {n : Nat} {s : Int32} {came : Nat} (hn : n ≤ 6) (hc : came < 64) : fallS m n s came < 64 := by
  unfold fallS
  split
  · decide
  · exact nd_lt hc (bs_lt64 _ hn)
/-- what comes to the p-th place of a row -/
def cmS (m : Nat → Nat → Int32) (n : Nat) (row : Nat → Int32) : Nat → Nat
  | 0 => ldS m n
  | p + 1 => fallS m n (row p) (cmS m n row p)
theorem cmS_lt {m : Nat → Nat → Int32} {n : Nat} {row : Nat → Int32} (hn : n ≤ 6) : ∀ p, cmS m n row p < 64
  | 0 => bs_lt64 _ hn
  | p + 1 => fallS_lt hn (cmS_lt hn p)
/-- the heap at the p-th place of a row of l sieves -/
def hpS (m : Nat → Nat → Int32) (n : Nat) (row : Nat → Int32) (l p : Nat) : Nat := if p < l then nd (cmS m n row p) (cmS m n row (p + 1)) else cmS m n row l
theorem hpS_lt {m : Nat → Nat → Int32} {n : Nat} {row : Nat → Int32} {l p : Nat} (hn : n ≤ 6) : hpS m n row l p < 64 := by
  unfold hpS
  split
  · exact nd_lt (cmS_lt hn _) (cmS_lt hn _)
  · exact cmS_lt hn _
