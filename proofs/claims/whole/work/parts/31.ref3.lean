/-! the reference: heaps, wear, a try -/
theorem hA_inv {m : MS} {n : Nat} {row : Nat → Int32} {l g k : Nat} (hl : l ≤ 6) (hk : k ≤ l) : ∀ {j : Nat}, j ≤ l → hA m n row l j g = nI k → (k < j ∧ (cmS m n row k).testBit g = true ∧ (cmS m n row (k + 1)).testBit g = false) ∨ k = l
  | 0, _, h => by
    unfold hA at h
    split at h
    · rw [nI_eq (by omega) (by omega)] at h; exact Or.inr h.symm
    · exact absurd h (by have : ∀ k, k ≤ 6 → ¬ (-4 : Int32) = nI k := by decide
                         exact this k (by omega))
  | j + 1, hj, h => by
    unfold hA at h
    split at h
    · rename_i hc
      rw [nI_eq (by omega) (by omega)] at h
      subst h
      exact Or.inl ⟨by omega, hc⟩
    · rcases hA_inv hl hk (by omega) h with q | q
      · exact Or.inl ⟨by omega, q.2⟩
      · exact Or.inr q
theorem hA_st {m : MS} {n : Nat} {row : Nat → Int32} {l g k : Nat} (h1 : (cmS m n row k).testBit g = true) (h2 : (cmS m n row (k + 1)).testBit g = false) : ∀ d, hA m n row l (k + 1 + d) g = nI k ∧ (cmS m n row (k + 1 + d)).testBit g = false
  | 0 => ⟨if_pos ⟨h1, h2⟩, h2⟩
  | d + 1 => by
    have ihd := hA_st (l := l) h1 h2 d
    refine ⟨?_, ?_⟩
    · show (if (cmS m n row (k + 1 + d)).testBit g = true ∧ (cmS m n row (k + 1 + d + 1)).testBit g = false then nI (k + 1 + d) else hA m n row l (k + 1 + d) g) = nI k
      rw [if_neg (fun q => by rw [ihd.2] at q; exact absurd q.1 (by decide))]
      exact ihd.1
    · cases hq : (cmS m n row (k + 1 + (d + 1))).testBit g with
      | false => rfl
      | true => have := fall_sub (g := g) (show (fallS m n (row (k + 1 + d)) (cmS m n row (k + 1 + d))).testBit g = true from hq); rw [ihd.2] at this; exact absurd this (by decide)
/-- a grain is in the heap that its place tells -/
theorem hp_in {m : MS} {n : Nat} {row : Nat → Int32} {l g k : Nat} (hl : l ≤ 6) (hk : k ≤ l) (hg : g < n) : hA m n row l l g = nI k ↔ (hpS m n row l k).testBit g = true := by
  unfold hpS
  constructor
  · intro h
    by_cases e : k = l
    · subst e
      rw [if_neg (by omega)]
      cases q : (cmS m n row k).testBit g
      · exact absurd h (hA_out hg hl (Nat.le_refl _) q)
      · rfl
    · rcases hA_inv hl hk (Nat.le_refl _) h with q | q
      · rw [if_pos q.1, nd_bit, q.2.1, q.2.2]; rfl
      · exact absurd q e
  · intro h
    by_cases e : k = l
    · subst e
      rw [if_neg (by omega)] at h
      exact hA_in hg h
    · rw [if_pos (by omega), nd_bit] at h
      have h1 : (cmS m n row k).testBit g = true := by revert h; cases (cmS m n row k).testBit g <;> simp
      have h2 : (cmS m n row (k + 1)).testBit g = false := by revert h; cases (cmS m n row (k + 1)).testBit g <;> simp
      have := (hA_st (l := l) h1 h2 (l - (k + 1))).1
      rw [show k + 1 + (l - (k + 1)) = l by omega] at this
      exact this
theorem hp_n {m : MS} {n : Nat} {row : Nat → Int32} {l g k : Nat} (h : (hpS m n row l k).testBit g = true) : g < n := by
  unfold hpS at h
  split at h
  · rw [nd_bit] at h
    have h1 : (cmS m n row k).testBit g = true := by revert h; cases (cmS m n row k).testBit g <;> simp
    exact cm_lt h1
  · exact cm_lt h
theorem bs_self {s n : Nat} (h : ∀ g, s.testBit g = true → g < n) : bs (fun g => s.testBit g) n = s := by
  apply Nat.eq_of_testBit_eq
  intro g
  rw [bs_bit]
  cases q : s.testBit g
  · simp
  · rw [decide_eq_true (h g q)]; rfl
theorem gs_y {s g : Nat} {z : Int32} (hz : z = nI (bs (fun g => s.testBit g) g)) (hg : g < 6) (h : s.testBit g = true) : z ||| ((1 : Int32) <<< (nI g &&& 31)) = nI (bs (fun g => s.testBit g) (g + 1)) := by
  rw [or_bit hz (bs_lt _ g) (by omega), bs, if_pos h]
theorem gs_n {s g : Nat} {z : Int32} (hz : z = nI (bs (fun g => s.testBit g) g)) (h : ¬ s.testBit g = true) : z ||| 0 = nI (bs (fun g => s.testBit g) (g + 1)) := by
  rw [Int32.or_zero, hz, bs, if_neg h]; simp
theorem as_y {f : Nat → Int32} {s g : Nat} {z v : Int32} (hz : z = aS f s g) (hv : v = f g) (h : s.testBit g = true) : z + v = aS f s (g + 1) := by rw [aS, if_pos h, hz, hv]
theorem as_n {f : Nat → Int32} {s g : Nat} {z : Int32} (hz : z = aS f s g) (h : ¬ s.testBit g = true) : z + 0 = aS f s (g + 1) := by rw [Int32.add_zero, aS, if_neg h, hz]
/-- the least price in a set, 100 of none -/
def lQ (f : Nat → Int32) (s : Nat) : Nat → Int32
  | 0 => 100
  | k + 1 => if s.testBit k = true ∧ f k < lQ f s k then f k else lQ f s k
theorem lq_y {f : Nat → Int32} {s g : Nat} {y v : Int32} (hy : y = lQ f s g) (hv : v = f g) (h1 : s.testBit g = true) (h2 : v < y) : v = lQ f s (g + 1) := by
  rw [lQ, if_pos ⟨h1, by rw [← hy, ← hv]; exact h2⟩, hv]
theorem lq_n1 {f : Nat → Int32} {s g : Nat} {y v : Int32} (hy : y = lQ f s g) (hv : v = f g) (h2 : ¬ v < y) : y = lQ f s (g + 1) := by
  rw [lQ, if_neg (fun q => h2 (by rw [hy, hv]; exact q.2)), hy]
theorem lq_n2 {f : Nat → Int32} {s g : Nat} {y : Int32} (hy : y = lQ f s g) (h1 : ¬ s.testBit g = true) : y = lQ f s (g + 1) := by
  rw [lQ, if_neg (fun q => h1 q.1), hy]
theorem aS_none {f : Nat → Int32} {s : Nat} : ∀ {k : Nat}, (∀ g, g < k → ¬ s.testBit g = true) → aS f s k = 0
  | 0, _ => rfl
  | k + 1, h => by rw [aS, if_neg (h k (by omega))]; exact aS_none (fun g hg => h g (by omega))
theorem lq_ls {f : Nat → Int32} {s : Nat} : ∀ {k : Nat}, (∀ g, g < k → f g ≤ 99) → (lQ f s k = lS f s k ∧ lQ f s k ≤ 99) ∨ ((∀ g, g < k → ¬ s.testBit g = true) ∧ lQ f s k = 100 ∧ lS f s k = 99)
  | 0, _ => Or.inr ⟨fun g hg => absurd hg (Nat.not_lt_zero _), rfl, rfl⟩
  | k + 1, h => by
    have hk := h k (by omega)
    by_cases hb : s.testBit k = true
    · rcases lq_ls (s := s) (fun g hg => h g (Nat.lt_succ_of_lt hg)) with ⟨e, el⟩ | ⟨e1, e2, e3⟩
      · left
        rw [lQ, lS, if_pos hb]
        by_cases hc : f k < lQ f s k
        · rw [if_pos ⟨hb, hc⟩, if_pos (by rw [← e]; exact hc)]
          exact ⟨rfl, hk⟩
        · rw [if_neg (fun q => hc q.2), if_neg (by rw [← e]; exact hc)]
          exact ⟨e, el⟩
      · left
        rw [lQ, lS, if_pos hb, e2, e3]
        have h100 : f k < 100 := Int32.lt_of_le_of_lt hk (by decide)
        rw [if_pos ⟨hb, h100⟩]
        refine ⟨?_, hk⟩
        by_cases hc : f k < 99
        · rw [if_pos hc]
        · rw [if_neg hc]; exact Int32.le_antisymm hk (Int32.not_lt.mp hc)
    · rw [lQ, lS, if_neg hb, if_neg (fun q => hb q.1)]
      rcases lq_ls (s := s) (fun g hg => h g (Nat.lt_succ_of_lt hg)) with e | ⟨e1, e2⟩
      · exact Or.inl e
      · refine Or.inr ⟨fun g hg => ?_, e2⟩
        by_cases e : g = k
        · subst e; exact hb
        · exact e1 g (by omega)
theorem wq_z {m : MS} {n s : Nat} {y : Int32} (hp : ∀ g, g < n → m 2 g ≤ 99) (hy : y = lQ (m 2) s n) (h : y = 100) : 0 = wS m n s := by
  rw [hy] at h
  unfold wS
  rcases lq_ls (s := s) hp with ⟨e, el⟩ | ⟨e1, e2, e3⟩
  · rw [h] at el; exact absurd el (by decide)
  · rw [aS_none e1, Int32.zero_mul]
theorem wq_v {m : MS} {n s : Nat} {y : Int32} (hp : ∀ g, g < n → m 2 g ≤ 99) (hy : y = lQ (m 2) s n) (h : ¬ y = 100) : aS (m 1) s n * y = wS m n s := by
  rw [hy] at h ⊢
  unfold wS
  rcases lq_ls (s := s) hp with ⟨e, el⟩ | ⟨e1, e2, e3⟩
  · rw [e]
  · exact absurd e2 h
/-- the values of the heaps together -/
def vS (m : MS) (n : Nat) (row : Nat → Int32) (l : Nat) : Nat → Int32
  | 0 => 0
  | k + 1 => vS m n row l k + wS m n (hpS m n row l k)
/-- the mill with the wear of a row -/
def wrM (m : MS) (n : Nat) (row : Nat → Int32) : Nat → MS
  | 0 => m
  | k + 1 => if cmS m n row (k + 1) = 0 then wrM m n row k else widS (wrM m n row k) (row k)
theorem wr_off {m : MS} {n : Nat} {row : Nat → Int32} {j : Nat} (hj : Nat.beq j 4 = false) : ∀ k, wrM m n row k j = m j
  | 0 => rfl
  | k + 1 => by
    rw [wrM]
    split
    · exact wr_off hj k
    · show pA _ 4 _ j = m j
      unfold pA
      rw [hj]
      exact wr_off hj k
theorem wr_has {m : MS} {n : Nat} {row : Nat → Int32} {l k : Nat} {x : Int32} (hx : x = nI (flN m n row l)) (hl : l ≤ 6) (hk : k < l) : ((x >>> (nI k &&& 31)) &&& 1) = 1 ↔ ¬ cmS m n row (k + 1) = 0 := by
  subst hx
  have h1 : flN m n row l < 256 := Nat.lt_of_lt_of_le (bs_lt64 _ hl) (by decide)
  rw [has_b _ h1 k (by omega)]
  unfold flN
  rw [bs_bit, decide_eq_true hk, Bool.true_and]
  simp
theorem wr_n {m : MS} {n : Nat} {row mh : Nat → Int32} {k sv : Nat} (hm : ∀ s, s < sv → mh s = wrM m n row k 4 s) (hc : ¬ ¬ cmS m n row (k + 1) = 0) : ∀ s, s < sv → mh s = wrM m n row (k + 1) 4 s := by
  rw [wrM, if_pos (Decidable.not_not.mp hc)]; exact hm
theorem wr_y {m : MS} {n : Nat} {row mh : Nat → Int32} {k sv s : Nat} {V b w kd : Int32} (hm : ∀ s, s < sv → mh s = wrM m n row k 4 s) (hr : row k = nI s) (hs : s < sv) (hsv : sv ≤ 8) (hc : ¬ cmS m n row (k + 1) = 0) (hk : kd = m 3 s) (hw : w = m 6 s) (hb : b = tmS kd * w) (hV : V = if 60 < (mh s + b) then 60 else (mh s + b)) : ∀ j, j < sv → upd mh s V j = wrM m n row (k + 1) 4 j := by
  intro j hj
  rw [wrM, if_neg hc, hr]
  show upd mh s V j = putv (wrM m n row k 4) 8 (nI s) _ j
  rw [putv_n (by omega) (by decide), atv_n (by omega) (by decide), atv_n (by omega) (by decide), atv_n (by omega) (by decide), wr_off (j := 3) rfl k, wr_off (j := 6) rfl k, ← hm s hs, ← hk, ← hw, ← hb, ← hV]
  show (if j = s then V else mh j) = (if j = s then V else wrM m n row k 4 j)
  by_cases e : j = s
  · rw [if_pos e, if_pos e]
  · rw [if_neg e, if_neg e, hm j hj]
theorem by_1 {kd w : Int32} (h : kd = 1) : 0 = tmS kd * w := by
  subst h; unfold tmS; rw [if_pos rfl, Int32.zero_mul]
theorem by_2 {kd w : Int32} (h1 : ¬ kd < 2) : 2 * w = tmS kd * w := by
  unfold tmS
  rw [if_neg, if_neg]
  · intro q; subst q; exact h1 (by decide)
  · intro q; subst q; exact h1 (by decide)
theorem by_0 {kd w : Int32} (h0 : 0 ≤ kd) (h : ¬ kd = 1) (h1 : kd < 2) : w = tmS kd * w := by
  have e : kd = 0 := by
    rw [Int32.lt_iff_toInt_lt] at h1
    rw [Int32.le_iff_toInt_le] at h0
    have h : ¬ kd.toInt = (1 : Int32).toInt := fun q => h (Int32.toInt_inj.mp q)
    apply Int32.toInt_inj.mp
    have e0 : (0 : Int32).toInt = 0 := by decide
    have e1 : (1 : Int32).toInt = 1 := by decide
    have e2 : (2 : Int32).toInt = 2 := by decide
    omega
  subst e
  unfold tmS
  rw [if_neg (by decide), if_pos rfl, Int32.one_mul]
/-- how the reference's tables tell a mill -/
def TQ (q m : MS) (n sv pl : Nat) : Prop := (∀ g, g < n → q 0 g = m 0 g ∧ q 1 g = m 1 g ∧ q 2 g = m 2 g) ∧ (∀ s, s < sv → q 3 (4 * s) = m 3 s ∧ q 3 (4 * s + 1) = m 4 s ∧ q 3 (4 * s + 2) = m 5 s ∧ q 3 (4 * s + 3) = m 6 s) ∧ (∀ k, k < pl → q 4 k = m 7 k ∧ ∃ s, s < sv ∧ m 7 k = nI s) ∧ q 18 0 = nI n ∧ q 18 1 = nI sv ∧ q 18 2 = nI pl ∧ q 18 3 = m 9 3
theorem sa_mk {q m st : MS} {n sv pl : Nat} (h : TQ q m n sv pl) (e0 : st 0 = q 0) (e1 : st 1 = q 1) (e3 : st 3 = q 3) (hb : ∀ s, s < sv → st 8 s = q 3 (4 * s) ∧ st 9 s = q 3 (4 * s + 1)) : SA st m n sv := by
  refine ⟨fun g hg => ?_, fun s hs => ?_⟩
  · rw [e0, e1]; exact ⟨(h.1 g hg).1, (h.1 g hg).2.1⟩
  · rw [e3]; exact ⟨(hb s hs).1.trans (h.2.1 s hs).1, (hb s hs).2.trans (h.2.1 s hs).2.1, (h.2.1 s hs).2.2.1⟩
theorem ra_mk {q m : MS} {n sv pl : Nat} {f : Nat → Int32} (h : TQ q m n sv pl) (hb : ∀ k, k < pl → f k = q 4 k) : RA f (m 7) pl sv := fun k hk => ⟨(hb k hk).trans (h.2.2.1 k hk).1, (h.2.2.1 k hk).2⟩
theorem z_keep {zz z mh : Nat → Int32} {s : Nat} (hz : ∀ j, j < s → zz (4 * j + 1) = mh j) (hs : zz = zz) : upd zz (4 * s + 1) (mh s) (4 * s + 1) = mh s := if_pos rfl
