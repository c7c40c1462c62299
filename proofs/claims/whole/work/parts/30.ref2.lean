/-! the reference: one shaking, pure -/
theorem has_b : ∀ s, s < 256 → ∀ g, g < 8 → (((nI s >>> (nI g &&& 31)) &&& 1 = 1) ↔ s.testBit g = true) := by decide +kernel
abbrev passP (m : MS) (r : Int32) (g : Nat) : Prop := atv (m 3) 8 r = 3 ∨ m 0 g ≤ atv (m 4) 8 r
abbrev chkP (m : MS) (n : Nat) (r : Int32) (c : Nat) : Prop := atv (m 5) 8 r < aS (m 1) (bigS m r c n) n
theorem big_bit {m : MS} {r : Int32} {c n g : Nat} (hg : g < n) : (bigS m r c n).testBit g = (c.testBit g && !decide (passP m r g)) := by
  unfold bigS
  rw [bs_bit, decide_eq_true hg, Bool.true_and]
theorem fall_ch {m : MS} {n : Nat} {r : Int32} {c : Nat} (h : chkP m n r c) : fallS m n r c = 0 := if_pos h
theorem fall_nc {m : MS} {n : Nat} {r : Int32} {c : Nat} (h : ¬ chkP m n r c) : fallS m n r c = nd c (bigS m r c n) := if_neg h
theorem fal_bit {m : MS} {n : Nat} {r : Int32} {c g : Nat} (h : ¬ chkP m n r c) (hg : g < n) : (fallS m n r c).testBit g = (c.testBit g && decide (passP m r g)) := by
  rw [fall_nc h, nd_bit, big_bit hg]
  cases c.testBit g <;> cases decide (passP m r g) <;> rfl
theorem fall_sub {m : MS} {n : Nat} {r : Int32} {c g : Nat} (h : (fallS m n r c).testBit g = true) : c.testBit g = true := by
  by_cases hc : chkP m n r c
  · rw [fall_ch hc] at h; simp at h
  · rw [fall_nc hc, nd_bit] at h
    revert h
    cases c.testBit g <;> simp
theorem cm_lt {m : MS} {n : Nat} {row : Nat → Int32} {g : Nat} : ∀ {k : Nat}, (cmS m n row k).testBit g = true → g < n
  | 0, h => by
    unfold cmS ldS at h
    rw [bs_bit] at h
    simp at h
    exact h.1
  | k + 1, h => cm_lt (k := k) (fall_sub h)
/-- is there a grain below g of those that come which passes -/
def flB (m : MS) (r : Int32) (c : Nat) : Nat → Bool
  | 0 => false
  | g + 1 => flB m r c g || (c.testBit g && decide (passP m r g))
theorem flB_iff {m : MS} {r : Int32} {c : Nat} : ∀ {k : Nat}, flB m r c k = true ↔ ∃ g, g < k ∧ c.testBit g = true ∧ passP m r g
  | 0 => by simp [flB]
  | k + 1 => by
    unfold flB
    rw [Bool.or_eq_true, flB_iff, Bool.and_eq_true, decide_eq_true_iff]
    constructor
    · rintro (⟨g, h1, h2⟩ | h)
      · exact ⟨g, by omega, h2⟩
      · exact ⟨k, by omega, h⟩
    · rintro ⟨g, h1, h2⟩
      by_cases e : g = k
      · subst e; exact Or.inr h2
      · exact Or.inl ⟨g, by omega, h2⟩
theorem fall_z {m : MS} {n : Nat} {row : Nat → Int32} {k : Nat} (hc : ¬ chkP m n (row k) (cmS m n row k)) : flB m (row k) (cmS m n row k) n = true ↔ ¬ cmS m n row (k + 1) = 0 := by
  constructor
  · intro h e
    obtain ⟨g, h1, h2, h3⟩ := flB_iff.mp h
    have q : (cmS m n row (k + 1)).testBit g = true := by
      show (fallS m n (row k) (cmS m n row k)).testBit g = true
      rw [fal_bit hc h1, h2, decide_eq_true h3]; rfl
    rw [e] at q
    simp at q
  · intro h
    obtain ⟨g, hg⟩ := Nat.exists_testBit_of_ne_zero h
    have h1 := cm_lt hg
    have q : (fallS m n (row k) (cmS m n row k)).testBit g = true := hg
    rw [fal_bit hc h1, Bool.and_eq_true, decide_eq_true_iff] at q
    exact flB_iff.mpr ⟨g, h1, q⟩
/-- the choking places of any row -/
def chR (m : MS) (n : Nat) (row : Nat → Int32) : Nat → Int32
  | 0 => 0
  | p + 1 => if chkP m n (row p) (cmS m n row p) then chR m n row p ||| ((1 : Int32) <<< (nI p &&& 31)) else chR m n row p
theorem chR_S {m : MS} {n : Nat} : ∀ p, chR m n (m 7) p = chS m n p
  | 0 => rfl
  | p + 1 => by unfold chR chS; rw [chR_S p]
/-- the places where something falls -/
def flN (m : MS) (n : Nat) (row : Nat → Int32) (k : Nat) : Nat := bs (fun p => !decide (cmS m n row (p + 1) = 0)) k
theorem fl_y {m : MS} {n : Nat} {row : Nat → Int32} {k : Nat} {x : Int32} (hx : x = nI (flN m n row k)) (hk : k < 31) (h : ¬ cmS m n row (k + 1) = 0) : x ||| ((1 : Int32) <<< (nI k &&& 31)) = nI (flN m n row (k + 1)) := by
  rw [or_bit hx (bs_lt _ k) hk]
  unfold flN
  rw [bs, decide_eq_false h]; rfl
theorem fl_n {m : MS} {n : Nat} {row : Nat → Int32} {k : Nat} {x : Int32} (hx : x = nI (flN m n row k)) (h : cmS m n row (k + 1) = 0) : x ||| 0 = nI (flN m n row (k + 1)) := by
  rw [Int32.or_zero, hx]
  unfold flN
  rw [bs, decide_eq_true h]; rfl
/-- where a grain is when k places are shaken: the number of the row's places while it falls -/
def hA (m : MS) (n : Nat) (row : Nat → Int32) (l : Nat) : Nat → Nat → Int32
  | 0, g => if 0 < m 1 g then nI l else -4
  | k + 1, g => if (cmS m n row k).testBit g = true ∧ (cmS m n row (k + 1)).testBit g = false then nI k else hA m n row l k g
theorem ld_bit {m : MS} {n g : Nat} (hg : g < n) : (ldS m n).testBit g = decide (0 < m 1 g) := by
  unfold ldS
  rw [bs_bit, decide_eq_true hg, Bool.true_and]
theorem hA_in {m : MS} {n : Nat} {row : Nat → Int32} {l g : Nat} (hg : g < n) : ∀ {k : Nat}, (cmS m n row k).testBit g = true → hA m n row l k g = nI l
  | 0, h => by
    have h : (ldS m n).testBit g = true := h
    rw [ld_bit hg, decide_eq_true_iff] at h
    exact if_pos h
  | k + 1, h => by
    unfold hA
    rw [if_neg (fun q => by rw [q.2] at h; exact absurd h (by decide))]
    exact hA_in hg (fall_sub h)
theorem hA_out {m : MS} {n : Nat} {row : Nat → Int32} {l g : Nat} (hg : g < n) (hl : l ≤ 6) : ∀ {k : Nat}, k ≤ l → (cmS m n row k).testBit g = false → ¬ hA m n row l k g = nI l
  | 0, _, h => by
    have h : (ldS m n).testBit g = false := h
    rw [ld_bit hg, decide_eq_false_iff_not] at h
    unfold hA
    rw [if_neg h]
    have : ∀ l, l ≤ 6 → ¬ (-4 : Int32) = nI l := by decide
    exact this l hl
  | k + 1, hk, h => by
    unfold hA
    by_cases hc : (cmS m n row k).testBit g = true
    · rw [if_pos ⟨hc, h⟩]
      intro e
      rw [nI_eq (by omega) (by omega)] at e
      omega
    · rw [if_neg (fun q => hc q.1)]
      exact hA_out hg hl (by omega) (by simpa using hc)
theorem hA_lt {m : MS} {n : Nat} {row : Nat → Int32} {l g : Nat} : ∀ {k : Nat}, k ≤ l → hA m n row l k g = -4 ∨ ∃ j, j ≤ l ∧ hA m n row l k g = nI j
  | 0, _ => by
    unfold hA
    split
    · exact Or.inr ⟨l, by omega, rfl⟩
    · exact Or.inl rfl
  | k + 1, hk => by
    unfold hA
    split
    · exact Or.inr ⟨k, by omega, rfl⟩
    · exact hA_lt (by omega)
/-- a grain's heap out of the heaps -/
theorem hA_ho {m : MS} {n : Nat} {row : Nat → Int32} {l g : Nat} (hg : g < n) : hA m n row l l g = hoR (hpS m n row l) g (l + 1) 0 := by
  have key : ∀ f k, k + f = l → (∀ j, j < k → (hpS m n row l j).testBit g = false) → (∀ j, j ≤ l → j < k → ((cmS m n row j).testBit g = (cmS m n row k).testBit g)) → (cmS m n row 0).testBit g = (cmS m n row k).testBit g → hA m n row l k g = hA m n row l 0 g → hA m n row l l g = hoR (hpS m n row l) g (f + 1) k := by
    intro f
    induction f with
    | zero =>
      intro k hk h1 h2 h3 h4
      have e : k = l := by omega
      subst e
      unfold hoR
      have ep : hpS m n row k k = cmS m n row k := if_neg (by omega)
      rw [ep]
      by_cases hb : (cmS m n row k).testBit g = true
      · rw [if_pos hb]; exact hA_in hg hb
      · rw [if_neg hb, h4]
        have hb2 : (cmS m n row k).testBit g = false := by simpa using hb
        rw [← h3] at hb2
        have hb2 : (ldS m n).testBit g = false := hb2
        rw [ld_bit hg, decide_eq_false_iff_not] at hb2
        show (if 0 < m 1 g then nI k else -4) = hoR (hpS m n row k) g 0 (k + 1)
        rw [if_neg hb2]
        rfl
    | succ f ih =>
      intro k hk h1 h2 h3 h4
      unfold hoR
      have ep : hpS m n row l k = nd (cmS m n row k) (cmS m n row (k + 1)) := if_pos (by omega)
      by_cases hb : (hpS m n row l k).testBit g = true
      · rw [if_pos hb]
        rw [ep, nd_bit] at hb
        have hb1 : (cmS m n row k).testBit g = true := by revert hb; cases (cmS m n row k).testBit g <;> simp
        have hb2 : (cmS m n row (k + 1)).testBit g = false := by revert hb; cases (cmS m n row (k + 1)).testBit g <;> simp
        have e1 : hA m n row l (k + 1) g = nI k := if_pos ⟨hb1, hb2⟩
        have e2 : ∀ d, hA m n row l (k + 1 + d) g = nI k ∧ (cmS m n row (k + 1 + d)).testBit g = false := by
          intro d
          induction d with
          | zero => exact ⟨e1, hb2⟩
          | succ d ihd =>
            refine ⟨?_, ?_⟩
            · show (if (cmS m n row (k + 1 + d)).testBit g = true ∧ (cmS m n row (k + 1 + d + 1)).testBit g = false then nI (k + 1 + d) else hA m n row l (k + 1 + d) g) = nI k
              rw [if_neg (fun q => by rw [ihd.2] at q; exact absurd q.1 (by decide))]
              exact ihd.1
            · cases hq : (cmS m n row (k + 1 + (d + 1))).testBit g with
              | false => rfl
              | true => have := fall_sub (g := g) (show (fallS m n (row (k + 1 + d)) (cmS m n row (k + 1 + d))).testBit g = true from hq); rw [ihd.2] at this; exact absurd this (by decide)
        have := (e2 f).1
        rw [show k + 1 + f = l by omega] at this
        exact this
      · rw [if_neg hb]
        have hb' : (hpS m n row l k).testBit g = false := by simpa using hb
        rw [ep, nd_bit] at hb'
        have hs : (cmS m n row (k + 1)).testBit g = (cmS m n row k).testBit g := by
          cases hq : (cmS m n row (k + 1)).testBit g with
          | true => exact (fall_sub (g := g) (show (fallS m n (row k) (cmS m n row k)).testBit g = true from hq)).symm
          | false => rw [hq] at hb'; revert hb'; cases (cmS m n row k).testBit g <;> simp
        refine ih (k + 1) (by omega) (fun j hj => ?_) (fun j hj hj2 => ?_) (h3.trans hs.symm) ?_
        · by_cases e : j = k
          · subst e; simpa using hb
          · exact h1 j (by omega)
        · by_cases e : j = k
          · subst e; exact hs.symm
          · rw [h2 j hj (by omega), hs]
        · rw [← h4]
          exact if_neg (fun q => by rw [hs] at q; rw [q.1] at q; exact absurd q.2 (by decide))
  have := key l 0 (by omega) (fun j hj => absurd hj (Nat.not_lt_zero _)) (fun j _ hj => absurd hj (Nat.not_lt_zero _)) rfl rfl
  exact this
/-- the reference's tables for a shaking -/
def SA (q m : MS) (n sv : Nat) : Prop := (∀ g, g < n → q 0 g = m 0 g ∧ q 1 g = m 1 g) ∧ ∀ s, s < sv → q 8 s = m 3 s ∧ q 9 s = m 4 s ∧ q 3 (4 * s + 2) = m 5 s
def RA (f row : Nat → Int32) (l sv : Nat) : Prop := ∀ k, k < l → f k = row k ∧ ∃ s, s < sv ∧ row k = nI s
theorem sa_pass {q m : MS} {n sv s g : Nat} {r : Int32} (h : SA q m n sv) (hs : s < sv) (hsv : sv ≤ 8) (hr : r = nI s) (hg : g < n) : (q 8 s = 3 ∨ q 0 g ≤ q 9 s) ↔ passP m r g := by
  subst hr
  unfold passP
  rw [atv_n (by omega) (by decide), atv_n (by omega) (by decide), (h.2 s hs).1, (h.2 s hs).2.1, (h.1 g hg).1]
theorem sa_chk {q m : MS} {n sv s c : Nat} {r : Int32} (h : SA q m n sv) (hs : s < sv) (hsv : sv ≤ 8) (hr : r = nI s) : (q 3 (4 * s + 2) < aS (m 1) (bigS m r c n) n) ↔ chkP m n r c := by
  subst hr
  unfold chkP
  rw [atv_n (by omega) (by decide), (h.2 s hs).2.2]
theorem sa_y {m : MS} {r y v : Int32} {c n g : Nat} (hy : y = aS (m 1) (bigS m r c n) g) (hg : g < n) (hc : c.testBit g = true) (hp : ¬ passP m r g) (hv : v = m 1 g) : y + v = aS (m 1) (bigS m r c n) (g + 1) := by
  rw [aS, big_bit hg, hc, decide_eq_false hp, hy, hv]; rfl
theorem sa_n {m : MS} {r y : Int32} {c n g : Nat} (hy : y = aS (m 1) (bigS m r c n) g) (hg : g < n) (h : c.testBit g = false ∨ passP m r g) : y + 0 = aS (m 1) (bigS m r c n) (g + 1) := by
  rw [Int32.add_zero, aS, big_bit hg, hy]
  rcases h with h | h
  · rw [h]; rfl
  · rw [decide_eq_true h]; simp
theorem sf_y {m : MS} {r z : Int32} {c g : Nat} (hz : z = if flB m r c g = true then 1 else 0) (h : (c.testBit g = true ∧ passP m r g) ∨ ¬ z = 0) : (1 : Int32) = if flB m r c (g + 1) = true then 1 else 0 := by
  rw [if_pos]
  unfold flB
  rcases h with h | h
  · rw [h.1, decide_eq_true h.2]; simp
  · by_cases q : flB m r c g = true
    · rw [q]; rfl
    · rw [if_neg q] at hz; exact absurd hz h
theorem sf_n {m : MS} {r z : Int32} {c g : Nat} (hz : z = if flB m r c g = true then 1 else 0) (h : c.testBit g = false ∨ ¬ passP m r g) (h0 : z = 0) : (0 : Int32) = if flB m r c (g + 1) = true then 1 else 0 := by
  rw [if_neg]
  unfold flB
  have q : flB m r c g = false := by
    cases q : flB m r c g
    · rfl
    · rw [q, if_pos rfl, h0] at hz; exact absurd hz (by decide)
  rw [q]
  rcases h with h | h
  · rw [h]; simp
  · rw [decide_eq_false h]; simp
theorem so_eq {m : MS} {n : Nat} {row h : Nat → Int32} {l k g : Nat} {x : Int32} (hx : x = nI l) (hg : g < n) (hl : l ≤ 6) (hk : k ≤ l) (hh : h g = hA m n row l k g) (e : h g = x) : (cmS m n row k).testBit g = true := by
  cases q : (cmS m n row k).testBit g
  · exact absurd (by rw [← hh, e, hx]) (hA_out (l := l) (row := row) hg hl hk q)
  · rfl
theorem so_ne {m : MS} {n : Nat} {row h : Nat → Int32} {l k g : Nat} {x : Int32} (hx : x = nI l) (hg : g < n) (hh : h g = hA m n row l k g) (e : ¬ h g = x) : (cmS m n row k).testBit g = false := by
  cases q : (cmS m n row k).testBit g
  · rfl
  · exact absurd (by rw [hh, hx]; exact hA_in hg q) e
theorem sh_y {m : MS} {n : Nat} {row : Nat → Int32} {l k g : Nat} (hg : g < n) (hc : (cmS m n row k).testBit g = true) (h : chkP m n (row k) (cmS m n row k) ∨ ¬ passP m (row k) g) : nI k = hA m n row l (k + 1) g := by
  refine (if_pos ⟨hc, ?_⟩).symm
  show (fallS m n (row k) (cmS m n row k)).testBit g = false
  by_cases q : chkP m n (row k) (cmS m n row k)
  · rw [fall_ch q]; simp
  · rw [fal_bit q hg, hc, decide_eq_false (h.resolve_left q)]; rfl
theorem sh_n1 {m : MS} {n : Nat} {row : Nat → Int32} {l k g : Nat} (hc : (cmS m n row k).testBit g = false) : hA m n row l k g = hA m n row l (k + 1) g := by
  exact (if_neg (fun q => by rw [hc] at q; exact absurd q.1 (by decide))).symm
theorem sh_n2 {m : MS} {n : Nat} {row : Nat → Int32} {l k g : Nat} (hg : g < n) (hc : (cmS m n row k).testBit g = true) (h : ¬ chkP m n (row k) (cmS m n row k)) (hp : passP m (row k) g) : hA m n row l k g = hA m n row l (k + 1) g := by
  refine (if_neg (fun q => ?_)).symm
  have : (fallS m n (row k) (cmS m n row k)).testBit g = false := q.2
  rw [fal_bit h hg, hc, decide_eq_true hp] at this
  exact absurd this (by decide)
theorem pre_s {f h : Nat → Int32} {i : Nat} (hh : ∀ j, j < i → h j = f j) (hx : h i = f i) : ∀ j, j < i + 1 → h j = f j := fun j hj => by
  by_cases e : j = i
  · subst e; exact hx
  · exact hh j (by omega)
theorem upd_aft {f h : Nat → Int32} {i n : Nat} {x : Int32} (hh : ∀ j, i ≤ j → j < n → h j = f j) : ∀ j, i + 1 ≤ j → j < n → upd h i x j = f j := fun j hj hj2 => by
  show (if j = i then x else h j) = f j
  rw [if_neg (by omega)]; exact hh j (by omega) hj2
theorem aft_s {f h : Nat → Int32} {i n : Nat} (hh : ∀ j, i ≤ j → j < n → h j = f j) : ∀ j, i + 1 ≤ j → j < n → h j = f j := fun j hj hj2 => hh j (by omega) hj2
theorem fl_0 {m : MS} {n : Nat} {row : Nat → Int32} {k : Nat} {z : Int32} (hz : z = if flB m (row k) (cmS m n row k) n = true then 1 else 0) (hc : ¬ chkP m n (row k) (cmS m n row k)) (h : z = 0) : cmS m n row (k + 1) = 0 := by
  by_cases q : cmS m n row (k + 1) = 0
  · exact q
  · rw [if_pos ((fall_z hc).mpr q), h] at hz; exact absurd hz (by decide)
theorem fl_1 {m : MS} {n : Nat} {row : Nat → Int32} {k : Nat} {z : Int32} (hz : z = if flB m (row k) (cmS m n row k) n = true then 1 else 0) (hc : ¬ chkP m n (row k) (cmS m n row k)) (h : ¬ z = 0) : ¬ cmS m n row (k + 1) = 0 := by
  intro q
  rw [if_neg (fun w => (fall_z hc).mp w q)] at hz
  exact h hz
theorem chR_y {m : MS} {n : Nat} {row : Nat → Int32} {k : Nat} {y : Int32} (hy : y = chR m n row k) (h : chkP m n (row k) (cmS m n row k)) : y ||| ((1 : Int32) <<< (nI k &&& 31)) = chR m n row (k + 1) := by rw [chR, if_pos h, hy]
theorem chR_n {m : MS} {n : Nat} {row : Nat → Int32} {k : Nat} {y : Int32} (hy : y = chR m n row k) (h : ¬ chkP m n (row k) (cmS m n row k)) : y ||| 0 = chR m n row (k + 1) := by rw [chR, if_neg h, hy, Int32.or_zero]
theorem ha0_y {m : MS} {n l g : Nat} {row : Nat → Int32} {x v : Int32} (hx : x = nI l) (hv : v = m 1 g) (h : 0 < v) : x = hA m n row l 0 g := by
  rw [hx]; exact (if_pos (hv ▸ h)).symm
theorem ha0_n {m : MS} {n l g : Nat} {row : Nat → Int32} {v : Int32} (hv : v = m 1 g) (h : ¬ 0 < v) : -4 = hA m n row l 0 g := (if_neg (hv ▸ h)).symm
set_option maxHeartbeats 4000000 in
set_option maxRecDepth 100000 in
theorem c_X5_shakeOnce (cI cS : ClassId) (a : Nat → Nat) (q : Nat → Nat → Int32) {n : Nat} (hgr : q 18 0 = nI n) (hn6 : n ≤ 6) {l : Nat} (htm : q 18 7 = nI l) (hl6 : l ≤ 6) {sv : Nat} (hsv8 : sv ≤ 8) (m : MS) (row : Nat → Int32) (hSA : SA q m n sv) (hRA : RA (q 7) row l sv) : CT cI cS yX5_shakeOnce cX5_shakeOnce 7 none 1 [.ref (a 0)] (modelW cI a q) 0 0 (fun u : (Nat → Int32) => ∀ g, g < n → u g = hA m n row l l g) (fun u => none) (fun u => (modelW cI a (pA (pA q 10 u) 18 (upd (upd (q 18) 8 (chR m n row l)) 9 (nI (flN m n row l)))))) := by
  refine ct_intro (by decide) (Nat.le_of_ble_eq_true rfl) (fun E Q hE hQ hI => ?_)
  have hE : CxOk E cI cS RX5 cX5_shakeOnce 7 none 1 0 0 := hE
  show Go E Q 7 0 0 0 [(0, .ref (a 0))] [] (modelW cI a q)
  refine g_aload_n hE dX5_shakeOnce_0 0 rfl ?_
  refine g_iconst hE dX5_shakeOnce_1 0 (by decide) ?_
  refine g_put hE fl_X5_167 fp_5_19 dX5_shakeOnce_2 0 rfl rfl rfl (Nat.le_of_ble_eq_true rfl) (modelW cI a (pA q 18 (upd (q 18) 8 0))) (by rfl) ?_
  refine g_aload_n hE dX5_shakeOnce_5 0 rfl ?_
  refine g_iconst hE dX5_shakeOnce_6 0 (by decide) ?_
  refine g_put hE fl_X5_170 fp_5_20 dX5_shakeOnce_7 0 rfl rfl rfl (Nat.le_of_ble_eq_true rfl) (modelW cI a (pA (pA q 18 (upd (q 18) 8 0)) 18 (upd (upd (q 18) 8 0) 9 0))) (by rfl) ?_
  refine g_iconst hE dX5_shakeOnce_10 0 (by decide) ?_
  refine g_istore_n hE dX5_shakeOnce_11 [(1, .int 0), (0, .ref (a 0))] rfl (by decide) rfl ?_
  have L12 : ∀ (n_12 : Nat) (g0 : Nat) (h : Nat → Int32), (g0 ≤ n) → (∀ j, j < g0 → h j = hA m n row l 0 j) → (n - g0 < n_12) → Go E Q 7 0 0 12 [(0, .ref (a 0)), (1, .int (nI g0))] [] (modelW cI a (pA (pA q 10 h) 18 (upd (upd (q 18) 8 0) 9 0))) := by
    intro n_12
    induction n_12 with
    | zero => intro g0 h hg hh hm_12; exact absurd hm_12 (Nat.not_lt_zero _)
    | succ n_12 ih_12 =>
      intro g0 h hg hh hm_12
      refine g_iload_n hE dX5_shakeOnce_12 1 rfl ?_
      refine g_aload_n hE dX5_shakeOnce_13 0 rfl ?_
      refine g_get hE fl_X5_64 dX5_shakeOnce_14 0 rfl rfl ?_
      refine g_icmp_ge hE 50 dX5_shakeOnce_17 (by decide) (fun c1 => ?_) (fun c1 => ?_)
      · have kc1 := nat_le_t (show (q 18 0) = nI n from hgr) (show (nI g0) = nI g0 from rfl) (by omega) (by omega) c1
        refine g_iconst hE dX5_shakeOnce_50 0 (by decide) ?_
        refine g_istore_n hE dX5_shakeOnce_51 [(1, .int 0), (0, .ref (a 0))] rfl (by decide) rfl ?_
        have L52 : ∀ (n_52 : Nat) (k : Nat) (h : Nat → Int32) (cho : Int32) (fal : Int32), (k ≤ l) → (∀ j, j < n → h j = hA m n row l k j) → (cho = chR m n row k) → (fal = nI (flN m n row k)) → (l - k < n_52) → Go E Q 7 0 0 52 [(0, .ref (a 0)), (1, .int (nI k))] [] (modelW cI a (pA (pA q 10 h) 18 (upd (upd (q 18) 8 cho) 9 fal))) := by
          intro n_52
          induction n_52 with
          | zero => intro k h cho fal hk hh hcho hfal hm_52; exact absurd hm_52 (Nat.not_lt_zero _)
          | succ n_52 ih_52 =>
            intro k h cho fal hk hh hcho hfal hm_52
            refine g_iload_n hE dX5_shakeOnce_52 1 rfl ?_
            refine g_aload_n hE dX5_shakeOnce_53 0 rfl ?_
            refine g_get hE fl_X5_164 dX5_shakeOnce_54 0 rfl rfl ?_
            refine g_icmp_ge hE 311 dX5_shakeOnce_57 (by decide) (fun c2 => ?_) (fun c2 => ?_)
            · have kc2 := nat_le_t (show (q 18 7) = nI l from htm) (show (nI k) = nI k from rfl) (by omega) (by omega) c2
              have el : k = l := (by omega)
              rw [el] at hh hcho hfal
              subst hcho
              subst hfal
              exact g_vret hE hQ dX5_shakeOnce_311 h rfl rfl hh
            · have kc2 := nat_le_f (show (q 18 7) = nI l from htm) (show (nI k) = nI k from rfl) (by omega) (by omega) c2
              refine g_aload_n hE dX5_shakeOnce_60 0 rfl ?_
              refine g_get hE fl_X5_31 dX5_shakeOnce_61 0 rfl rfl ?_
              refine g_iload_n hE dX5_shakeOnce_64 1 rfl ?_
              refine g_iald_n hE dX5_shakeOnce_65 8 rfl (show (nI k) = nI k from rfl) (by omega) ?_
              obtain ⟨hr0, s, hs, hr⟩ := hRA k (by omega)
              have hs2 : (q 7 k) = nI s := hr0.trans hr
              refine g_istore_n hE dX5_shakeOnce_66 [(2, .int ((q 7) k)), (0, .ref (a 0)), (1, .int (nI k))] rfl (by decide) rfl ?_
              refine g_iconst hE dX5_shakeOnce_67 0 (by decide) ?_
              refine g_istore_n hE dX5_shakeOnce_68 [(3, .int 0), (2, .int ((q 7) k)), (0, .ref (a 0)), (1, .int (nI k))] rfl (by decide) rfl ?_
              refine g_iconst hE dX5_shakeOnce_69 0 (by decide) ?_
              refine g_istore hE dX5_shakeOnce_70 [(4, .int 0), (3, .int 0), (2, .int ((q 7) k)), (0, .ref (a 0)), (1, .int (nI k))] (by decide) rfl ?_
              refine g_iconst hE dX5_shakeOnce_72 0 (by decide) ?_
              refine g_istore hE dX5_shakeOnce_73 [(5, .int 0), (4, .int 0), (3, .int 0), (2, .int ((q 7) k)), (0, .ref (a 0)), (1, .int (nI k))] (by decide) rfl ?_
              have L75 : ∀ (n_75 : Nat) (g : Nat) (y : Int32) (z : Int32), (g ≤ n) → (y = aS (m 1) (bigS m (row k) (cmS m n row k) n) g) → (z = if flB m (row k) (cmS m n row k) g = true then 1 else 0) → (n - g < n_75) → Go E Q 7 0 0 75 [(0, .ref (a 0)), (1, .int (nI k)), (2, .int ((q 7) k)), (3, .int y), (4, .int z), (5, .int (nI g))] [] (modelW cI a (pA (pA q 10 h) 18 (upd (upd (q 18) 8 cho) 9 fal))) := by
                intro n_75
                induction n_75 with
                | zero => intro g y z hg hy hz hm_75; exact absurd hm_75 (Nat.not_lt_zero _)
                | succ n_75 ih_75 =>
                  intro g y z hg hy hz hm_75
                  refine g_iload hE dX5_shakeOnce_75 5 rfl ?_
                  refine g_aload_n hE dX5_shakeOnce_77 0 rfl ?_
                  refine g_get hE fl_X5_64 dX5_shakeOnce_78 0 rfl rfl ?_
                  refine g_icmp_ge hE 177 dX5_shakeOnce_81 (by decide) (fun c3 => ?_) (fun c3 => ?_)
                  · have kc3 := nat_le_t (show (q 18 0) = nI n from hgr) (show (nI g) = nI g from rfl) (by omega) (by omega) c3
                    have en : g = n := (by omega)
                    rw [en] at hy hz
                    refine g_iload_n hE dX5_shakeOnce_177 3 rfl ?_
                    refine g_aload_n hE dX5_shakeOnce_178 0 rfl ?_
                    refine g_get hE fl_X5_19 dX5_shakeOnce_179 0 rfl rfl ?_
                    refine g_iconst hE dX5_shakeOnce_182 4 (by decide) ?_
                    refine g_iload_n hE dX5_shakeOnce_183 2 rfl ?_
                    refine g_imul_n hE dX5_shakeOnce_184 (show 4 = nI 4 from rfl) (show ((q 7) k) = nI s from hs2) ?_
                    refine g_iconst hE dX5_shakeOnce_185 2 (by decide) ?_
                    refine g_iadd_n hE dX5_shakeOnce_186 (show (nI (4 * s)) = nI (4 * s) from rfl) (show 2 = nI 2 from rfl) ?_
                    refine g_iald_n hE dX5_shakeOnce_187 4 rfl (show (nI ((4 * s) + 2)) = nI ((4 * s) + 2) from rfl) (by omega) ?_
                    refine g_icmp_le hE 195 dX5_shakeOnce_188 (by decide) (fun c4 => ?_) (fun c4 => ?_)
                    · refine g_iconst hE dX5_shakeOnce_195 0 (by decide) ?_
                      refine g_istore hE dX5_shakeOnce_196 [(5, .int 0), (0, .ref (a 0)), (1, .int (nI k)), (2, .int ((q 7) k)), (3, .int y), (4, .int z)] (by decide) rfl ?_
                      have hck : ¬ chkP m n (row k) (cmS m n row k) := fun z => (show ¬ ((q 3) ((4 * s) + 2)) < y from (Int32.not_lt.mpr c4)) (by rw [hy]; exact (sa_chk (c := cmS m n row k) hSA hs hsv8 hr).mpr z)
                      refine g_iconst hE dX5_shakeOnce_198 0 (by decide) ?_
                      refine g_istore hE dX5_shakeOnce_199 [(6, .int 0), (5, .int 0), (0, .ref (a 0)), (1, .int (nI k)), (2, .int ((q 7) k)), (3, .int y), (4, .int z)] (by decide) rfl ?_
                      have L201 : ∀ (n_201 : Nat) (g2 : Nat) (h2 : Nat → Int32), (g2 ≤ n) → (∀ j, j < g2 → h2 j = hA m n row l (k + 1) j) → (∀ j, g2 ≤ j → j < n → h2 j = hA m n row l k j) → (n - g2 < n_201) → Go E Q 7 0 0 201 [(0, .ref (a 0)), (1, .int (nI k)), (2, .int ((q 7) k)), (4, .int z), (5, .int 0), (6, .int (nI g2))] [] (modelW cI a (pA (pA q 10 h2) 18 (upd (upd (q 18) 8 cho) 9 fal))) := by
                        intro n_201
                        induction n_201 with
                        | zero => intro g2 h2 hg2 ha hb hm_201; exact absurd hm_201 (Nat.not_lt_zero _)
                        | succ n_201 ih_201 =>
                          intro g2 h2 hg2 ha hb hm_201
                          refine g_iload hE dX5_shakeOnce_201 5 rfl ?_
                          refine g_aload_n hE dX5_shakeOnce_203 0 rfl ?_
                          refine g_get hE fl_X5_64 dX5_shakeOnce_204 0 rfl rfl ?_
                          refine g_icmp_ge hE 258 dX5_shakeOnce_207 (by decide) (fun c5 => ?_) (fun c5 => ?_)
                          · have kc5 := nat_le_t (show (q 18 0) = nI n from hgr) (show (nI g2) = nI g2 from rfl) (by omega) (by omega) c5
                            refine g_aload_n hE dX5_shakeOnce_258 0 rfl ?_
                            refine g_dup hE dX5_shakeOnce_259 rfl ?_
                            refine g_get hE fl_X5_167 dX5_shakeOnce_260 0 rfl rfl ?_
                            refine g_iload hE dX5_shakeOnce_263 4 rfl ?_
                            refine g_if_eq hE 274 dX5_shakeOnce_265 (by decide) (fun c6 => ?_) (fun c6 => absurd (by decide) c6)
                            refine g_iconst hE dX5_shakeOnce_274 0 (by decide) ?_
                            refine g_ior hE dX5_shakeOnce_275 ?_
                            refine g_put hE fl_X5_167 fp_5_19 dX5_shakeOnce_276 0 rfl rfl rfl (Nat.le_of_ble_eq_true rfl) (modelW cI a (pA (pA (pA q 10 h2) 18 (upd (upd (q 18) 8 cho) 9 fal)) 18 (upd (upd (upd (q 18) 8 cho) 9 fal) 8 (cho ||| 0)))) (by rfl) ?_
                            refine g_aload_n hE dX5_shakeOnce_279 0 rfl ?_
                            refine g_dup hE dX5_shakeOnce_280 rfl ?_
                            refine g_get hE fl_X5_170 dX5_shakeOnce_281 0 rfl rfl ?_
                            refine g_iload hE dX5_shakeOnce_284 3 rfl ?_
                            refine g_if_eq hE 300 dX5_shakeOnce_286 (by decide) (fun c7 => ?_) (fun c7 => ?_)
                            · refine g_iconst hE dX5_shakeOnce_300 0 (by decide) ?_
                              refine g_ior hE dX5_shakeOnce_301 ?_
                              refine g_put hE fl_X5_170 fp_5_20 dX5_shakeOnce_302 0 rfl rfl rfl (Nat.le_of_ble_eq_true rfl) (modelW cI a (pA (pA (pA (pA q 10 h2) 18 (upd (upd (q 18) 8 cho) 9 fal)) 18 (upd (upd (upd (q 18) 8 cho) 9 fal) 8 (cho ||| 0))) 18 (upd (upd (upd (upd (q 18) 8 cho) 9 fal) 8 (cho ||| 0)) 9 (fal ||| 0)))) (by rfl) ?_
                              refine g_iinc hE dX5_shakeOnce_305 1 (nI (k + 1)) [(1, .int (nI (k + 1))), (0, .ref (a 0)), (2, .int ((q 7) k)), (4, .int z), (5, .int 0), (6, .int (nI g2))] rfl (nI_1 _) (by decide) rfl ?_
                              refine g_goto hE 52 dX5_shakeOnce_308 (by decide) ?_
                              refine g_locals [1, 0] [(0, .ref (a 0)), (1, .int (nI (k + 1)))] rfl ?_
                              exact ih_52 (k + 1) h2 (cho ||| 0) (fal ||| 0) (by first | assumption | omega) (fun j hj => ha j (by omega)) (chR_n hcho hck) (fl_n hfal (fl_0 hz hck (show z = 0 from c7))) (by omega)
                            · refine g_iload hE dX5_shakeOnce_289 4 rfl ?_
                              refine g_if_ne hE 300 dX5_shakeOnce_291 (by decide) (fun c8 => absurd (by decide) c8) (fun c8 => ?_)
                              refine g_iconst hE dX5_shakeOnce_294 1 (by decide) ?_
                              refine g_iload_n hE dX5_shakeOnce_295 1 rfl ?_
                              refine g_ishl hE dX5_shakeOnce_296 ?_
                              refine g_goto hE 301 dX5_shakeOnce_297 (by decide) ?_
                              refine g_ior hE dX5_shakeOnce_301 ?_
                              refine g_put hE fl_X5_170 fp_5_20 dX5_shakeOnce_302 0 rfl rfl rfl (Nat.le_of_ble_eq_true rfl) (modelW cI a (pA (pA (pA (pA q 10 h2) 18 (upd (upd (q 18) 8 cho) 9 fal)) 18 (upd (upd (upd (q 18) 8 cho) 9 fal) 8 (cho ||| 0))) 18 (upd (upd (upd (upd (q 18) 8 cho) 9 fal) 8 (cho ||| 0)) 9 (fal ||| (1 <<< ((nI k) &&& 31)))))) (by rfl) ?_
                              refine g_iinc hE dX5_shakeOnce_305 1 (nI (k + 1)) [(1, .int (nI (k + 1))), (0, .ref (a 0)), (2, .int ((q 7) k)), (4, .int z), (5, .int 0), (6, .int (nI g2))] rfl (nI_1 _) (by decide) rfl ?_
                              refine g_goto hE 52 dX5_shakeOnce_308 (by decide) ?_
                              refine g_locals [1, 0] [(0, .ref (a 0)), (1, .int (nI (k + 1)))] rfl ?_
                              exact ih_52 (k + 1) h2 (cho ||| 0) (fal ||| (1 <<< ((nI k) &&& 31))) (by first | assumption | omega) (fun j hj => ha j (by omega)) (chR_n hcho hck) (fl_y hfal (by omega) (fl_1 hz hck (show ¬ z = 0 from c7))) (by omega)
                          · have kc5 := nat_le_f (show (q 18 0) = nI n from hgr) (show (nI g2) = nI g2 from rfl) (by omega) (by omega) c5
                            refine g_aload_n hE dX5_shakeOnce_210 0 rfl ?_
                            refine g_get hE fl_X5_40 dX5_shakeOnce_211 0 rfl rfl ?_
                            refine g_iload hE dX5_shakeOnce_214 5 rfl ?_
                            refine g_iald_n hE dX5_shakeOnce_216 11 rfl (show (nI g2) = nI g2 from rfl) (by omega) ?_
                            refine g_aload_n hE dX5_shakeOnce_217 0 rfl ?_
                            refine g_get hE fl_X5_164 dX5_shakeOnce_218 0 rfl rfl ?_
                            refine g_icmp_ne hE 252 dX5_shakeOnce_221 (by decide) (fun c9 => ?_) (fun c9 => ?_)
                            · refine g_iinc hE dX5_shakeOnce_252 5 (nI (g2 + 1)) [(6, .int (nI (g2 + 1))), (0, .ref (a 0)), (1, .int (nI k)), (2, .int ((q 7) k)), (4, .int z), (5, .int 0)] rfl (nI_1 _) (by decide) rfl ?_
                              refine g_goto hE 201 dX5_shakeOnce_255 (by decide) ?_
                              refine g_locals [1, 2, 3, 4, 5, 0] [(0, .ref (a 0)), (1, .int (nI k)), (2, .int ((q 7) k)), (4, .int z), (5, .int 0), (6, .int (nI (g2 + 1)))] rfl ?_
                              exact ih_201 (g2 + 1) h2 (by first | assumption | omega) (pre_s ha ((hb g2 (Nat.le_refl _) (by omega)).trans (sh_n1 (so_ne htm (show g2 < n by omega) (hb g2 (Nat.le_refl _) (by omega)) (show ¬ (h2 g2) = (q 18 7) from c9))))) (aft_s hb) (by omega)
                            · refine g_iload hE dX5_shakeOnce_224 4 rfl ?_
                              refine g_if_ne hE 244 dX5_shakeOnce_226 (by decide) (fun c10 => absurd (by decide) c10) (fun c10 => ?_)
                              refine g_aload_n hE dX5_shakeOnce_229 0 rfl ?_
                              refine g_iload_n hE dX5_shakeOnce_230 2 rfl ?_
                              refine g_aload_n hE dX5_shakeOnce_231 0 rfl ?_
                              refine g_get hE fl_X5_7 dX5_shakeOnce_232 0 rfl rfl ?_
                              refine g_iload hE dX5_shakeOnce_235 5 rfl ?_
                              refine g_iald_n hE dX5_shakeOnce_237 1 rfl (show (nI g2) = nI g2 from rfl) (by omega) ?_
                              refine g_callV hE (c_X5_passes cI cS a (pA (pA q 10 h2) 18 (upd (upd (q 18) 8 cho) 9 fal)) ((q 7) k) s (show ((q 7) k) = nI s from hs2) (by omega) ((q 0) g2)) mk_X5_passes mv_X5_passes ml_X5_173 dX5_shakeOnce_238 (As := [.int ((q 7) k), .int ((q 0) g2)]) (rest := []) rfl rfl 0 rfl (show vwCl[5]? = some (RX5, TX5, 32) from rfl) (by decide) (by decide) (Nat.le_of_ble_eq_true rfl) (by decide) (by decide) [0, 1, 2, 3, 4, 5, 6, 7, 8, 9, 10, 11, 12, 13, 14, 15, 16, 17, 18] rfl (by decide) (fun u => Nat.le_of_ble_eq_true rfl) (ws' := fun u => modelW cI a (pA (pA q 10 h2) 18 (upd (upd (q 18) 8 cho) 9 fal))) (fun u => rfl) (fun u hu => ?_)
                              obtain ⟨r_11, rfl⟩ : ∃ z, z = u := ⟨_, rfl⟩
                              have h12 : r_11 = if ((q 8) s) = 3 ∨ ((q 0) g2) ≤ ((q 9) s) then 1 else 0 := hu
                              by_cases c13 : ((q 8) s) = 3 ∨ ((q 0) g2) ≤ ((q 9) s)
                              · rw [if_pos c13] at h12
                                subst h12
                                show Go E Q 7 0 0 241 [(0, .ref (a 0)), (1, .int (nI k)), (2, .int ((q 7) k)), (4, .int z), (5, .int 0), (6, .int (nI g2))] [.int 1] (modelW cI a (pA (pA q 10 h2) 18 (upd (upd (q 18) 8 cho) 9 fal)))
                                refine g_if_ne hE 252 dX5_shakeOnce_241 (by decide) (fun c14 => ?_) (fun c14 => absurd c14 (by decide))
                                refine g_iinc hE dX5_shakeOnce_252 5 (nI (g2 + 1)) [(6, .int (nI (g2 + 1))), (0, .ref (a 0)), (1, .int (nI k)), (2, .int ((q 7) k)), (4, .int z), (5, .int 0)] rfl (nI_1 _) (by decide) rfl ?_
                                refine g_goto hE 201 dX5_shakeOnce_255 (by decide) ?_
                                refine g_locals [1, 2, 3, 4, 5, 0] [(0, .ref (a 0)), (1, .int (nI k)), (2, .int ((q 7) k)), (4, .int z), (5, .int 0), (6, .int (nI (g2 + 1)))] rfl ?_
                                exact ih_201 (g2 + 1) h2 (by first | assumption | omega) (pre_s ha ((hb g2 (Nat.le_refl _) (by omega)).trans (sh_n2 (by omega) (so_eq htm (show g2 < n by omega) hl6 (by omega) (hb g2 (Nat.le_refl _) (by omega)) (show (h2 g2) = (q 18 7) from c9)) hck ((sa_pass hSA hs hsv8 hr (show g2 < n by omega)).mp c13)))) (aft_s hb) (by omega)
                              · rw [if_neg c13] at h12
                                subst h12
                                show Go E Q 7 0 0 241 [(0, .ref (a 0)), (1, .int (nI k)), (2, .int ((q 7) k)), (4, .int z), (5, .int 0), (6, .int (nI g2))] [.int 0] (modelW cI a (pA (pA q 10 h2) 18 (upd (upd (q 18) 8 cho) 9 fal)))
                                refine g_if_ne hE 252 dX5_shakeOnce_241 (by decide) (fun c15 => absurd (by decide) c15) (fun c15 => ?_)
                                refine g_aload_n hE dX5_shakeOnce_244 0 rfl ?_
                                refine g_get hE fl_X5_40 dX5_shakeOnce_245 0 rfl rfl ?_
                                refine g_iload hE dX5_shakeOnce_248 5 rfl ?_
                                refine g_iload_n hE dX5_shakeOnce_250 1 rfl ?_
                                refine g_iast_n hE dX5_shakeOnce_251 11 rfl (show (nI g2) = nI g2 from rfl) (by omega) (modelW cI a (pA (pA (pA q 10 h2) 18 (upd (upd (q 18) 8 cho) 9 fal)) 10 (upd h2 g2 (nI k)))) rfl ?_
                                refine g_iinc hE dX5_shakeOnce_252 5 (nI (g2 + 1)) [(6, .int (nI (g2 + 1))), (0, .ref (a 0)), (1, .int (nI k)), (2, .int ((q 7) k)), (4, .int z), (5, .int 0)] rfl (nI_1 _) (by decide) rfl ?_
                                refine g_goto hE 201 dX5_shakeOnce_255 (by decide) ?_
                                refine g_locals [1, 2, 3, 4, 5, 0] [(0, .ref (a 0)), (1, .int (nI k)), (2, .int ((q 7) k)), (4, .int z), (5, .int 0), (6, .int (nI (g2 + 1)))] rfl ?_
                                exact ih_201 (g2 + 1) (upd h2 g2 (nI k)) (by first | assumption | omega) (upd_pre ha (sh_y (by omega) (so_eq htm (show g2 < n by omega) hl6 (by omega) (hb g2 (Nat.le_refl _) (by omega)) (show (h2 g2) = (q 18 7) from c9)) (Or.inr (fun z => c13 ((sa_pass hSA hs hsv8 hr (show g2 < n by omega)).mpr z))))) (upd_aft hb) (by omega)
                      refine g_locals [2, 3, 4, 6, 1, 0] [(0, .ref (a 0)), (1, .int (nI k)), (2, .int ((q 7) k)), (4, .int z), (5, .int 0), (6, .int 0)] rfl ?_
                      exact L201 _ 0 h (Nat.zero_le _) (fun j hj => absurd hj (Nat.not_lt_zero _)) (fun j _ hj => hh j hj) (Nat.lt_succ_self _)
                    · refine g_iconst hE dX5_shakeOnce_191 1 (by decide) ?_
                      refine g_goto hE 196 dX5_shakeOnce_192 (by decide) ?_
                      refine g_istore hE dX5_shakeOnce_196 [(5, .int 1), (0, .ref (a 0)), (1, .int (nI k)), (2, .int ((q 7) k)), (3, .int y), (4, .int z)] (by decide) rfl ?_
                      have hck : chkP m n (row k) (cmS m n row k) := (sa_chk (c := cmS m n row k) hSA hs hsv8 hr).mp (by rw [← hy]; exact (show ((q 3) ((4 * s) + 2)) < y from (Int32.not_le.mp c4)))
                      refine g_iconst hE dX5_shakeOnce_198 0 (by decide) ?_
                      refine g_istore hE dX5_shakeOnce_199 [(6, .int 0), (5, .int 1), (0, .ref (a 0)), (1, .int (nI k)), (2, .int ((q 7) k)), (3, .int y), (4, .int z)] (by decide) rfl ?_
                      have L201 : ∀ (n_201 : Nat) (g2 : Nat) (h2 : Nat → Int32), (g2 ≤ n) → (∀ j, j < g2 → h2 j = hA m n row l (k + 1) j) → (∀ j, g2 ≤ j → j < n → h2 j = hA m n row l k j) → (n - g2 < n_201) → Go E Q 7 0 0 201 [(0, .ref (a 0)), (1, .int (nI k)), (2, .int ((q 7) k)), (4, .int z), (5, .int 1), (6, .int (nI g2))] [] (modelW cI a (pA (pA q 10 h2) 18 (upd (upd (q 18) 8 cho) 9 fal))) := by
                        intro n_201
                        induction n_201 with
                        | zero => intro g2 h2 hg2 ha hb hm_201; exact absurd hm_201 (Nat.not_lt_zero _)
                        | succ n_201 ih_201 =>
                          intro g2 h2 hg2 ha hb hm_201
                          refine g_iload hE dX5_shakeOnce_201 5 rfl ?_
                          refine g_aload_n hE dX5_shakeOnce_203 0 rfl ?_
                          refine g_get hE fl_X5_64 dX5_shakeOnce_204 0 rfl rfl ?_
                          refine g_icmp_ge hE 258 dX5_shakeOnce_207 (by decide) (fun c16 => ?_) (fun c16 => ?_)
                          · have kc16 := nat_le_t (show (q 18 0) = nI n from hgr) (show (nI g2) = nI g2 from rfl) (by omega) (by omega) c16
                            refine g_aload_n hE dX5_shakeOnce_258 0 rfl ?_
                            refine g_dup hE dX5_shakeOnce_259 rfl ?_
                            refine g_get hE fl_X5_167 dX5_shakeOnce_260 0 rfl rfl ?_
                            refine g_iload hE dX5_shakeOnce_263 4 rfl ?_
                            refine g_if_eq hE 274 dX5_shakeOnce_265 (by decide) (fun c17 => absurd c17 (by decide)) (fun c17 => ?_)
                            refine g_iconst hE dX5_shakeOnce_268 1 (by decide) ?_
                            refine g_iload_n hE dX5_shakeOnce_269 1 rfl ?_
                            refine g_ishl hE dX5_shakeOnce_270 ?_
                            refine g_goto hE 275 dX5_shakeOnce_271 (by decide) ?_
                            refine g_ior hE dX5_shakeOnce_275 ?_
                            refine g_put hE fl_X5_167 fp_5_19 dX5_shakeOnce_276 0 rfl rfl rfl (Nat.le_of_ble_eq_true rfl) (modelW cI a (pA (pA (pA q 10 h2) 18 (upd (upd (q 18) 8 cho) 9 fal)) 18 (upd (upd (upd (q 18) 8 cho) 9 fal) 8 (cho ||| (1 <<< ((nI k) &&& 31)))))) (by rfl) ?_
                            refine g_aload_n hE dX5_shakeOnce_279 0 rfl ?_
                            refine g_dup hE dX5_shakeOnce_280 rfl ?_
                            refine g_get hE fl_X5_170 dX5_shakeOnce_281 0 rfl rfl ?_
                            refine g_iload hE dX5_shakeOnce_284 3 rfl ?_
                            refine g_if_eq hE 300 dX5_shakeOnce_286 (by decide) (fun c18 => ?_) (fun c18 => ?_)
                            · refine g_iconst hE dX5_shakeOnce_300 0 (by decide) ?_
                              refine g_ior hE dX5_shakeOnce_301 ?_
                              refine g_put hE fl_X5_170 fp_5_20 dX5_shakeOnce_302 0 rfl rfl rfl (Nat.le_of_ble_eq_true rfl) (modelW cI a (pA (pA (pA (pA q 10 h2) 18 (upd (upd (q 18) 8 cho) 9 fal)) 18 (upd (upd (upd (q 18) 8 cho) 9 fal) 8 (cho ||| (1 <<< ((nI k) &&& 31))))) 18 (upd (upd (upd (upd (q 18) 8 cho) 9 fal) 8 (cho ||| (1 <<< ((nI k) &&& 31)))) 9 (fal ||| 0)))) (by rfl) ?_
                              refine g_iinc hE dX5_shakeOnce_305 1 (nI (k + 1)) [(1, .int (nI (k + 1))), (0, .ref (a 0)), (2, .int ((q 7) k)), (4, .int z), (5, .int 1), (6, .int (nI g2))] rfl (nI_1 _) (by decide) rfl ?_
                              refine g_goto hE 52 dX5_shakeOnce_308 (by decide) ?_
                              refine g_locals [1, 0] [(0, .ref (a 0)), (1, .int (nI (k + 1)))] rfl ?_
                              exact ih_52 (k + 1) h2 (cho ||| (1 <<< ((nI k) &&& 31))) (fal ||| 0) (by first | assumption | omega) (fun j hj => ha j (by omega)) (chR_y hcho hck) (fl_n hfal (fall_ch hck)) (by omega)
                            · refine g_iload hE dX5_shakeOnce_289 4 rfl ?_
                              refine g_if_ne hE 300 dX5_shakeOnce_291 (by decide) (fun c19 => ?_) (fun c19 => absurd c19 (by decide))
                              refine g_iconst hE dX5_shakeOnce_300 0 (by decide) ?_
                              refine g_ior hE dX5_shakeOnce_301 ?_
                              refine g_put hE fl_X5_170 fp_5_20 dX5_shakeOnce_302 0 rfl rfl rfl (Nat.le_of_ble_eq_true rfl) (modelW cI a (pA (pA (pA (pA q 10 h2) 18 (upd (upd (q 18) 8 cho) 9 fal)) 18 (upd (upd (upd (q 18) 8 cho) 9 fal) 8 (cho ||| (1 <<< ((nI k) &&& 31))))) 18 (upd (upd (upd (upd (q 18) 8 cho) 9 fal) 8 (cho ||| (1 <<< ((nI k) &&& 31)))) 9 (fal ||| 0)))) (by rfl) ?_
                              refine g_iinc hE dX5_shakeOnce_305 1 (nI (k + 1)) [(1, .int (nI (k + 1))), (0, .ref (a 0)), (2, .int ((q 7) k)), (4, .int z), (5, .int 1), (6, .int (nI g2))] rfl (nI_1 _) (by decide) rfl ?_
                              refine g_goto hE 52 dX5_shakeOnce_308 (by decide) ?_
                              refine g_locals [1, 0] [(0, .ref (a 0)), (1, .int (nI (k + 1)))] rfl ?_
                              exact ih_52 (k + 1) h2 (cho ||| (1 <<< ((nI k) &&& 31))) (fal ||| 0) (by first | assumption | omega) (fun j hj => ha j (by omega)) (chR_y hcho hck) (fl_n hfal (fall_ch hck)) (by omega)
                          · have kc16 := nat_le_f (show (q 18 0) = nI n from hgr) (show (nI g2) = nI g2 from rfl) (by omega) (by omega) c16
                            refine g_aload_n hE dX5_shakeOnce_210 0 rfl ?_
                            refine g_get hE fl_X5_40 dX5_shakeOnce_211 0 rfl rfl ?_
                            refine g_iload hE dX5_shakeOnce_214 5 rfl ?_
                            refine g_iald_n hE dX5_shakeOnce_216 11 rfl (show (nI g2) = nI g2 from rfl) (by omega) ?_
                            refine g_aload_n hE dX5_shakeOnce_217 0 rfl ?_
                            refine g_get hE fl_X5_164 dX5_shakeOnce_218 0 rfl rfl ?_
                            refine g_icmp_ne hE 252 dX5_shakeOnce_221 (by decide) (fun c20 => ?_) (fun c20 => ?_)
                            · refine g_iinc hE dX5_shakeOnce_252 5 (nI (g2 + 1)) [(6, .int (nI (g2 + 1))), (0, .ref (a 0)), (1, .int (nI k)), (2, .int ((q 7) k)), (4, .int z), (5, .int 1)] rfl (nI_1 _) (by decide) rfl ?_
                              refine g_goto hE 201 dX5_shakeOnce_255 (by decide) ?_
                              refine g_locals [1, 2, 3, 4, 5, 0] [(0, .ref (a 0)), (1, .int (nI k)), (2, .int ((q 7) k)), (4, .int z), (5, .int 1), (6, .int (nI (g2 + 1)))] rfl ?_
                              exact ih_201 (g2 + 1) h2 (by first | assumption | omega) (pre_s ha ((hb g2 (Nat.le_refl _) (by omega)).trans (sh_n1 (so_ne htm (show g2 < n by omega) (hb g2 (Nat.le_refl _) (by omega)) (show ¬ (h2 g2) = (q 18 7) from c20))))) (aft_s hb) (by omega)
                            · refine g_iload hE dX5_shakeOnce_224 4 rfl ?_
                              refine g_if_ne hE 244 dX5_shakeOnce_226 (by decide) (fun c21 => ?_) (fun c21 => absurd c21 (by decide))
                              refine g_aload_n hE dX5_shakeOnce_244 0 rfl ?_
                              refine g_get hE fl_X5_40 dX5_shakeOnce_245 0 rfl rfl ?_
                              refine g_iload hE dX5_shakeOnce_248 5 rfl ?_
                              refine g_iload_n hE dX5_shakeOnce_250 1 rfl ?_
                              refine g_iast_n hE dX5_shakeOnce_251 11 rfl (show (nI g2) = nI g2 from rfl) (by omega) (modelW cI a (pA (pA (pA q 10 h2) 18 (upd (upd (q 18) 8 cho) 9 fal)) 10 (upd h2 g2 (nI k)))) rfl ?_
                              refine g_iinc hE dX5_shakeOnce_252 5 (nI (g2 + 1)) [(6, .int (nI (g2 + 1))), (0, .ref (a 0)), (1, .int (nI k)), (2, .int ((q 7) k)), (4, .int z), (5, .int 1)] rfl (nI_1 _) (by decide) rfl ?_
                              refine g_goto hE 201 dX5_shakeOnce_255 (by decide) ?_
                              refine g_locals [1, 2, 3, 4, 5, 0] [(0, .ref (a 0)), (1, .int (nI k)), (2, .int ((q 7) k)), (4, .int z), (5, .int 1), (6, .int (nI (g2 + 1)))] rfl ?_
                              exact ih_201 (g2 + 1) (upd h2 g2 (nI k)) (by first | assumption | omega) (upd_pre ha (sh_y (by omega) (so_eq htm (show g2 < n by omega) hl6 (by omega) (hb g2 (Nat.le_refl _) (by omega)) (show (h2 g2) = (q 18 7) from c20)) (Or.inl hck))) (upd_aft hb) (by omega)
                      refine g_locals [2, 3, 4, 6, 1, 0] [(0, .ref (a 0)), (1, .int (nI k)), (2, .int ((q 7) k)), (4, .int z), (5, .int 1), (6, .int 0)] rfl ?_
                      exact L201 _ 0 h (Nat.zero_le _) (fun j hj => absurd hj (Nat.not_lt_zero _)) (fun j _ hj => hh j hj) (Nat.lt_succ_self _)
                  · have kc3 := nat_le_f (show (q 18 0) = nI n from hgr) (show (nI g) = nI g from rfl) (by omega) (by omega) c3
                    refine g_aload_n hE dX5_shakeOnce_84 0 rfl ?_
                    refine g_get hE fl_X5_40 dX5_shakeOnce_85 0 rfl rfl ?_
                    refine g_iload hE dX5_shakeOnce_88 5 rfl ?_
                    refine g_iald_n hE dX5_shakeOnce_90 11 rfl (show (nI g) = nI g from rfl) (by omega) ?_
                    refine g_aload_n hE dX5_shakeOnce_91 0 rfl ?_
                    refine g_get hE fl_X5_164 dX5_shakeOnce_92 0 rfl rfl ?_
                    refine g_icmp_ne hE 102 dX5_shakeOnce_95 (by decide) (fun c22 => ?_) (fun c22 => ?_)
                    · refine g_iconst hE dX5_shakeOnce_102 0 (by decide) ?_
                      refine g_istore hE dX5_shakeOnce_103 [(6, .int 0), (0, .ref (a 0)), (1, .int (nI k)), (2, .int ((q 7) k)), (3, .int y), (4, .int z), (5, .int (nI g))] (by decide) rfl ?_
                      refine g_iload_n hE dX5_shakeOnce_105 4 rfl ?_
                      refine g_iload hE dX5_shakeOnce_106 0 rfl ?_
                      refine g_if_eq hE 136 dX5_shakeOnce_108 (by decide) (fun c23 => ?_) (fun c23 => absurd (by decide) c23)
                      refine g_iconst hE dX5_shakeOnce_136 0 (by decide) ?_
                      refine g_iadd hE dX5_shakeOnce_137 ?_
                      refine g_istore_n hE dX5_shakeOnce_138 [(3, .int (y + 0)), (6, .int 0), (0, .ref (a 0)), (1, .int (nI k)), (2, .int ((q 7) k)), (4, .int z), (5, .int (nI g))] rfl (by decide) rfl ?_
                      refine g_iload hE dX5_shakeOnce_139 5 rfl ?_
                      refine g_if_ne hE 164 dX5_shakeOnce_141 (by decide) (fun c24 => ?_) (fun c24 => ?_)
                      · refine g_iconst hE dX5_shakeOnce_164 1 (by decide) ?_
                        refine g_goto hE 169 dX5_shakeOnce_165 (by decide) ?_
                        refine g_istore hE dX5_shakeOnce_169 [(4, .int 1), (3, .int (y + 0)), (6, .int 0), (0, .ref (a 0)), (1, .int (nI k)), (2, .int ((q 7) k)), (5, .int (nI g))] (by decide) rfl ?_
                        refine g_iinc hE dX5_shakeOnce_171 6 (nI (g + 1)) [(5, .int (nI (g + 1))), (4, .int 1), (3, .int (y + 0)), (6, .int 0), (0, .ref (a 0)), (1, .int (nI k)), (2, .int ((q 7) k))] rfl (nI_1 _) (by decide) rfl ?_
                        refine g_goto hE 75 dX5_shakeOnce_174 (by decide) ?_
                        refine g_locals [4, 5, 6, 2, 1, 0] [(0, .ref (a 0)), (1, .int (nI k)), (2, .int ((q 7) k)), (3, .int (y + 0)), (4, .int 1), (5, .int (nI (g + 1)))] rfl ?_
                        exact ih_75 (g + 1) (y + 0) 1 (by first | assumption | omega) (sa_n hy (by omega) (Or.inl (so_ne htm (show g < n by omega) (hh g (by omega)) (show ¬ (h g) = (q 18 7) from c22)))) (sf_y hz (Or.inr (show ¬ z = 0 from c24))) (by omega)
                      · refine g_iload hE dX5_shakeOnce_144 1 rfl ?_
                        refine g_if_eq hE 168 dX5_shakeOnce_146 (by decide) (fun c25 => ?_) (fun c25 => absurd (by decide) c25)
                        refine g_iconst hE dX5_shakeOnce_168 0 (by decide) ?_
                        refine g_istore hE dX5_shakeOnce_169 [(4, .int 0), (3, .int (y + 0)), (6, .int 0), (0, .ref (a 0)), (1, .int (nI k)), (2, .int ((q 7) k)), (5, .int (nI g))] (by decide) rfl ?_
                        refine g_iinc hE dX5_shakeOnce_171 6 (nI (g + 1)) [(5, .int (nI (g + 1))), (4, .int 0), (3, .int (y + 0)), (6, .int 0), (0, .ref (a 0)), (1, .int (nI k)), (2, .int ((q 7) k))] rfl (nI_1 _) (by decide) rfl ?_
                        refine g_goto hE 75 dX5_shakeOnce_174 (by decide) ?_
                        refine g_locals [4, 5, 6, 2, 1, 0] [(0, .ref (a 0)), (1, .int (nI k)), (2, .int ((q 7) k)), (3, .int (y + 0)), (4, .int 0), (5, .int (nI (g + 1)))] rfl ?_
                        exact ih_75 (g + 1) (y + 0) 0 (by first | assumption | omega) (sa_n hy (by omega) (Or.inl (so_ne htm (show g < n by omega) (hh g (by omega)) (show ¬ (h g) = (q 18 7) from c22)))) (sf_n hz (Or.inl (so_ne htm (show g < n by omega) (hh g (by omega)) (show ¬ (h g) = (q 18 7) from c22))) (show z = 0 from c24)) (by omega)
                    · refine g_iconst hE dX5_shakeOnce_98 1 (by decide) ?_
                      refine g_goto hE 103 dX5_shakeOnce_99 (by decide) ?_
                      refine g_istore hE dX5_shakeOnce_103 [(6, .int 1), (0, .ref (a 0)), (1, .int (nI k)), (2, .int ((q 7) k)), (3, .int y), (4, .int z), (5, .int (nI g))] (by decide) rfl ?_
                      refine g_iload_n hE dX5_shakeOnce_105 4 rfl ?_
                      refine g_iload hE dX5_shakeOnce_106 0 rfl ?_
                      refine g_if_eq hE 136 dX5_shakeOnce_108 (by decide) (fun c26 => absurd c26 (by decide)) (fun c26 => ?_)
                      refine g_aload_n hE dX5_shakeOnce_111 1 rfl ?_
                      refine g_iload_n hE dX5_shakeOnce_112 3 rfl ?_
                      refine g_aload_n hE dX5_shakeOnce_113 1 rfl ?_
                      refine g_get hE fl_X5_7 dX5_shakeOnce_114 0 rfl rfl ?_
                      refine g_iload hE dX5_shakeOnce_117 6 rfl ?_
                      refine g_iald_n hE dX5_shakeOnce_119 1 rfl (show (nI g) = nI g from rfl) (by omega) ?_
                      refine g_callV hE (c_X5_passes cI cS a (pA (pA q 10 h) 18 (upd (upd (q 18) 8 cho) 9 fal)) ((q 7) k) s (show ((q 7) k) = nI s from hs2) (by omega) ((q 0) g)) mk_X5_passes mv_X5_passes ml_X5_173 dX5_shakeOnce_120 (As := [.int ((q 7) k), .int ((q 0) g)]) (rest := [.int y]) rfl rfl 0 rfl (show vwCl[5]? = some (RX5, TX5, 32) from rfl) (by decide) (by decide) (Nat.le_of_ble_eq_true rfl) (by decide) (by decide) [0, 1, 2, 3, 4, 5, 6, 7, 8, 9, 10, 11, 12, 13, 14, 15, 16, 17, 18] rfl (by decide) (fun u => Nat.le_of_ble_eq_true rfl) (ws' := fun u => modelW cI a (pA (pA q 10 h) 18 (upd (upd (q 18) 8 cho) 9 fal))) (fun u => rfl) (fun u hu => ?_)
                      obtain ⟨r_27, rfl⟩ : ∃ z, z = u := ⟨_, rfl⟩
                      have h28 : r_27 = if ((q 8) s) = 3 ∨ ((q 0) g) ≤ ((q 9) s) then 1 else 0 := hu
                      by_cases c29 : ((q 8) s) = 3 ∨ ((q 0) g) ≤ ((q 9) s)
                      · rw [if_pos c29] at h28
                        subst h28
                        show Go E Q 7 0 0 123 [(6, .int 1), (0, .ref (a 0)), (1, .int (nI k)), (2, .int ((q 7) k)), (3, .int y), (4, .int z), (5, .int (nI g))] [.int 1, .int y] (modelW cI a (pA (pA q 10 h) 18 (upd (upd (q 18) 8 cho) 9 fal)))
                        refine g_if_ne hE 136 dX5_shakeOnce_123 (by decide) (fun c30 => ?_) (fun c30 => absurd c30 (by decide))
                        refine g_iconst hE dX5_shakeOnce_136 0 (by decide) ?_
                        refine g_iadd hE dX5_shakeOnce_137 ?_
                        refine g_istore_n hE dX5_shakeOnce_138 [(3, .int (y + 0)), (6, .int 1), (0, .ref (a 0)), (1, .int (nI k)), (2, .int ((q 7) k)), (4, .int z), (5, .int (nI g))] rfl (by decide) rfl ?_
                        refine g_iload hE dX5_shakeOnce_139 5 rfl ?_
                        refine g_if_ne hE 164 dX5_shakeOnce_141 (by decide) (fun c31 => ?_) (fun c31 => ?_)
                        · refine g_iconst hE dX5_shakeOnce_164 1 (by decide) ?_
                          refine g_goto hE 169 dX5_shakeOnce_165 (by decide) ?_
                          refine g_istore hE dX5_shakeOnce_169 [(4, .int 1), (3, .int (y + 0)), (6, .int 1), (0, .ref (a 0)), (1, .int (nI k)), (2, .int ((q 7) k)), (5, .int (nI g))] (by decide) rfl ?_
                          refine g_iinc hE dX5_shakeOnce_171 6 (nI (g + 1)) [(5, .int (nI (g + 1))), (4, .int 1), (3, .int (y + 0)), (6, .int 1), (0, .ref (a 0)), (1, .int (nI k)), (2, .int ((q 7) k))] rfl (nI_1 _) (by decide) rfl ?_
                          refine g_goto hE 75 dX5_shakeOnce_174 (by decide) ?_
                          refine g_locals [4, 5, 6, 2, 1, 0] [(0, .ref (a 0)), (1, .int (nI k)), (2, .int ((q 7) k)), (3, .int (y + 0)), (4, .int 1), (5, .int (nI (g + 1)))] rfl ?_
                          exact ih_75 (g + 1) (y + 0) 1 (by first | assumption | omega) (sa_n hy (by omega) (Or.inr ((sa_pass hSA hs hsv8 hr (show g < n by omega)).mp c29))) (sf_y hz (Or.inl ⟨(so_eq htm (show g < n by omega) hl6 (by omega) (hh g (by omega)) (show (h g) = (q 18 7) from c22)), ((sa_pass hSA hs hsv8 hr (show g < n by omega)).mp c29)⟩)) (by omega)
                        · refine g_iload hE dX5_shakeOnce_144 1 rfl ?_
                          refine g_if_eq hE 168 dX5_shakeOnce_146 (by decide) (fun c32 => absurd c32 (by decide)) (fun c32 => ?_)
                          refine g_aload_n hE dX5_shakeOnce_149 2 rfl ?_
                          refine g_iload_n hE dX5_shakeOnce_150 4 rfl ?_
                          refine g_aload_n hE dX5_shakeOnce_151 2 rfl ?_
                          refine g_get hE fl_X5_7 dX5_shakeOnce_152 0 rfl rfl ?_
                          refine g_iload hE dX5_shakeOnce_155 6 rfl ?_
                          refine g_iald_n hE dX5_shakeOnce_157 1 rfl (show (nI g) = nI g from rfl) (by omega) ?_
                          refine g_callV hE (c_X5_passes cI cS a (pA (pA q 10 h) 18 (upd (upd (q 18) 8 cho) 9 fal)) ((q 7) k) s (show ((q 7) k) = nI s from hs2) (by omega) ((q 0) g)) mk_X5_passes mv_X5_passes ml_X5_173 dX5_shakeOnce_158 (As := [.int ((q 7) k), .int ((q 0) g)]) (rest := []) rfl rfl 0 rfl (show vwCl[5]? = some (RX5, TX5, 32) from rfl) (by decide) (by decide) (Nat.le_of_ble_eq_true rfl) (by decide) (by decide) [0, 1, 2, 3, 4, 5, 6, 7, 8, 9, 10, 11, 12, 13, 14, 15, 16, 17, 18] rfl (by decide) (fun u => Nat.le_of_ble_eq_true rfl) (ws' := fun u => modelW cI a (pA (pA q 10 h) 18 (upd (upd (q 18) 8 cho) 9 fal))) (fun u => rfl) (fun u hu => ?_)
                          obtain ⟨r_33, rfl⟩ : ∃ z, z = u := ⟨_, rfl⟩
                          have h34 : r_33 = if ((q 8) s) = 3 ∨ ((q 0) g) ≤ ((q 9) s) then 1 else 0 := hu
                          rw [if_pos c29] at h34
                          subst h34
                          show Go E Q 7 0 0 161 [(3, .int (y + 0)), (6, .int 1), (0, .ref (a 0)), (1, .int (nI k)), (2, .int ((q 7) k)), (4, .int z), (5, .int (nI g))] [.int 1] (modelW cI a (pA (pA q 10 h) 18 (upd (upd (q 18) 8 cho) 9 fal)))
                          refine g_if_eq hE 168 dX5_shakeOnce_161 (by decide) (fun c35 => absurd c35 (by decide)) (fun c35 => ?_)
                          refine g_iconst hE dX5_shakeOnce_164 1 (by decide) ?_
                          refine g_goto hE 169 dX5_shakeOnce_165 (by decide) ?_
                          refine g_istore hE dX5_shakeOnce_169 [(4, .int 1), (3, .int (y + 0)), (6, .int 1), (0, .ref (a 0)), (1, .int (nI k)), (2, .int ((q 7) k)), (5, .int (nI g))] (by decide) rfl ?_
                          refine g_iinc hE dX5_shakeOnce_171 6 (nI (g + 1)) [(5, .int (nI (g + 1))), (4, .int 1), (3, .int (y + 0)), (6, .int 1), (0, .ref (a 0)), (1, .int (nI k)), (2, .int ((q 7) k))] rfl (nI_1 _) (by decide) rfl ?_
                          refine g_goto hE 75 dX5_shakeOnce_174 (by decide) ?_
                          refine g_locals [4, 5, 6, 2, 1, 0] [(0, .ref (a 0)), (1, .int (nI k)), (2, .int ((q 7) k)), (3, .int (y + 0)), (4, .int 1), (5, .int (nI (g + 1)))] rfl ?_
                          exact ih_75 (g + 1) (y + 0) 1 (by first | assumption | omega) (sa_n hy (by omega) (Or.inr ((sa_pass hSA hs hsv8 hr (show g < n by omega)).mp c29))) (sf_y hz (Or.inl ⟨(so_eq htm (show g < n by omega) hl6 (by omega) (hh g (by omega)) (show (h g) = (q 18 7) from c22)), ((sa_pass hSA hs hsv8 hr (show g < n by omega)).mp c29)⟩)) (by omega)
                      · rw [if_neg c29] at h28
                        subst h28
                        show Go E Q 7 0 0 123 [(6, .int 1), (0, .ref (a 0)), (1, .int (nI k)), (2, .int ((q 7) k)), (3, .int y), (4, .int z), (5, .int (nI g))] [.int 0, .int y] (modelW cI a (pA (pA q 10 h) 18 (upd (upd (q 18) 8 cho) 9 fal)))
                        refine g_if_ne hE 136 dX5_shakeOnce_123 (by decide) (fun c36 => absurd (by decide) c36) (fun c36 => ?_)
                        refine g_aload_n hE dX5_shakeOnce_126 1 rfl ?_
                        refine g_get hE fl_X5_13 dX5_shakeOnce_127 0 rfl rfl ?_
                        refine g_iload hE dX5_shakeOnce_130 6 rfl ?_
                        refine g_iald_n hE dX5_shakeOnce_132 2 rfl (show (nI g) = nI g from rfl) (by omega) ?_
                        refine g_goto hE 137 dX5_shakeOnce_133 (by decide) ?_
                        refine g_iadd hE dX5_shakeOnce_137 ?_
                        refine g_istore_n hE dX5_shakeOnce_138 [(3, .int (y + ((q 1) g))), (6, .int 1), (0, .ref (a 0)), (1, .int (nI k)), (2, .int ((q 7) k)), (4, .int z), (5, .int (nI g))] rfl (by decide) rfl ?_
                        refine g_iload hE dX5_shakeOnce_139 5 rfl ?_
                        refine g_if_ne hE 164 dX5_shakeOnce_141 (by decide) (fun c37 => ?_) (fun c37 => ?_)
                        · refine g_iconst hE dX5_shakeOnce_164 1 (by decide) ?_
                          refine g_goto hE 169 dX5_shakeOnce_165 (by decide) ?_
                          refine g_istore hE dX5_shakeOnce_169 [(4, .int 1), (3, .int (y + ((q 1) g))), (6, .int 1), (0, .ref (a 0)), (1, .int (nI k)), (2, .int ((q 7) k)), (5, .int (nI g))] (by decide) rfl ?_
                          refine g_iinc hE dX5_shakeOnce_171 6 (nI (g + 1)) [(5, .int (nI (g + 1))), (4, .int 1), (3, .int (y + ((q 1) g))), (6, .int 1), (0, .ref (a 0)), (1, .int (nI k)), (2, .int ((q 7) k))] rfl (nI_1 _) (by decide) rfl ?_
                          refine g_goto hE 75 dX5_shakeOnce_174 (by decide) ?_
                          refine g_locals [4, 5, 6, 2, 1, 0] [(0, .ref (a 0)), (1, .int (nI k)), (2, .int ((q 7) k)), (3, .int (y + ((q 1) g))), (4, .int 1), (5, .int (nI (g + 1)))] rfl ?_
                          exact ih_75 (g + 1) (y + ((q 1) g)) 1 (by first | assumption | omega) (sa_y hy (by omega) (so_eq htm (show g < n by omega) hl6 (by omega) (hh g (by omega)) (show (h g) = (q 18 7) from c22)) (fun z => c29 ((sa_pass hSA hs hsv8 hr (show g < n by omega)).mpr z)) (hSA.1 g (by omega)).2) (sf_y hz (Or.inr (show ¬ z = 0 from c37))) (by omega)
                        · refine g_iload hE dX5_shakeOnce_144 1 rfl ?_
                          refine g_if_eq hE 168 dX5_shakeOnce_146 (by decide) (fun c38 => absurd c38 (by decide)) (fun c38 => ?_)
                          refine g_aload_n hE dX5_shakeOnce_149 2 rfl ?_
                          refine g_iload_n hE dX5_shakeOnce_150 4 rfl ?_
                          refine g_aload_n hE dX5_shakeOnce_151 2 rfl ?_
                          refine g_get hE fl_X5_7 dX5_shakeOnce_152 0 rfl rfl ?_
                          refine g_iload hE dX5_shakeOnce_155 6 rfl ?_
                          refine g_iald_n hE dX5_shakeOnce_157 1 rfl (show (nI g) = nI g from rfl) (by omega) ?_
                          refine g_callV hE (c_X5_passes cI cS a (pA (pA q 10 h) 18 (upd (upd (q 18) 8 cho) 9 fal)) ((q 7) k) s (show ((q 7) k) = nI s from hs2) (by omega) ((q 0) g)) mk_X5_passes mv_X5_passes ml_X5_173 dX5_shakeOnce_158 (As := [.int ((q 7) k), .int ((q 0) g)]) (rest := []) rfl rfl 0 rfl (show vwCl[5]? = some (RX5, TX5, 32) from rfl) (by decide) (by decide) (Nat.le_of_ble_eq_true rfl) (by decide) (by decide) [0, 1, 2, 3, 4, 5, 6, 7, 8, 9, 10, 11, 12, 13, 14, 15, 16, 17, 18] rfl (by decide) (fun u => Nat.le_of_ble_eq_true rfl) (ws' := fun u => modelW cI a (pA (pA q 10 h) 18 (upd (upd (q 18) 8 cho) 9 fal))) (fun u => rfl) (fun u hu => ?_)
                          obtain ⟨r_39, rfl⟩ : ∃ z, z = u := ⟨_, rfl⟩
                          have h40 : r_39 = if ((q 8) s) = 3 ∨ ((q 0) g) ≤ ((q 9) s) then 1 else 0 := hu
                          rw [if_neg c29] at h40
                          subst h40
                          show Go E Q 7 0 0 161 [(3, .int (y + ((q 1) g))), (6, .int 1), (0, .ref (a 0)), (1, .int (nI k)), (2, .int ((q 7) k)), (4, .int z), (5, .int (nI g))] [.int 0] (modelW cI a (pA (pA q 10 h) 18 (upd (upd (q 18) 8 cho) 9 fal)))
                          refine g_if_eq hE 168 dX5_shakeOnce_161 (by decide) (fun c41 => ?_) (fun c41 => absurd (by decide) c41)
                          refine g_iconst hE dX5_shakeOnce_168 0 (by decide) ?_
                          refine g_istore hE dX5_shakeOnce_169 [(4, .int 0), (3, .int (y + ((q 1) g))), (6, .int 1), (0, .ref (a 0)), (1, .int (nI k)), (2, .int ((q 7) k)), (5, .int (nI g))] (by decide) rfl ?_
                          refine g_iinc hE dX5_shakeOnce_171 6 (nI (g + 1)) [(5, .int (nI (g + 1))), (4, .int 0), (3, .int (y + ((q 1) g))), (6, .int 1), (0, .ref (a 0)), (1, .int (nI k)), (2, .int ((q 7) k))] rfl (nI_1 _) (by decide) rfl ?_
                          refine g_goto hE 75 dX5_shakeOnce_174 (by decide) ?_
                          refine g_locals [4, 5, 6, 2, 1, 0] [(0, .ref (a 0)), (1, .int (nI k)), (2, .int ((q 7) k)), (3, .int (y + ((q 1) g))), (4, .int 0), (5, .int (nI (g + 1)))] rfl ?_
                          exact ih_75 (g + 1) (y + ((q 1) g)) 0 (by first | assumption | omega) (sa_y hy (by omega) (so_eq htm (show g < n by omega) hl6 (by omega) (hh g (by omega)) (show (h g) = (q 18 7) from c22)) (fun z => c29 ((sa_pass hSA hs hsv8 hr (show g < n by omega)).mpr z)) (hSA.1 g (by omega)).2) (sf_n hz (Or.inr (fun z => c29 ((sa_pass hSA hs hsv8 hr (show g < n by omega)).mpr z))) (show z = 0 from c37)) (by omega)
              refine g_locals [4, 5, 3, 2, 1, 0] [(0, .ref (a 0)), (1, .int (nI k)), (2, .int ((q 7) k)), (3, .int 0), (4, .int 0), (5, .int 0)] rfl ?_
              exact L75 _ 0 0 0 (Nat.zero_le _) rfl rfl (Nat.lt_succ_self _)
        refine g_locals [1, 0] [(0, .ref (a 0)), (1, .int 0)] rfl ?_
        exact L52 _ 0 h 0 0 (Nat.zero_le _) (fun j hj => hh j (by omega)) rfl rfl (Nat.lt_succ_self _)
      · have kc1 := nat_le_f (show (q 18 0) = nI n from hgr) (show (nI g0) = nI g0 from rfl) (by omega) (by omega) c1
        refine g_aload_n hE dX5_shakeOnce_20 0 rfl ?_
        refine g_get hE fl_X5_40 dX5_shakeOnce_21 0 rfl rfl ?_
        refine g_iload_n hE dX5_shakeOnce_24 1 rfl ?_
        refine g_aload_n hE dX5_shakeOnce_25 0 rfl ?_
        refine g_get hE fl_X5_13 dX5_shakeOnce_26 0 rfl rfl ?_
        refine g_iload_n hE dX5_shakeOnce_29 1 rfl ?_
        refine g_iald_n hE dX5_shakeOnce_30 2 rfl (show (nI g0) = nI g0 from rfl) (by omega) ?_
        refine g_if_le hE 41 dX5_shakeOnce_31 (by decide) (fun c42 => ?_) (fun c42 => ?_)
        · refine g_bipush hE dX5_shakeOnce_41 (-4) (by decide) ?_
          refine g_iast_n hE dX5_shakeOnce_43 11 rfl (show (nI g0) = nI g0 from rfl) (by omega) (modelW cI a (pA (pA (pA q 10 h) 18 (upd (upd (q 18) 8 0) 9 0)) 10 (upd h g0 (-4)))) rfl ?_
          refine g_iinc hE dX5_shakeOnce_44 1 (nI (g0 + 1)) [(1, .int (nI (g0 + 1))), (0, .ref (a 0))] rfl (nI_1 _) (by decide) rfl ?_
          refine g_goto hE 12 dX5_shakeOnce_47 (by decide) ?_
          refine g_locals [1, 0] [(0, .ref (a 0)), (1, .int (nI (g0 + 1)))] rfl ?_
          exact ih_12 (g0 + 1) (upd h g0 (-4)) (by first | assumption | omega) (upd_pre hh (ha0_n (hSA.1 g0 (by omega)).2 (show ¬ 0 < ((q 1) g0) from (Int32.not_lt.mpr c42)))) (by omega)
        · refine g_aload_n hE dX5_shakeOnce_34 0 rfl ?_
          refine g_get hE fl_X5_164 dX5_shakeOnce_35 0 rfl rfl ?_
          refine g_goto hE 43 dX5_shakeOnce_38 (by decide) ?_
          refine g_iast_n hE dX5_shakeOnce_43 11 rfl (show (nI g0) = nI g0 from rfl) (by omega) (modelW cI a (pA (pA (pA q 10 h) 18 (upd (upd (q 18) 8 0) 9 0)) 10 (upd h g0 (q 18 7)))) rfl ?_
          refine g_iinc hE dX5_shakeOnce_44 1 (nI (g0 + 1)) [(1, .int (nI (g0 + 1))), (0, .ref (a 0))] rfl (nI_1 _) (by decide) rfl ?_
          refine g_goto hE 12 dX5_shakeOnce_47 (by decide) ?_
          refine g_locals [1, 0] [(0, .ref (a 0)), (1, .int (nI (g0 + 1)))] rfl ?_
          exact ih_12 (g0 + 1) (upd h g0 (q 18 7)) (by first | assumption | omega) (upd_pre hh (ha0_y htm (hSA.1 g0 (by omega)).2 (show 0 < ((q 1) g0) from (Int32.not_le.mp c42)))) (by omega)
  refine g_locals [1, 0] [(0, .ref (a 0)), (1, .int 0)] rfl ?_
  exact L12 _ 0 (q 10) (Nat.zero_le _) (fun j hj => absurd hj (Nat.not_lt_zero _)) (Nat.lt_succ_self _)
