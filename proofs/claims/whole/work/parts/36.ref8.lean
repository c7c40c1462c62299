/-! the reference: copy, film, what would be found -/
theorem sk_n4 {k : Nat} {x : Int32} (h : SK k x) (hx : 0 ≤ x ∧ x ≤ 3) : ¬ k = 4 := by
  have := (sk_good h hx).1
  omega
theorem has_l {q : MS} {sh : SHS} {k : Nat} {i w : Int32} (h : SQ q sh) (hk : k < 4) (hn : ¬ sh k 1 0 = -1) (hw : 0 ≤ w) : ((0 : Int64) ≤ i.toInt64 ∧ i.toInt64 ≤ (q 15 k).toInt64 - w.toInt64) ↔ hasI (sh k 1 1) i w := by
  have r := (h k hk).2.2.resolve_left hn
  obtain ⟨L, _, hL, hLn⟩ := rng_n (a := 0) (b := 24) r.2.2.1 (h k hk).2.1 rfl rfl (by decide) (by decide)
  rw [r.2.1]
  exact has_long hLn hL hw
theorem has_nat2 {le i w : Int32} (h : hasI le i w) (hl : le ≤ 24) : ∃ j W, j + W ≤ 24 ∧ i = nI j ∧ w = nI W := by
  obtain ⟨L, l1, l2, _⟩ := nat_of_le (b := 24) (x := le) (y := 24) ⟨Int32.le_trans h.1 h.2.1, hl⟩ rfl (by decide)
  obtain ⟨j, j1, j2, _⟩ := nat_of_le (b := L) (x := i) (y := le) ⟨h.1, h.2.1⟩ l2 (by omega)
  have h3 := h.2.2.2
  rw [l2, j2, subs_pos L l1 j (by omega) j1] at h3
  obtain ⟨W, w1, w2, _⟩ := nat_of_le (b := L - j) (x := w) ⟨h.2.2.1, h3⟩ rfl (by omega)
  exact ⟨j, W, by omega, j2, w2⟩
theorem hA_z {m : MS} {n : Nat} {row : Nat → Int32} {l g : Nat} (hg : g < n) (h : ¬ 0 < m 1 g) : ∀ k, hA m n row l k g = -4
  | 0 => if_neg h
  | k + 1 => by
    unfold hA
    rw [if_neg, hA_z hg h k]
    intro q
    have : ∀ k, (cmS m n row k).testBit g = true → 0 < m 1 g := by
      intro k
      induction k with
      | zero => intro e; have e : (ldS m n).testBit g = true := e; rw [ld_bit hg, decide_eq_true_iff] at e; exact e
      | succ k ih => intro e; exact ih (fall_sub e)
    exact h (this k q.1)
theorem neg4 : ∀ k, k ≤ 6 → ¬ nI k = (-4 : Int32) := by decide
theorem hA_nz {m : MS} {n : Nat} {row : Nat → Int32} {l g : Nat} (hl : l ≤ 6) (h : 0 < m 1 g) : ∀ k, k ≤ l → ¬ hA m n row l k g = -4
  | 0, _ => by unfold hA; rw [if_pos h]; exact neg4 l hl
  | k + 1, hk => by
    unfold hA
    split
    · exact neg4 k (by omega)
    · exact hA_nz hl h k (by omega)
theorem pos_of {x : Int32} (h : 0 ≤ x) (h2 : ¬ x = 0) : 0 < x := Int32.lt_of_le_of_ne h (fun e => h2 e.symm)
theorem af_y {m : MS} {n pl g i : Nat} {T h : Nat → Int32} {y a it : Int32} (hl : pl ≤ 6) (hi : i + n ≤ 24) (hg : g < n) (ha : a = m 1 g) (hh : h g = hA m n (m 7) pl pl g) (hit : it = T (i + g)) (hy : y = if boB m n pl T (nI i) g = true then 1 else 0) (hy0 : ¬ y = 0) (hc : a = 0 ∨ h g = it) : (1 : Int32) = if boB m n pl T (nI i) (g + 1) = true then 1 else 0 := by
  have hb : boB m n pl T (nI i) g = true := by
    cases e : boB m n pl T (nI i) g
    · rw [e] at hy; exact absurd hy hy0
    · rfl
  rw [if_pos]
  refine bo_y hb ?_
  rw [← hA_ho hg, nI_add, atv_n (by omega) (by decide)]
  rcases hc with hc | hc
  · left
    exact hA_z hg (by rw [← ha, hc]; decide) pl
  · right
    rw [← hh, hc, hit]
theorem af_n {m : MS} {n pl g i : Nat} {T h : Nat → Int32} {a it : Int32} (hl : pl ≤ 6) (hi : i + n ≤ 24) (hg : g < n) (ha : a = m 1 g) (ha0 : 0 ≤ m 1 g) (hh : h g = hA m n (m 7) pl pl g) (hit : it = T (i + g)) (hc1 : ¬ a = 0) (hc : ¬ h g = it) : (0 : Int32) = if boB m n pl T (nI i) (g + 1) = true then 1 else 0 := by
  rw [if_neg]
  refine bo_n (show g < g + 1 by omega) ?_ ?_
  · rw [← hA_ho hg]
    exact hA_nz hl (pos_of ha0 (by rw [← ha]; exact hc1)) pl (Nat.le_refl _)
  · rw [← hA_ho hg, nI_add, atv_n (by omega) (by decide), ← hh, ← hit]
    exact hc
theorem af_0 {m : MS} {n pl g i : Nat} {T : Nat → Int32} {y : Int32} (hy : y = if boB m n pl T (nI i) g = true then 1 else 0) (hy0 : y = 0) : (0 : Int32) = if boB m n pl T (nI i) (g + 1) = true then 1 else 0 := by
  rw [if_neg]
  intro q
  rw [boB, Bool.and_eq_true] at q
  rw [q.1, hy0] at hy
  exact absurd hy (by decide)
theorem ln_small : ∀ l, l ≤ 2 → ∀ j, j ≤ 6 → lnS (nI l) (nI j) = nI j := by decide +kernel
theorem ln_4 : ∀ l, l ≤ 2 → lnS (nI l) (-4) = -4 := by decide +kernel
theorem ln_hA {m : MS} {n pl g : Nat} {ln : Int32} (hl : pl ≤ 6) (h0 : 0 ≤ ln) (h1 : ln ≤ 2) : lnS ln (hA m n (m 7) pl pl g) = hA m n (m 7) pl pl g := by
  obtain ⟨l, _, l1, l2⟩ := rng_n (a := 0) (b := 2) h0 h1 rfl rfl (by decide) (by decide)
  subst l2
  rcases hA_lt (m := m) (n := n) (row := m 7) (l := pl) (g := g) (Nat.le_refl pl) with e | ⟨j, j1, j2⟩
  · rw [e]; exact ln_4 l l1
  · rw [j2]; exact ln_small l l1 j (by omega)
theorem flA_eq {m : MS} {n pl i : Nat} {T : Nat → Int32} {ln : Int32} (hl : pl ≤ 6) (hi : i + n ≤ 24) (h0 : 0 ≤ ln) (h1 : ln ≤ 2) : ∀ g, g ≤ n → ∀ p, flA m n pl T ln (nI i) g p = if i ≤ p ∧ p < i + g then hA m n (m 7) pl pl (p - i) else T p
  | 0, _, p => by rw [if_neg (by omega)]; rfl
  | g + 1, hg, p => by
    rw [flA, nI_add, putv_n (by omega) (by decide), ← hA_ho (by omega), ln_hA hl h0 h1]
    show (if p = i + g then _ else flA m n pl T ln (nI i) g p) = _
    by_cases e : p = i + g
    · rw [if_pos e, if_pos (by omega), show p - i = g by omega]
    · rw [if_neg e, flA_eq hl hi h0 h1 g (by omega) p]
      by_cases c : i ≤ p ∧ p < i + g
      · rw [if_pos c, if_pos (by omega)]
      · rw [if_neg c, if_neg (by omega)]
theorem SQ_film {q st m : MS} {sh : SHS} {n pl k i : Nat} {ln le : Int32} {h : Nat → Int32} (hS : SQ q sh) (hk : k < 4) (hl : pl ≤ 6) (hi : i + n ≤ 24) (hn : ¬ sh k 1 0 = -1) (hh : ∀ g, g < n → h g = hA m n (m 7) pl pl g) (e4 : st 14 = q 14) (e5 : st 15 = q 15) (e6 : ∀ r, st 16 r = if 24 * k + i ≤ r ∧ r < 24 * k + i + n then h (r - (24 * k + i)) else q 16 r) (e7 : ln = sh k 1 0) (e8 : le = sh k 1 1) : SQ st (pA sh k (shT (flA m n pl (sh k 0) (sh k 1 0) (nI i) n) ln le)) := by
  intro a ha
  rw [e4, e5, e7, e8]
  by_cases e : a = k
  · subst e
    rw [pq_at]
    refine ⟨(hS a ha).1, (hS a ha).2.1, Or.inr ?_⟩
    have r := (hS a ha).2.2.resolve_left hn
    refine ⟨r.1, r.2.1, r.2.2.1, fun p hp => ?_⟩
    show st 16 (24 * a + p) = flA m n pl (sh a 0) (sh a 1 0) (nI i) n p
    rw [e6, flA_eq hl hi r.1.1 r.1.2 n (Nat.le_refl _)]
    by_cases c : i ≤ p ∧ p < i + n
    · rw [if_pos (by omega), if_pos c, show 24 * a + p - (24 * a + i) = p - i by omega]
      exact hh _ (by omega)
    · rw [if_neg (by omega), if_neg c]; exact r.2.2.2 p hp
  · rw [pq_o e]
    refine ⟨(hS a ha).1, (hS a ha).2.1, ?_⟩
    rcases (hS a ha).2.2 with r | r
    · exact Or.inl r
    · refine Or.inr ⟨r.1, r.2.1, r.2.2.1, fun p hp => ?_⟩
      rw [e6, if_neg (by omega)]; exact r.2.2.2 p hp
theorem fi_s {f h it : Nat → Int32} {b p : Nat} (hi : ∀ r, it r = if b ≤ r ∧ r < b + p then h (r - b) else f r) : ∀ r, upd it (b + p) (h p) r = if b ≤ r ∧ r < b + (p + 1) then h (r - b) else f r := fun r => by
  show (if r = b + p then h p else it r) = _
  by_cases e : r = b + p
  · rw [if_pos e, if_pos (by omega), show r - b = p by omega]
  · rw [if_neg e, hi r]
    by_cases d : b ≤ r ∧ r < b + p
    · rw [if_pos d, if_pos (by omega)]
    · rw [if_neg d, if_neg (by omega)]
