/-! the reference: images -/
theorem div6 : ∀ k, k < 60 → nI k / 6 = nI (k / 6) := by decide +kernel
theorem rem6 : ∀ k, k < 60 → nI k - nI k / 6 * 6 = nI (k % 6) := by decide +kernel
/-- the k-th number of an image -/
def CV (q : MS) (k : Nat) : Int32 := if k < 18 then (if k / 6 = 0 then q 0 (k % 6) else if k / 6 = 1 then q 1 (k % 6) else q 2 (k % 6)) else if k < 50 then q 3 (k - 18) else if k < 56 then q 4 (k - 50) else if k = 56 then q 18 0 else if k = 57 then q 18 1 else if k = 58 then q 18 2 else q 18 3
/-- the state with the k-th number of an image put back -/
def CU (q : MS) (k : Nat) (v : Int32) : MS := fun f p => if (k < 18 ∧ f = k / 6 ∧ p = k % 6) ∨ (18 ≤ k ∧ k < 50 ∧ f = 3 ∧ p = k - 18) ∨ (50 ≤ k ∧ k < 56 ∧ f = 4 ∧ p = k - 50) ∨ (56 ≤ k ∧ f = 18 ∧ p = k - 56) then v else q f p
theorem pq_u {q : MS} {j i f p : Nat} {v : Int32} : pA q j (upd (q j) i v) f p = if f = j ∧ p = i then v else q f p := by
  by_cases e : f = j
  · subst e
    rw [pq_at]
    show (if p = i then v else q f p) = _
    by_cases c : p = i
    · rw [if_pos c, if_pos ⟨rfl, c⟩]
    · rw [if_neg c, if_neg (fun z => c z.2)]
  · rw [pq_o e, if_neg (fun z => e z.1)]
theorem pq_same {q : MS} {j i : Nat} : pA q j (upd (q j) i (q j i)) = q := by
  funext f p
  rw [pq_u]
  by_cases e : f = j ∧ p = i
  · rw [if_pos e, e.1, e.2]
  · rw [if_neg e]
theorem cu3 {q : MS} {i : Nat} {w0 w1 w2 : Int32} {f p : Nat} : pA (pA (pA q 0 (upd (q 0) i w0)) 1 (upd (q 1) i w1)) 2 (upd (q 2) i w2) f p = if f = 0 ∧ p = i then w0 else if f = 1 ∧ p = i then w1 else if f = 2 ∧ p = i then w2 else q f p := by
  have h2 := pq_u (q := pA (pA q 0 (upd (q 0) i w0)) 1 (upd (q 1) i w1)) (j := 2) (i := i) (f := f) (p := p) (v := w2)
  have h1 := pq_u (q := pA q 0 (upd (q 0) i w0)) (j := 1) (i := i) (f := f) (p := p) (v := w1)
  have h0 := pq_u (q := q) (j := 0) (i := i) (f := f) (p := p) (v := w0)
  have e2 : pA (pA (pA q 0 (upd (q 0) i w0)) 1 (upd (q 1) i w1)) 2 (upd (q 2) i w2) f p = if f = 2 ∧ p = i then w2 else pA (pA q 0 (upd (q 0) i w0)) 1 (upd (q 1) i w1) f p := h2
  have e1 : pA (pA q 0 (upd (q 0) i w0)) 1 (upd (q 1) i w1) f p = if f = 1 ∧ p = i then w1 else pA q 0 (upd (q 0) i w0) f p := h1
  rw [e2, e1, h0]
  by_cases c : p = i
  · by_cases f0 : f = 0
    · subst f0; simp [c]
    · by_cases f1 : f = 1
      · subst f1; simp [c]
      · by_cases f2 : f = 2
        · subst f2; simp [c]
        · simp [f0, f1, f2]
  · simp [c]
theorem cu4 {q : MS} {w0 w1 w2 w3 : Int32} {f p : Nat} : pA (pA (pA (pA q 18 (upd (q 18) 0 w0)) 18 (upd (upd (q 18) 0 w0) 1 w1)) 18 (upd (upd (upd (q 18) 0 w0) 1 w1) 2 w2)) 18 (upd (upd (upd (upd (q 18) 0 w0) 1 w1) 2 w2) 3 w3) f p = if f = 18 then (if p = 3 then w3 else if p = 2 then w2 else if p = 1 then w1 else if p = 0 then w0 else q 18 p) else q f p := by
  by_cases e : f = 18
  · subst e; rw [pq_at, if_pos rfl]; rfl
  · rw [pq_o e, pq_o e, pq_o e, pq_o e, if_neg e]
theorem cu3_id {q : MS} {i : Nat} : pA (pA (pA q 0 (upd (q 0) i (q 0 i))) 1 (upd (q 1) i (q 1 i))) 2 (upd (q 2) i (q 2 i)) = q := by
  funext f p
  rw [cu3]
  by_cases c : p = i
  · subst c
    by_cases f0 : f = 0
    · subst f0; simp
    · by_cases f1 : f = 1
      · subst f1; simp
      · by_cases f2 : f = 2
        · subst f2; simp
        · simp [f0, f1, f2]
  · simp [c]
theorem cu4_id {q : MS} : pA (pA (pA (pA q 18 (upd (q 18) 0 (q 18 0))) 18 (upd (upd (q 18) 0 (q 18 0)) 1 (q 18 1))) 18 (upd (upd (upd (q 18) 0 (q 18 0)) 1 (q 18 1)) 2 (q 18 2))) 18 (upd (upd (upd (upd (q 18) 0 (q 18 0)) 1 (q 18 1)) 2 (q 18 2)) 3 (q 18 3)) = q := by
  funext f p
  rw [cu4]
  by_cases e : f = 18
  · subst e
    rw [if_pos rfl]
    by_cases p3 : p = 3
    · rw [if_pos p3, p3]
    · rw [if_neg p3]
      by_cases p2 : p = 2
      · rw [if_pos p2, p2]
      · rw [if_neg p2]
        by_cases p1 : p = 1
        · rw [if_pos p1, p1]
        · rw [if_neg p1]
          by_cases p0 : p = 0
          · rw [if_pos p0, p0]
          · rw [if_neg p0]
  · rw [if_neg e]
