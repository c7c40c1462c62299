/-! the reference: images -/
theorem div6 : ∀ k, k < 60 → nI k / 6 = nI (k / 6) := by decide +kernel
theorem rem6 : ∀ k, k < 60 → nI k - nI k / 6 * 6 = nI (k % 6) := by decide +kernel
/-- the k-th number of an image -/
def CV (q : MS) (k : Nat) : Int32 := if k < 18 then (if k / 6 = 0 then q 0 (k % 6) else if k / 6 = 1 then q 1 (k % 6) else q 2 (k % 6)) else if k < 50 then q 3 (k - 18) else if k < 56 then q 4 (k - 50) else if k = 56 then q 18 0 else if k = 57 then q 18 1 else if k = 58 then q 18 2 else q 18 3
/-- the state with the k-th number of an image put back -/
def CU (q : MS) (k : Nat) (v : Int32) : MS := fun f p => if (k < 18 ∧ f = k / 6 ∧ p = k % 6) ∨ (18 ≤ k ∧ k < 50 ∧ f = 3 ∧ p = k - 18) ∨ (50 ≤ k ∧ k < 56 ∧ f = 4 ∧ p = k - 50) ∨ (56 ≤ k ∧ f = 18 ∧ p = k - 56) then v else q f p
theorem pq_u {q : MS} {j i f p : Nat} {v : Int32} : pA q j (upd (q j) i v) f p = if f = j ∧ p = i then v else q f p := by
  by_cases e : f = j
  · subst e
    rw [pq_at]
    show (if p = i then v else q f p) = _
    by_cases c : p = i
    · rw [if_pos c, if_pos ⟨rfl, c⟩]
    · rw [if_neg c, if_neg (fun z => c z.2)]
  · rw [pq_o e, if_neg (fun z => e z.1)]
theorem pq_same {q : MS} {j i : Nat} : pA q j (upd (q j) i (q j i)) = q := by
  funext f p
  rw [pq_u]
  by_cases e : f = j ∧ p = i
  · rw [if_pos e, e.1, e.2]
  · rw [if_neg e]
theorem cu3 {q : MS} {i : Nat} {w0 w1 w2 : Int32} {f p : Nat} : pA (pA (pA q 0 (upd (q 0) i w0)) 1 (upd (q 1) i w1)) 2 (upd (q 2) i w2) f p = if f = 0 ∧ p = i then w0 else if f = 1 ∧ p = i then w1 else if f = 2 ∧ p = i then w2 else q f p := by
  have h2 := pq_u (q := pA (pA q 0 (upd (q 0) i w0)) 1 (upd (q 1) i w1)) (j := 2) (i := i) (f := f) (p := p) (v := w2)
  have h1 := pq_u (q := pA q 0 (upd (q 0) i w0)) (j := 1) (i := i) (f := f) (p := p) (v := w1)
  have h0 := pq_u (q := q) (j := 0) (i := i) (f := f) (p := p) (v := w0)
  have e2 : pA (pA (pA q 0 (upd (q 0) i w0)) 1 (upd (q 1) i w1)) 2 (upd (q 2) i w2) f p = if f = 2 ∧ p = i then w2 else pA (pA q 0 (upd (q 0) i w0)) 1 (upd (q 1) i w1) f p := h2
  have e1 : pA (pA q 0 (upd (q 0) i w0)) 1 (upd (q 1) i w1) f p = if f = 1 ∧ p = i then w1 else pA q 0 (upd (q 0) i w0) f p := h1
  rw [e2, e1, h0]
  by_cases c : p = i
  · by_cases f0 : f = 0
    · subst f0; simp [c]
    · by_cases f1 : f = 1
      · subst f1; simp [c]
      · by_cases f2 : f = 2
        · subst f2; simp [c]
        · simp [f0, f1, f2]
  · simp [c]
theorem cu4 {q : MS} {w0 w1 w2 w3 : Int32} {f p : Nat} : pA (pA (pA (pA q 18 (upd (q 18) 0 w0)) 18 (upd (upd (q 18) 0 w0) 1 w1)) 18 (upd (upd (upd (q 18) 0 w0) 1 w1) 2 w2)) 18 (upd (upd (upd (upd (q 18) 0 w0) 1 w1) 2 w2) 3 w3) f p = if f = 18 then (if p = 3 then w3 else if p = 2 then w2 else if p = 1 then w1 else if p = 0 then w0 else q 18 p) else q f p := by
  by_cases e : f = 18
  · subst e; rw [pq_at, if_pos rfl]; rfl
  · rw [pq_o e, pq_o e, pq_o e, pq_o e, if_neg e]
theorem cu3_id {q : MS} {i : Nat} : pA (pA (pA q 0 (upd (q 0) i (q 0 i))) 1 (upd (q 1) i (q 1 i))) 2 (upd (q 2) i (q 2 i)) = q := by
  funext f p
  rw [cu3]
  by_cases c : p = i
  · subst c
    by_cases f0 : f = 0
    · subst f0; simp
    · by_cases f1 : f = 1
      · subst f1; simp
      · by_cases f2 : f = 2
        · subst f2; simp
        · simp [f0, f1, f2]
  · simp [c]
theorem cu4_id {q : MS} : pA (pA (pA (pA q 18 (upd (q 18) 0 (q 18 0))) 18 (upd (upd (q 18) 0 (q 18 0)) 1 (q 18 1))) 18 (upd (upd (upd (q 18) 0 (q 18 0)) 1 (q 18 1)) 2 (q 18 2))) 18 (upd (upd (upd (upd (q 18) 0 (q 18 0)) 1 (q 18 1)) 2 (q 18 2)) 3 (q 18 3)) = q := by
  funext f p
  rw [cu4]
  by_cases e : f = 18
  · subst e
    rw [if_pos rfl]
    by_cases p3 : p = 3
    · rw [if_pos p3, p3]
    · rw [if_neg p3]
      by_cases p2 : p = 2
      · rw [if_pos p2, p2]
      · rw [if_neg p2]
        by_cases p1 : p = 1
        · rw [if_pos p1, p1]
        · rw [if_neg p1]
          by_cases p0 : p = 0
          · rw [if_pos p0, p0]
          · rw [if_neg p0]
  · rw [if_neg e]
theorem cuA {q : MS} {k : Nat} {v w0 w1 w2 : Int32} (hk : k < 18) (h0 : w0 = if k / 6 = 0 then v else q 0 (k % 6)) (h1 : w1 = if k / 6 = 1 then v else q 1 (k % 6)) (h2 : w2 = if k / 6 = 2 then v else q 2 (k % 6)) : pA (pA (pA q 0 (upd (q 0) (k % 6) w0)) 1 (upd (q 1) (k % 6) w1)) 2 (upd (q 2) (k % 6) w2) = CU q k v := by
  funext f p
  rw [cu3]
  unfold CU
  by_cases c : p = k % 6
  · subst c
    by_cases f0 : f = 0
    · subst f0
      rw [if_pos ⟨rfl, rfl⟩, h0]
      by_cases e : k / 6 = 0
      · rw [if_pos e, if_pos (by omega)]
      · rw [if_neg e, if_neg (by omega)]
    · rw [if_neg (by omega)]
      by_cases f1 : f = 1
      · subst f1
        rw [if_pos ⟨rfl, rfl⟩, h1]
        by_cases e : k / 6 = 1
        · rw [if_pos e, if_pos (by omega)]
        · rw [if_neg e, if_neg (by omega)]
      · rw [if_neg (by omega)]
        by_cases f2 : f = 2
        · subst f2
          rw [if_pos ⟨rfl, rfl⟩, h2]
          by_cases e : k / 6 = 2
          · rw [if_pos e, if_pos (by omega)]
          · rw [if_neg e, if_neg (by omega)]
        · rw [if_neg (by omega), if_neg (by omega)]
  · rw [if_neg (by omega), if_neg (by omega), if_neg (by omega), if_neg (by omega)]
theorem cuZ {q : MS} {k : Nat} {v : Int32} (hk : 18 ≤ k) (h2 : k < 50) : pA q 3 (upd (q 3) (k - 18) v) = CU q k v := by
  funext f p
  rw [pq_u]
  unfold CU
  by_cases c : f = 3 ∧ p = k - 18
  · rw [if_pos c, if_pos (by omega)]
  · rw [if_neg c, if_neg (by omega)]
theorem cuR {q : MS} {k : Nat} {v : Int32} (hk : 50 ≤ k) (h2 : k < 56) : pA q 4 (upd (q 4) (k - 50) v) = CU q k v := by
  funext f p
  rw [pq_u]
  unfold CU
  by_cases c : f = 4 ∧ p = k - 50
  · rw [if_pos c, if_pos (by omega)]
  · rw [if_neg c, if_neg (by omega)]
theorem cuS {q : MS} {k : Nat} {v w0 w1 w2 w3 : Int32} (hk : 56 ≤ k) (hk2 : k < 60) (h0 : w0 = if k = 56 then v else q 18 0) (h1 : w1 = if k = 57 then v else q 18 1) (h2 : w2 = if k = 58 then v else q 18 2) (h3 : w3 = if k = 59 then v else q 18 3) : pA (pA (pA (pA q 18 (upd (q 18) 0 w0)) 18 (upd (upd (q 18) 0 w0) 1 w1)) 18 (upd (upd (upd (q 18) 0 w0) 1 w1) 2 w2)) 18 (upd (upd (upd (upd (q 18) 0 w0) 1 w1) 2 w2) 3 w3) = CU q k v := by
  funext f p
  rw [cu4]
  unfold CU
  by_cases e : f = 18
  · subst e
    rw [if_pos rfl]
    have c : k = 56 ∨ k = 57 ∨ k = 58 ∨ k = 59 := by omega
    rcases c with c | c | c | c <;> subst c <;> simp at h0 h1 h2 h3 <;> subst h0 <;> subst h1 <;> subst h2 <;> subst h3
    · by_cases p0 : p = 0
      · subst p0; simp
      · rw [if_neg (show ¬ ((56 < 18 ∧ 18 = 56 / 6 ∧ p = 56 % 6) ∨ (18 ≤ 56 ∧ 56 < 50 ∧ 18 = 3 ∧ p = 56 - 18) ∨ (50 ≤ 56 ∧ 56 < 56 ∧ 18 = 4 ∧ p = 56 - 50) ∨ (56 ≤ 56 ∧ 18 = 18 ∧ p = 56 - 56)) by omega)]
        by_cases p3 : p = 3
        · subst p3; simp
        · by_cases p2 : p = 2
          · subst p2; simp
          · by_cases p1 : p = 1
            · subst p1; simp
            · rw [if_neg p3, if_neg p2, if_neg p1, if_neg p0]
    · by_cases p0 : p = 1
      · subst p0; simp
      · rw [if_neg (show ¬ ((57 < 18 ∧ 18 = 57 / 6 ∧ p = 57 % 6) ∨ (18 ≤ 57 ∧ 57 < 50 ∧ 18 = 3 ∧ p = 57 - 18) ∨ (50 ≤ 57 ∧ 57 < 56 ∧ 18 = 4 ∧ p = 57 - 50) ∨ (56 ≤ 57 ∧ 18 = 18 ∧ p = 57 - 56)) by omega)]
        by_cases p3 : p = 3
        · subst p3; simp
        · by_cases p2 : p = 2
          · subst p2; simp
          · by_cases p1 : p = 0
            · subst p1; simp
            · rw [if_neg p3, if_neg p2, if_neg p0, if_neg p1]
    · by_cases p0 : p = 2
      · subst p0; simp
      · rw [if_neg (show ¬ ((58 < 18 ∧ 18 = 58 / 6 ∧ p = 58 % 6) ∨ (18 ≤ 58 ∧ 58 < 50 ∧ 18 = 3 ∧ p = 58 - 18) ∨ (50 ≤ 58 ∧ 58 < 56 ∧ 18 = 4 ∧ p = 58 - 50) ∨ (56 ≤ 58 ∧ 18 = 18 ∧ p = 58 - 56)) by omega)]
        by_cases p3 : p = 3
        · subst p3; simp
        · by_cases p2 : p = 1
          · subst p2; simp
          · by_cases p1 : p = 0
            · subst p1; simp
            · rw [if_neg p3, if_neg p0, if_neg p2, if_neg p1]
    · by_cases p0 : p = 3
      · subst p0; simp
      · rw [if_neg (show ¬ ((59 < 18 ∧ 18 = 59 / 6 ∧ p = 59 % 6) ∨ (18 ≤ 59 ∧ 59 < 50 ∧ 18 = 3 ∧ p = 59 - 18) ∨ (50 ≤ 59 ∧ 59 < 56 ∧ 18 = 4 ∧ p = 59 - 50) ∨ (56 ≤ 59 ∧ 18 = 18 ∧ p = 59 - 56)) by omega)]
        by_cases p3 : p = 2
        · subst p3; simp
        · by_cases p2 : p = 1
          · subst p2; simp
          · by_cases p1 : p = 0
            · subst p1; simp
            · rw [if_neg p0, if_neg p3, if_neg p2, if_neg p1]
  · rw [if_neg e, if_neg (by omega)]
theorem dv_t {k j : Nat} {x : Int32} (hd : x = nI (k / 6)) (hk : k < 60) (hj : j < 10) (h : x = nI j) : k / 6 = j := by
  rw [hd] at h
  exact (nI_eq (by omega) (by omega)).mp h
theorem dv_f {k j : Nat} {x : Int32} (hd : x = nI (k / 6)) (h : ¬ x = nI j) : ¬ k / 6 = j := fun z => h (by rw [hd, z])
/-- an image as a state -/
def unp (kp : Nat → Int32) : MS := fun f p => if f = 0 then kp p else if f = 1 then kp (6 + p) else if f = 2 then kp (12 + p) else if f = 3 then kp (18 + p) else if f = 4 then kp (50 + p) else kp (56 + p)
theorem CV_unp {q : MS} {kp : Nat → Int32} (h : ∀ r, r < 60 → kp r = CV q r) : (∀ g, g < 6 → unp kp 0 g = q 0 g ∧ unp kp 1 g = q 1 g ∧ unp kp 2 g = q 2 g) ∧ (∀ j, j < 32 → unp kp 3 j = q 3 j) ∧ (∀ k, k < 6 → unp kp 4 k = q 4 k) ∧ unp kp 18 0 = q 18 0 ∧ unp kp 18 1 = q 18 1 ∧ unp kp 18 2 = q 18 2 ∧ unp kp 18 3 = q 18 3 := by
  refine ⟨fun g hg => ⟨?_, ?_, ?_⟩, fun j hj => ?_, fun k hk => ?_, ?_, ?_, ?_, ?_⟩
  · show kp g = _
    rw [h g (by omega), CV, if_pos (by omega), if_pos (by omega), show g % 6 = g by omega]
  · show kp (6 + g) = _
    rw [h _ (by omega), CV, if_pos (by omega), if_neg (by omega), if_pos (by omega), show (6 + g) % 6 = g by omega]
  · show kp (12 + g) = _
    rw [h _ (by omega), CV, if_pos (by omega), if_neg (by omega), if_neg (by omega), show (12 + g) % 6 = g by omega]
  · show kp (18 + j) = _
    rw [h _ (by omega), CV, if_neg (by omega), if_pos (by omega), show 18 + j - 18 = j by omega]
  · show kp (50 + k) = _
    rw [h _ (by omega), CV, if_neg (by omega), if_neg (by omega), if_pos (by omega), show 50 + k - 50 = k by omega]
  · show kp 56 = _
    rw [h 56 (by omega)]; rfl
  · show kp 57 = _
    rw [h 57 (by omega)]; rfl
  · show kp 58 = _
    rw [h 58 (by omega)]; rfl
  · show kp 59 = _
    rw [h 59 (by omega)]; rfl
theorem TQ_unp {q m : MS} {n sv pl : Nat} {kp : Nat → Int32} (hR : RQ q m n sv pl) (h : ∀ r, r < 60 → kp r = CV q r) : TQ (unp kp) m n sv pl := by
  obtain ⟨a, b, c, d⟩ := CV_unp h
  obtain ⟨hM, hT, _⟩ := hR
  have hn := hM.2.1
  have hs := hM.2.2.2.1
  have hp := hM.2.2.2.2.2
  refine ⟨fun g hg => ?_, fun s hs => ?_, fun k hk => ?_, ?_⟩
  · rw [(a g (by omega)).1, (a g (by omega)).2.1, (a g (by omega)).2.2]; exact hT.1 g hg
  · rw [b _ (by omega), b _ (by omega), b _ (by omega), b _ (by omega)]; exact hT.2.1 s hs
  · rw [c k (by omega)]; exact hT.2.2.1 k hk
  · rw [d.1, d.2.1, d.2.2.1, d.2.2.2]; exact hT.2.2.2
/-- the numbers of an image put back -/
def RSt (q : MS) (kp : Nat → Int32) : Nat → MS
  | 0 => q
  | k + 1 => CU (RSt q kp k) k (kp k)
theorem rs_off {q : MS} {kp : Nat → Int32} {f p : Nat} (h : 5 ≤ f ∧ ¬ f = 18 ∨ f = 18 ∧ 4 ≤ p) : ∀ k, k ≤ 60 → RSt q kp k f p = q f p
  | 0, _ => rfl
  | k + 1, hk => by
    show (if _ then _ else RSt q kp k f p) = _
    rw [if_neg (by omega)]
    exact rs_off h k (by omega)
theorem rs_fun {q : MS} {kp : Nat → Int32} {f : Nat} (h : 5 ≤ f ∧ ¬ f = 18) : RSt q kp 60 f = q f := by
  funext p
  exact rs_off (Or.inl h) 60 (Nat.le_refl _)
theorem rs_at {q : MS} {kp : Nat → Int32} {f p i : Nat} (h : (i < 18 ∧ f = i / 6 ∧ p = i % 6) ∨ (18 ≤ i ∧ i < 50 ∧ f = 3 ∧ p = i - 18) ∨ (50 ≤ i ∧ i < 56 ∧ f = 4 ∧ p = i - 50) ∨ (56 ≤ i ∧ f = 18 ∧ p = i - 56)) : ∀ k, i < k → k ≤ 60 → RSt q kp k f p = kp i
  | 0, h1, _ => absurd h1 (Nat.not_lt_zero _)
  | k + 1, h1, h2 => by
    by_cases e : k = i
    · subst e
      exact if_pos h
    · show (if _ then _ else RSt q kp k f p) = _
      rw [if_neg (by omega)]
      exact rs_at h k (by omega) (by omega)
theorem TQ_rs {q m : MS} {n sv pl : Nat} {kp : Nat → Int32} (hn : n ≤ 6) (hs : sv ≤ 8) (hp : pl ≤ 6) (h : TQ (unp kp) m n sv pl) : TQ (RSt q kp 60) m n sv pl := by
  refine ⟨fun g hg => ?_, fun s hs => ?_, fun k hk => ?_, ?_⟩
  · rw [rs_at (i := g) (by omega) 60 (by omega) (by omega), rs_at (i := 6 + g) (by omega) 60 (by omega) (by omega), rs_at (i := 12 + g) (by omega) 60 (by omega) (by omega)]
    exact h.1 g hg
  · rw [rs_at (i := 18 + (4 * s)) (by omega) 60 (by omega) (by omega), rs_at (i := 18 + (4 * s + 1)) (by omega) 60 (by omega) (by omega), rs_at (i := 18 + (4 * s + 2)) (by omega) 60 (by omega) (by omega), rs_at (i := 18 + (4 * s + 3)) (by omega) 60 (by omega) (by omega)]
    exact h.2.1 s hs
  · rw [rs_at (i := 50 + k) (by omega) 60 (by omega) (by omega)]
    exact h.2.2.1 k hk
  · rw [rs_at (i := 56) (by omega) 60 (by omega) (by omega), rs_at (i := 57) (by omega) 60 (by omega) (by omega), rs_at (i := 58) (by omega) 60 (by omega) (by omega), rs_at (i := 59) (by omega) 60 (by omega) (by omega)]
    exact h.2.2.2
/-- the kept mill: a flag, and the tables in the image -/
def KQ (q w : MS) (kf : Int32) (nw sw pw : Nat) : Prop := q 18 13 = kf ∧ (kf = 0 ∨ (kf = 1 ∧ MW w nw sw pw ∧ TQ (unp (q 13)) w nw sw pw ∧ RG w nw sw pw))
