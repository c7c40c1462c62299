/-! the reference: images -/
theorem div6 : ∀ k, k < 60 → nI k / 6 = nI (k / 6) := by decide +kernel
theorem rem6 : ∀ k, k < 60 → nI k - nI k / 6 * 6 = nI (k % 6) := by decide +kernel
/-- the k-th number of an image -/
def CV (q : MS) (k : Nat) : Int32 := if k < 18 then (if k / 6 = 0 then q 0 (k % 6) else if k / 6 = 1 then q 1 (k % 6) else q 2 (k % 6)) else if k < 50 then q 3 (k - 18) else if k < 56 then q 4 (k - 50) else if k = 56 then q 18 0 else if k = 57 then q 18 1 else if k = 58 then q 18 2 else q 18 3
/-- the state with the k-th number of an image put back -/
def CU (q : MS) (k : Nat) (v : Int32) : MS := fun f p => if (k < 18 ∧ f = k / 6 ∧ p = k % 6) ∨ (18 ≤ k ∧ k < 50 ∧ f = 3 ∧ p = k - 18) ∨ (50 ≤ k ∧ k < 56 ∧ f = 4 ∧ p = k - 50) ∨ (56 ≤ k ∧ f = 18 ∧ p = k - 56) then v else q f p
theorem pq_u {q : MS} {j i f p : Nat} {v : Int32} : pA q j (upd (q j) i v) f p = if f = j ∧ p = i then v else q f p := by
  by_cases e : f = j
  · subst e
    rw [pq_at]
    show (if p = i then v else q f p) = _
    by_cases c : p = i
    · rw [if_pos c, if_pos ⟨rfl, c⟩]
    · rw [if_neg c, if_neg (fun z => c z.2)]
  · rw [pq_o e, if_neg (fun z => e z.1)]
theorem pq_same {q : MS} {j i : Nat} : pA q j (upd (q j) i (q j i)) = q := by
  funext f p
  rw [pq_u]
  by_cases e : f = j ∧ p = i
  · rw [if_pos e, e.1, e.2]
  · rw [if_neg e]
theorem cu3 {q : MS} {i : Nat} {w0 w1 w2 : Int32} {f p : Nat} : pA (pA (pA q 0 (upd (q 0) i w0)) 1 (upd (q 1) i w1)) 2 (upd (q 2) i w2) f p = if f = 0 ∧ p = i then w0 else if f = 1 ∧ p = i then w1 else if f = 2 ∧ p = i then w2 else q f p := by
  have h2 := pq_u (q := pA (pA q 0 (upd (q 0) i w0)) 1 (upd (q 1) i w1)) (j := 2) (i := i) (f := f) (p := p) (v := w2)
  have h1 := pq_u (q := pA q 0 (upd (q 0) i w0)) (j := 1) (i := i) (f := f) (p := p) (v := w1)
  have h0 := pq_u (q := q) (j := 0) (i := i) (f := f) (p := p) (v := w0)
  have e2 : pA (pA (pA q 0 (upd (q 0) i w0)) 1 (upd (q 1) i w1)) 2 (upd (q 2) i w2) f p = if f = 2 ∧ p = i then w2 else pA (pA q 0 (upd (q 0) i w0)) 1 (upd (q 1) i w1) f p := h2
  have e1 : pA (pA q 0 (upd (q 0) i w0)) 1 (upd (q 1) i w1) f p = if f = 1 ∧ p = i then w1 else pA q 0 (upd (q 0) i w0) f p := h1
  rw [e2, e1, h0]
  by_cases c : p = i
  · by_cases f0 : f = 0
    · subst f0; simp [c]
    · by_cases f1 : f = 1
      · subst f1; simp [c]
      · by_cases f2 : f = 2
        · subst f2; simp [c]
        · simp [f0, f1, f2]
  · simp [c]
theorem cu4 {q : MS} {w0 w1 w2 w3 : Int32} {f p : Nat} : pA (pA (pA (pA q 18 (upd (q 18) 0 w0)) 18 (upd (upd (q 18) 0 w0) 1 w1)) 18 (upd (upd (upd (q 18) 0 w0) 1 w1) 2 w2)) 18 (upd (upd (upd (upd (q 18) 0 w0) 1 w1) 2 w2) 3 w3) f p = if f = 18 then (if p = 3 then w3 else if p = 2 then w2 else if p = 1 then w1 else if p = 0 then w0 else q 18 p) else q f p := by
  by_cases e : f = 18
  · subst e; rw [pq_at, if_pos rfl]; rfl
  · rw [pq_o e, pq_o e, pq_o e, pq_o e, if_neg e]
theorem cu3_id {q : MS} {i : Nat} : pA (pA (pA q 0 (upd (q 0) i (q 0 i))) 1 (upd (q 1) i (q 1 i))) 2 (upd (q 2) i (q 2 i)) = q := by
  funext f p
  rw [cu3]
  by_cases c : p = i
  · subst c
    by_cases f0 : f = 0
    · subst f0; simp
    · by_cases f1 : f = 1
      · subst f1; simp
      · by_cases f2 : f = 2
        · subst f2; simp
        · simp [f0, f1, f2]
  · simp [c]
theorem cu4_id {q : MS} : pA (pA (pA (pA q 18 (upd (q 18) 0 (q 18 0))) 18 (upd (upd (q 18) 0 (q 18 0)) 1 (q 18 1))) 18 (upd (upd (upd (q 18) 0 (q 18 0)) 1 (q 18 1)) 2 (q 18 2))) 18 (upd (upd (upd (upd (q 18) 0 (q 18 0)) 1 (q 18 1)) 2 (q 18 2)) 3 (q 18 3)) = q := by
  funext f p
  rw [cu4]
  by_cases e : f = 18
  · subst e
    rw [if_pos rfl]
    by_cases p3 : p = 3
    · rw [if_pos p3, p3]
    · rw [if_neg p3]
      by_cases p2 : p = 2
      · rw [if_pos p2, p2]
      · rw [if_neg p2]
        by_cases p1 : p = 1
        · rw [if_pos p1, p1]
        · rw [if_neg p1]
          by_cases p0 : p = 0
          · rw [if_pos p0, p0]
          · rw [if_neg p0]
  · rw [if_neg e]
theorem cuA {q : MS} {k : Nat} {v w0 w1 w2 : Int32} (hk : k < 18) (h0 : w0 = if k / 6 = 0 then v else q 0 (k % 6)) (h1 : w1 = if k / 6 = 1 then v else q 1 (k % 6)) (h2 : w2 = if k / 6 = 2 then v else q 2 (k % 6)) : pA (pA (pA q 0 (upd (q 0) (k % 6) w0)) 1 (upd (q 1) (k % 6) w1)) 2 (upd (q 2) (k % 6) w2) = CU q k v := by
  funext f p
  rw [cu3]
  unfold CU
  by_cases c : p = k % 6
  · subst c
    by_cases f0 : f = 0
    · subst f0
      rw [if_pos ⟨rfl, rfl⟩, h0]
      by_cases e : k / 6 = 0
      · rw [if_pos e, if_pos (by omega)]
      · rw [if_neg e, if_neg (by omega)]
    · rw [if_neg (by omega)]
      by_cases f1 : f = 1
      · subst f1
        rw [if_pos ⟨rfl, rfl⟩, h1]
        by_cases e : k / 6 = 1
        · rw [if_pos e, if_pos (by omega)]
        · rw [if_neg e, if_neg (by omega)]
      · rw [if_neg (by omega)]
        by_cases f2 : f = 2
        · subst f2
          rw [if_pos ⟨rfl, rfl⟩, h2]
          by_cases e : k / 6 = 2
          · rw [if_pos e, if_pos (by omega)]
          · rw [if_neg e, if_neg (by omega)]
        · rw [if_neg (by omega), if_neg (by omega)]
  · rw [if_neg (by omega), if_neg (by omega), if_neg (by omega), if_neg (by omega)]
theorem cuZ {q : MS} {k : Nat} {v : Int32} (hk : 18 ≤ k) (h2 : k < 50) : pA q 3 (upd (q 3) (k - 18) v) = CU q k v := by
  funext f p
  rw [pq_u]
  unfold CU
  by_cases c : f = 3 ∧ p = k - 18
  · rw [if_pos c, if_pos (by omega)]
  · rw [if_neg c, if_neg (by omega)]
theorem cuR {q : MS} {k : Nat} {v : Int32} (hk : 50 ≤ k) (h2 : k < 56) : pA q 4 (upd (q 4) (k - 50) v) = CU q k v := by
  funext f p
  rw [pq_u]
  unfold CU
  by_cases c : f = 4 ∧ p = k - 50
  · rw [if_pos c, if_pos (by omega)]
  · rw [if_neg c, if_neg (by omega)]
theorem cuS {q : MS} {k : Nat} {v w0 w1 w2 w3 : Int32} (hk : 56 ≤ k) (hk2 : k < 60) (h0 : w0 = if k = 56 then v else q 18 0) (h1 : w1 = if k = 57 then v else q 18 1) (h2 : w2 = if k = 58 then v else q 18 2) (h3 : w3 = if k = 59 then v else q 18 3) : pA (pA (pA (pA q 18 (upd (q 18) 0 w0)) 18 (upd (upd (q 18) 0 w0) 1 w1)) 18 (upd (upd (upd (q 18) 0 w0) 1 w1) 2 w2)) 18 (upd (upd (upd (upd (q 18) 0 w0) 1 w1) 2 w2) 3 w3) = CU q k v := by
  funext f p
  rw [cu4]
  unfold CU
  by_cases e : f = 18
  · subst e
    rw [if_pos rfl]
    have c : k = 56 ∨ k = 57 ∨ k = 58 ∨ k = 59 := by omega
    rcases c with c | c | c | c <;> subst c <;> simp at h0 h1 h2 h3 <;> subst h0 <;> subst h1 <;> subst h2 <;> subst h3
    · by_cases p0 : p = 0
      · subst p0; simp
      · rw [if_neg (show ¬ ((56 < 18 ∧ 18 = 56 / 6 ∧ p = 56 % 6) ∨ (18 ≤ 56 ∧ 56 < 50 ∧ 18 = 3 ∧ p = 56 - 18) ∨ (50 ≤ 56 ∧ 56 < 56 ∧ 18 = 4 ∧ p = 56 - 50) ∨ (56 ≤ 56 ∧ 18 = 18 ∧ p = 56 - 56)) by omega)]
        by_cases p3 : p = 3
        · subst p3; simp
        · by_cases p2 : p = 2
          · subst p2; simp
          · by_cases p1 : p = 1
            · subst p1; simp
            · rw [if_neg p3, if_neg p2, if_neg p1, if_neg p0]
    · by_cases p0 : p = 1
      · subst p0; simp
      · rw [if_neg (show ¬ ((57 < 18 ∧ 18 = 57 / 6 ∧ p = 57 % 6) ∨ (18 ≤ 57 ∧ 57 < 50 ∧ 18 = 3 ∧ p = 57 - 18) ∨ (50 ≤ 57 ∧ 57 < 56 ∧ 18 = 4 ∧ p = 57 - 50) ∨ (56 ≤ 57 ∧ 18 = 18 ∧ p = 57 - 56)) by omega)]
        by_cases p3 : p = 3
        · subst p3; simp
        · by_cases p2 : p = 2
          · subst p2; simp
          · by_cases p1 : p = 0
            · subst p1; simp
            · rw [if_neg p3, if_neg p2, if_neg p0, if_neg p1]
    · by_cases p0 : p = 2
      · subst p0; simp
      · rw [if_neg (show ¬ ((58 < 18 ∧ 18 = 58 / 6 ∧ p = 58 % 6) ∨ (18 ≤ 58 ∧ 58 < 50 ∧ 18 = 3 ∧ p = 58 - 18) ∨ (50 ≤ 58 ∧ 58 < 56 ∧ 18 = 4 ∧ p = 58 - 50) ∨ (56 ≤ 58 ∧ 18 = 18 ∧ p = 58 - 56)) by omega)]
        by_cases p3 : p = 3
        · subst p3; simp
        · by_cases p2 : p = 1
          · subst p2; simp
          · by_cases p1 : p = 0
            · subst p1; simp
            · rw [if_neg p3, if_neg p0, if_neg p2, if_neg p1]
    · by_cases p0 : p = 3
      · subst p0; simp
      · rw [if_neg (show ¬ ((59 < 18 ∧ 18 = 59 / 6 ∧ p = 59 % 6) ∨ (18 ≤ 59 ∧ 59 < 50 ∧ 18 = 3 ∧ p = 59 - 18) ∨ (50 ≤ 59 ∧ 59 < 56 ∧ 18 = 4 ∧ p = 59 - 50) ∨ (56 ≤ 59 ∧ 18 = 18 ∧ p = 59 - 56)) by omega)]
        by_cases p3 : p = 2
        · subst p3; simp
        · by_cases p2 : p = 1
          · subst p2; simp
          · by_cases p1 : p = 0
            · subst p1; simp
            · rw [if_neg p0, if_neg p3, if_neg p2, if_neg p1]
  · rw [if_neg e, if_neg (by omega)]
theorem dv_t {k j : Nat} {x : Int32} (hd : x = nI (k / 6)) (hk : k < 60) (hj : j < 10) (h : x = nI j) : k / 6 = j := by
  rw [hd] at h
  exact (nI_eq (by omega) (by omega)).mp h
theorem dv_f {k j : Nat} {x : Int32} (hd : x = nI (k / 6)) (h : ¬ x = nI j) : ¬ k / 6 = j := fun z => h (by rw [hd, z])
/-- an image as a state -/
def unp (kp : Nat → Int32) : MS := fun f p => if f = 0 then kp p else if f = 1 then kp (6 + p) else if f = 2 then kp (12 + p) else if f = 3 then kp (18 + p) else if f = 4 then kp (50 + p) else kp (56 + p)
theorem CV_unp {q : MS} {kp : Nat → Int32} (h : ∀ r, r < 60 → kp r = CV q r) : (∀ g, g < 6 → unp kp 0 g = q 0 g ∧ unp kp 1 g = q 1 g ∧ unp kp 2 g = q 2 g) ∧ (∀ j, j < 32 → unp kp 3 j = q 3 j) ∧ (∀ k, k < 6 → unp kp 4 k = q 4 k) ∧ unp kp 18 0 = q 18 0 ∧ unp kp 18 1 = q 18 1 ∧ unp kp 18 2 = q 18 2 ∧ unp kp 18 3 = q 18 3 := by
  refine ⟨fun g hg => ⟨?_, ?_, ?_⟩, fun j hj => ?_, fun k hk => ?_, ?_, ?_, ?_, ?_⟩
  · show kp g = _
    rw [h g (by omega), CV, if_pos (by omega), if_pos (by omega), show g % 6 = g by omega]
  · show kp (6 + g) = _
    rw [h _ (by omega), CV, if_pos (by omega), if_neg (by omega), if_pos (by omega), show (6 + g) % 6 = g by omega]
  · show kp (12 + g) = _
    rw [h _ (by omega), CV, if_pos (by omega), if_neg (by omega), if_neg (by omega), show (12 + g) % 6 = g by omega]
  · show kp (18 + j) = _
    rw [h _ (by omega), CV, if_neg (by omega), if_pos (by omega), show 18 + j - 18 = j by omega]
  · show kp (50 + k) = _
    rw [h _ (by omega), CV, if_neg (by omega), if_neg (by omega), if_pos (by omega), show 50 + k - 50 = k by omega]
  · show kp 56 = _
    rw [h 56 (by omega)]; rfl
  · show kp 57 = _
    rw [h 57 (by omega)]; rfl
  · show kp 58 = _
    rw [h 58 (by omega)]; rfl
  · show kp 59 = _
    rw [h 59 (by omega)]; rfl
theorem TQ_unp {q m : MS} {n sv pl : Nat} {kp : Nat → Int32} (hR : RQ q m n sv pl) (h : ∀ r, r < 60 → kp r = CV q r) : TQ (unp kp) m n sv pl := by
  obtain ⟨a, b, c, d⟩ := CV_unp h
  obtain ⟨hM, hT, _⟩ := hR
  have hn := hM.2.1
  have hs := hM.2.2.2.1
  have hp := hM.2.2.2.2.2
  refine ⟨fun g hg => ?_, fun s hs => ?_, fun k hk => ?_, ?_⟩
  · rw [(a g (by omega)).1, (a g (by omega)).2.1, (a g (by omega)).2.2]; exact hT.1 g hg
  · rw [b _ (by omega), b _ (by omega), b _ (by omega), b _ (by omega)]; exact hT.2.1 s hs
  · rw [c k (by omega)]; exact hT.2.2.1 k hk
  · rw [d.1, d.2.1, d.2.2.1, d.2.2.2]; exact hT.2.2.2
/-- the numbers of an image put back -/
def RSt (q : MS) (kp : Nat → Int32) : Nat → MS
  | 0 => q
  | k + 1 => CU (RSt q kp k) k (kp k)
theorem rs_off {q : MS} {kp : Nat → Int32} {f p : Nat} (h : 5 ≤ f ∧ ¬ f = 18 ∨ f = 18 ∧ 4 ≤ p) : ∀ k, k ≤ 60 → RSt q kp k f p = q f p
  | 0, _ => rfl
  | k + 1, hk => by
    show (if _ then _ else RSt q kp k f p) = _
    rw [if_neg (by omega)]
    exact rs_off h k (by omega)
theorem rs_fun {q : MS} {kp : Nat → Int32} {f : Nat} (h : 5 ≤ f ∧ ¬ f = 18) : RSt q kp 60 f = q f := by
  funext p
  exact rs_off (Or.inl h) 60 (Nat.le_refl _)
theorem rs_at {q : MS} {kp : Nat → Int32} {f p i : Nat} (h : (i < 18 ∧ f = i / 6 ∧ p = i % 6) ∨ (18 ≤ i ∧ i < 50 ∧ f = 3 ∧ p = i - 18) ∨ (50 ≤ i ∧ i < 56 ∧ f = 4 ∧ p = i - 50) ∨ (56 ≤ i ∧ f = 18 ∧ p = i - 56)) : ∀ k, i < k → k ≤ 60 → RSt q kp k f p = kp i
  | 0, h1, _ => absurd h1 (Nat.not_lt_zero _)
  | k + 1, h1, h2 => by
    by_cases e : k = i
    · subst e
      exact if_pos h
    · show (if _ then _ else RSt q kp k f p) = _
      rw [if_neg (by omega)]
      exact rs_at h k (by omega) (by omega)
theorem TQ_rs {q m : MS} {n sv pl : Nat} {kp : Nat → Int32} (hn : n ≤ 6) (hs : sv ≤ 8) (hp : pl ≤ 6) (h : TQ (unp kp) m n sv pl) : TQ (RSt q kp 60) m n sv pl := by
  refine ⟨fun g hg => ?_, fun s hs => ?_, fun k hk => ?_, ?_⟩
  · rw [rs_at (i := g) (by omega) 60 (by omega) (by omega), rs_at (i := 6 + g) (by omega) 60 (by omega) (by omega), rs_at (i := 12 + g) (by omega) 60 (by omega) (by omega)]
    exact h.1 g hg
  · rw [rs_at (i := 18 + (4 * s)) (by omega) 60 (by omega) (by omega), rs_at (i := 18 + (4 * s + 1)) (by omega) 60 (by omega) (by omega), rs_at (i := 18 + (4 * s + 2)) (by omega) 60 (by omega) (by omega), rs_at (i := 18 + (4 * s + 3)) (by omega) 60 (by omega) (by omega)]
    exact h.2.1 s hs
  · rw [rs_at (i := 50 + k) (by omega) 60 (by omega) (by omega)]
    exact h.2.2.1 k hk
  · rw [rs_at (i := 56) (by omega) 60 (by omega) (by omega), rs_at (i := 57) (by omega) 60 (by omega) (by omega), rs_at (i := 58) (by omega) 60 (by omega) (by omega), rs_at (i := 59) (by omega) 60 (by omega) (by omega)]
    exact h.2.2.2
/-- the kept mill: a flag, and the tables in the image -/
def KQ (q w : MS) (kf : Int32) (nw sw pw : Nat) : Prop := q 18 13 = kf ∧ (kf = 0 ∨ (kf = 1 ∧ MW w nw sw pw ∧ TQ (unp (q 13)) w nw sw pw ∧ RG w nw sw pw))
theorem rs_step {q qq : MS} {j : Nat} (h : qq = RSt q (q 13) j) (hj : j < 60) : CU qq j (qq 13 j) = RSt q (q 13) (j + 1) := by
  subst h
  show CU (RSt q (q 13) j) j (RSt q (q 13) j 13 j) = CU (RSt q (q 13) j) j (q 13 j)
  rw [rs_off (Or.inl (by omega)) j (by omega)]
theorem OF_rs {q : MS} : OF (RSt q (q 13) 60) q := ⟨rs_fun (by omega), rs_fun (by omega), rs_fun (by omega), rs_fun (by omega), rs_fun (by omega), rs_off (Or.inr (by omega)) 60 (by omega), rs_off (Or.inr (by omega)) 60 (by omega)⟩
theorem tk_f {m w : MS} {f : Nat} (h : f < 8) : tkA m w f = w f := by
  have : f = 0 ∨ f = 1 ∨ f = 2 ∨ f = 3 ∨ f = 4 ∨ f = 5 ∨ f = 6 ∨ f = 7 := by omega
  rcases this with e | e | e | e | e | e | e | e <;> subst e <;> rfl
theorem tk_9 {m w : MS} {j : Nat} (h : j < 4) : tkA m w 9 j = w 9 j := by
  have : j = 0 ∨ j = 1 ∨ j = 2 ∨ j = 3 := by omega
  rcases this with e | e | e | e <;> subst e <;> rfl
theorem RQ_tk {q m w : MS} {n sv pl : Nat} (h : MW w n sv pl ∧ TQ q w n sv pl ∧ RG w n sv pl) : RQ q (tkA m w) n sv pl := by
  obtain ⟨hM, hT, hG⟩ := h
  have e : ∀ f, f < 8 → tkA m w f = w f := fun f hf => tk_f hf
  have e9 : ∀ j, j < 4 → tkA m w 9 j = w 9 j := fun j hj => tk_9 hj
  refine ⟨?_, ?_, ?_⟩
  · unfold MW; rw [e9 0 (by decide), e9 1 (by decide), e9 2 (by decide)]; exact hM
  · unfold TQ; rw [e 0 (by decide), e 1 (by decide), e 2 (by decide), e 3 (by decide), e 4 (by decide), e 5 (by decide), e 6 (by decide), e 7 (by decide), e9 3 (by decide)]; exact hT
  · unfold RG; rw [e 0 (by decide), e 1 (by decide), e 2 (by decide), e 3 (by decide), e 4 (by decide), e 5 (by decide), e 6 (by decide), e 7 (by decide), e9 3 (by decide)]; exact hG
theorem RQ_rs {q m w : MS} {n sv pl : Nat} (h : MW w n sv pl ∧ TQ (unp (q 13)) w n sv pl ∧ RG w n sv pl) : RQ (RSt q (q 13) 60) (tkA m w) n sv pl := RQ_tk ⟨h.1, TQ_rs h.1.2.1 h.1.2.2.2.1 h.1.2.2.2.2.2 h.2.1, h.2.2⟩
set_option maxHeartbeats 4000000 in
set_option maxRecDepth 100000 in
theorem c_X5_carried (cI cS : ClassId) (a : Nat → Nat) (q : Nat → Nat → Int32) (k : Int32) (kn : Nat) (hk : k = nI kn) (hk60 : kn < 60) (v : Int32) : CT cI cS yX5_carried cX5_carried 6 (some .int) 0 [.ref (a 0), .int k, .int v, .int 0] (modelW cI a q) 0 0 (fun u : Int32 => u = CV q kn) (fun u => some (.int u)) (fun u => (modelW cI a q)) := by
  refine ct_intro (by decide) (Nat.le_of_ble_eq_true rfl) (fun E Q hE hQ hI => ?_)
  have hE : CxOk E cI cS RX5 cX5_carried 6 (some .int) 0 0 0 := hE
  show Go E Q 6 0 0 0 [(0, .ref (a 0)), (1, .int k), (2, .int v), (3, .int 0)] [] (modelW cI a q)
  have hdv : k / 6 = nI (kn / 6) := by rw [hk]; exact div6 kn hk60
  have hrm : k - k / 6 * 6 = nI (kn % 6) := by rw [hk]; exact rem6 kn hk60
  refine g_iload_n hE dX5_carried_0 1 rfl ?_
  refine g_bipush hE dX5_carried_1 18 (by decide) ?_
  refine g_icmp_ge hE 140 dX5_carried_3 (by decide) (fun c1 => ?_) (fun c1 => ?_)
  · have kc1 := nat_le_t (show 18 = nI 18 from rfl) (show k = nI kn from hk) (by omega) (by omega) c1
    refine g_iload_n hE dX5_carried_140 1 rfl ?_
    refine g_bipush hE dX5_carried_141 50 (by decide) ?_
    refine g_icmp_ge hE 182 dX5_carried_143 (by decide) (fun c2 => ?_) (fun c2 => ?_)
    · have kc2 := nat_le_t (show 50 = nI 50 from rfl) (show k = nI kn from hk) (by omega) (by omega) c2
      refine g_iload_n hE dX5_carried_182 1 rfl ?_
      refine g_bipush hE dX5_carried_183 56 (by decide) ?_
      refine g_icmp_ge hE 224 dX5_carried_185 (by decide) (fun c3 => ?_) (fun c3 => ?_)
      · have kc3 := nat_le_t (show 56 = nI 56 from rfl) (show k = nI kn from hk) (by omega) (by omega) c3
        refine g_aload_n hE dX5_carried_224 0 rfl ?_
        refine g_iload_n hE dX5_carried_225 3 rfl ?_
        refine g_if_eq hE 239 dX5_carried_226 (by decide) (fun c4 => ?_) (fun c4 => absurd (by decide) c4)
        refine g_aload_n hE dX5_carried_239 0 rfl ?_
        refine g_get hE fl_X5_64 dX5_carried_240 0 rfl rfl ?_
        refine g_put hE fl_X5_64 fp_5_3 dX5_carried_243 0 rfl rfl rfl (Nat.le_of_ble_eq_true rfl) (modelW cI a (pA q 18 (upd (q 18) 0 (q 18 0)))) (by rfl) ?_
        refine g_aload_n hE dX5_carried_246 0 rfl ?_
        refine g_iload_n hE dX5_carried_247 3 rfl ?_
        refine g_if_eq hE 261 dX5_carried_248 (by decide) (fun c5 => ?_) (fun c5 => absurd (by decide) c5)
        refine g_aload_n hE dX5_carried_261 0 rfl ?_
        refine g_get hE fl_X5_72 dX5_carried_262 0 rfl rfl ?_
        refine g_put hE fl_X5_72 fp_5_5 dX5_carried_265 0 rfl rfl rfl (Nat.le_of_ble_eq_true rfl) (modelW cI a (pA (pA q 18 (upd (q 18) 0 (q 18 0))) 18 (upd (upd (q 18) 0 (q 18 0)) 1 (q 18 1)))) (by rfl) ?_
        refine g_aload_n hE dX5_carried_268 0 rfl ?_
        refine g_iload_n hE dX5_carried_269 3 rfl ?_
        refine g_if_eq hE 283 dX5_carried_270 (by decide) (fun c6 => ?_) (fun c6 => absurd (by decide) c6)
        refine g_aload_n hE dX5_carried_283 0 rfl ?_
        refine g_get hE fl_X5_102 dX5_carried_284 0 rfl rfl ?_
        refine g_put hE fl_X5_102 fp_5_7 dX5_carried_287 0 rfl rfl rfl (Nat.le_of_ble_eq_true rfl) (modelW cI a (pA (pA (pA q 18 (upd (q 18) 0 (q 18 0))) 18 (upd (upd (q 18) 0 (q 18 0)) 1 (q 18 1))) 18 (upd (upd (upd (q 18) 0 (q 18 0)) 1 (q 18 1)) 2 (q 18 2)))) (by rfl) ?_
        refine g_aload_n hE dX5_carried_290 0 rfl ?_
        refine g_iload_n hE dX5_carried_291 3 rfl ?_
        refine g_if_eq hE 305 dX5_carried_292 (by decide) (fun c7 => ?_) (fun c7 => absurd (by decide) c7)
        refine g_aload_n hE dX5_carried_305 0 rfl ?_
        refine g_get hE fl_X5_105 dX5_carried_306 0 rfl rfl ?_
        refine g_put hE fl_X5_105 fp_5_8 dX5_carried_309 0 rfl rfl rfl (Nat.le_of_ble_eq_true rfl) (modelW cI a (pA (pA (pA (pA q 18 (upd (q 18) 0 (q 18 0))) 18 (upd (upd (q 18) 0 (q 18 0)) 1 (q 18 1))) 18 (upd (upd (upd (q 18) 0 (q 18 0)) 1 (q 18 1)) 2 (q 18 2))) 18 (upd (upd (upd (upd (q 18) 0 (q 18 0)) 1 (q 18 1)) 2 (q 18 2)) 3 (q 18 3)))) (by rfl) ?_
        refine g_iload_n hE dX5_carried_312 1 rfl ?_
        refine g_bipush hE dX5_carried_313 56 (by decide) ?_
        refine g_icmp_ne hE 325 dX5_carried_315 (by decide) (fun c8 => ?_) (fun c8 => ?_)
        · have kc8 := nat_eq_f (show k = nI kn from hk) (show 56 = nI 56 from rfl) (by omega) (by omega) c8
          refine g_iload_n hE dX5_carried_325 1 rfl ?_
          refine g_bipush hE dX5_carried_326 57 (by decide) ?_
          refine g_icmp_ne hE 338 dX5_carried_328 (by decide) (fun c9 => ?_) (fun c9 => ?_)
          · have kc9 := nat_eq_f (show k = nI kn from hk) (show 57 = nI 57 from rfl) (by omega) (by omega) c9
            refine g_iload_n hE dX5_carried_338 1 rfl ?_
            refine g_bipush hE dX5_carried_339 58 (by decide) ?_
            refine g_icmp_ne hE 351 dX5_carried_341 (by decide) (fun c10 => ?_) (fun c10 => ?_)
            · have kc10 := nat_eq_f (show k = nI kn from hk) (show 58 = nI 58 from rfl) (by omega) (by omega) c10
              refine g_aload_n hE dX5_carried_351 0 rfl ?_
              refine g_get hE fl_X5_105 dX5_carried_352 0 rfl rfl ?_
              refine g_world (modelW cI a q) (congrArg (modelW cI a) cu4_id) ?_
              exact g_iret hE hQ dX5_carried_355 rfl (q 18 3) rfl rfl (by rw [CV, if_neg (by omega), if_neg (by omega), if_neg (by omega), if_neg (by omega), if_neg (by omega), if_neg (by omega)])
            · have kc10 := nat_eq_t (show k = nI kn from hk) (show 58 = nI 58 from rfl) (by omega) (by omega) c10
              refine g_aload_n hE dX5_carried_344 0 rfl ?_
              refine g_get hE fl_X5_102 dX5_carried_345 0 rfl rfl ?_
              refine g_goto hE 355 dX5_carried_348 (by decide) ?_
              refine g_world (modelW cI a q) (congrArg (modelW cI a) cu4_id) ?_
              exact g_iret hE hQ dX5_carried_355 rfl (q 18 2) rfl rfl (by rw [CV, if_neg (by omega), if_neg (by omega), if_neg (by omega), if_neg (by omega), if_neg (by omega), if_pos (by omega)])
          · have kc9 := nat_eq_t (show k = nI kn from hk) (show 57 = nI 57 from rfl) (by omega) (by omega) c9
            refine g_aload_n hE dX5_carried_331 0 rfl ?_
            refine g_get hE fl_X5_72 dX5_carried_332 0 rfl rfl ?_
            refine g_goto hE 355 dX5_carried_335 (by decide) ?_
            refine g_world (modelW cI a q) (congrArg (modelW cI a) cu4_id) ?_
            exact g_iret hE hQ dX5_carried_355 rfl (q 18 1) rfl rfl (by rw [CV, if_neg (by omega), if_neg (by omega), if_neg (by omega), if_neg (by omega), if_pos (by omega)])
        · have kc8 := nat_eq_t (show k = nI kn from hk) (show 56 = nI 56 from rfl) (by omega) (by omega) c8
          refine g_aload_n hE dX5_carried_318 0 rfl ?_
          refine g_get hE fl_X5_64 dX5_carried_319 0 rfl rfl ?_
          refine g_goto hE 355 dX5_carried_322 (by decide) ?_
          refine g_world (modelW cI a q) (congrArg (modelW cI a) cu4_id) ?_
          exact g_iret hE hQ dX5_carried_355 rfl (q 18 0) rfl rfl (by rw [CV, if_neg (by omega), if_neg (by omega), if_neg (by omega), if_pos (by omega)])
      · have kc3 := nat_le_f (show 56 = nI 56 from rfl) (show k = nI kn from hk) (by omega) (by omega) c3
        refine g_aload_n hE dX5_carried_188 0 rfl ?_
        refine g_get hE fl_X5_22 dX5_carried_189 0 rfl rfl ?_
        refine g_iload_n hE dX5_carried_192 1 rfl ?_
        refine g_bipush hE dX5_carried_193 50 (by decide) ?_
        refine g_isub_n hE dX5_carried_195 (show k = nI kn from hk) (show 50 = nI 50 from rfl) (by omega) ?_
        refine g_iload_n hE dX5_carried_196 3 rfl ?_
        refine g_if_eq hE 204 dX5_carried_197 (by decide) (fun c11 => ?_) (fun c11 => absurd (by decide) c11)
        refine g_aload_n hE dX5_carried_204 0 rfl ?_
        refine g_get hE fl_X5_22 dX5_carried_205 0 rfl rfl ?_
        refine g_iload_n hE dX5_carried_208 1 rfl ?_
        refine g_bipush hE dX5_carried_209 50 (by decide) ?_
        refine g_isub_n hE dX5_carried_211 (show k = nI kn from hk) (show 50 = nI 50 from rfl) (by omega) ?_
        refine g_iald_n hE dX5_carried_212 5 rfl (show (nI (kn - 50)) = nI (kn - 50) from rfl) (by omega) ?_
        refine g_iast_n hE dX5_carried_213 5 rfl (show (nI (kn - 50)) = nI (kn - 50) from rfl) (by omega) (modelW cI a (pA q 4 (upd (q 4) (kn - 50) ((q 4) (kn - 50))))) rfl ?_
        refine g_aload_n hE dX5_carried_214 0 rfl ?_
        refine g_get hE fl_X5_22 dX5_carried_215 0 rfl rfl ?_
        refine g_iload_n hE dX5_carried_218 1 rfl ?_
        refine g_bipush hE dX5_carried_219 50 (by decide) ?_
        refine g_isub_n hE dX5_carried_221 (show k = nI kn from hk) (show 50 = nI 50 from rfl) (by omega) ?_
        refine g_iald_n hE dX5_carried_222 5 rfl (show (nI (kn - 50)) = nI (kn - 50) from rfl) (by omega) ?_
        refine g_world (modelW cI a q) (congrArg (modelW cI a) pq_same) ?_
        exact g_iret hE hQ dX5_carried_223 rfl ((upd (q 4) (kn - 50) ((q 4) (kn - 50))) (kn - 50)) rfl rfl (by rw [CV, if_neg (by omega), if_neg (by omega), if_pos (by omega)]; exact upd_at _ _ _)
    · have kc2 := nat_le_f (show 50 = nI 50 from rfl) (show k = nI kn from hk) (by omega) (by omega) c2
      refine g_aload_n hE dX5_carried_146 0 rfl ?_
      refine g_get hE fl_X5_19 dX5_carried_147 0 rfl rfl ?_
      refine g_iload_n hE dX5_carried_150 1 rfl ?_
      refine g_bipush hE dX5_carried_151 18 (by decide) ?_
      refine g_isub_n hE dX5_carried_153 (show k = nI kn from hk) (show 18 = nI 18 from rfl) (by omega) ?_
      refine g_iload_n hE dX5_carried_154 3 rfl ?_
      refine g_if_eq hE 162 dX5_carried_155 (by decide) (fun c12 => ?_) (fun c12 => absurd (by decide) c12)
      refine g_aload_n hE dX5_carried_162 0 rfl ?_
      refine g_get hE fl_X5_19 dX5_carried_163 0 rfl rfl ?_
      refine g_iload_n hE dX5_carried_166 1 rfl ?_
      refine g_bipush hE dX5_carried_167 18 (by decide) ?_
      refine g_isub_n hE dX5_carried_169 (show k = nI kn from hk) (show 18 = nI 18 from rfl) (by omega) ?_
      refine g_iald_n hE dX5_carried_170 4 rfl (show (nI (kn - 18)) = nI (kn - 18) from rfl) (by omega) ?_
      refine g_iast_n hE dX5_carried_171 4 rfl (show (nI (kn - 18)) = nI (kn - 18) from rfl) (by omega) (modelW cI a (pA q 3 (upd (q 3) (kn - 18) ((q 3) (kn - 18))))) rfl ?_
      refine g_aload_n hE dX5_carried_172 0 rfl ?_
      refine g_get hE fl_X5_19 dX5_carried_173 0 rfl rfl ?_
      refine g_iload_n hE dX5_carried_176 1 rfl ?_
      refine g_bipush hE dX5_carried_177 18 (by decide) ?_
      refine g_isub_n hE dX5_carried_179 (show k = nI kn from hk) (show 18 = nI 18 from rfl) (by omega) ?_
      refine g_iald_n hE dX5_carried_180 4 rfl (show (nI (kn - 18)) = nI (kn - 18) from rfl) (by omega) ?_
      refine g_world (modelW cI a q) (congrArg (modelW cI a) pq_same) ?_
      exact g_iret hE hQ dX5_carried_181 rfl ((upd (q 3) (kn - 18) ((q 3) (kn - 18))) (kn - 18)) rfl rfl (by rw [CV, if_neg (by omega), if_pos (by omega)]; exact upd_at _ _ _)
  · have kc1 := nat_le_f (show 18 = nI 18 from rfl) (show k = nI kn from hk) (by omega) (by omega) c1
    refine g_iload_n hE dX5_carried_6 1 rfl ?_
    refine g_bipush hE dX5_carried_7 6 (by decide) ?_
    refine g_irem hE dX5_carried_9 (by decide) ?_
    refine g_istore hE dX5_carried_10 [(4, .int (k - k / 6 * 6)), (0, .ref (a 0)), (1, .int k), (2, .int v), (3, .int 0)] (by decide) rfl ?_
    refine g_iload_n hE dX5_carried_12 2 rfl ?_
    refine g_bipush hE dX5_carried_13 6 (by decide) ?_
    refine g_idiv hE dX5_carried_15 (by decide) ?_
    refine g_istore hE dX5_carried_16 [(5, .int (k / 6)), (4, .int (k - k / 6 * 6)), (0, .ref (a 0)), (1, .int k), (2, .int v), (3, .int 0)] (by decide) rfl ?_
    refine g_aload_n hE dX5_carried_18 2 rfl ?_
    refine g_get hE fl_X5_7 dX5_carried_19 0 rfl rfl ?_
    refine g_iload hE dX5_carried_22 1 rfl ?_
    refine g_iload_n hE dX5_carried_24 5 rfl ?_
    refine g_if_eq hE 37 dX5_carried_25 (by decide) (fun c13 => ?_) (fun c13 => absurd (by decide) c13)
    refine g_aload_n hE dX5_carried_37 2 rfl ?_
    refine g_get hE fl_X5_7 dX5_carried_38 0 rfl rfl ?_
    refine g_iload hE dX5_carried_41 1 rfl ?_
    refine g_iald_n hE dX5_carried_43 1 rfl (show (k - k / 6 * 6) = nI (kn % 6) from hrm) (by omega) ?_
    refine g_iast_n hE dX5_carried_44 1 rfl (show (k - k / 6 * 6) = nI (kn % 6) from hrm) (by omega) (modelW cI a (pA q 0 (upd (q 0) (kn % 6) ((q 0) (kn % 6))))) rfl ?_
    refine g_aload_n hE dX5_carried_45 2 rfl ?_
    refine g_get hE fl_X5_13 dX5_carried_46 0 rfl rfl ?_
    refine g_iload hE dX5_carried_49 1 rfl ?_
    refine g_iload_n hE dX5_carried_51 5 rfl ?_
    refine g_if_eq hE 65 dX5_carried_52 (by decide) (fun c14 => ?_) (fun c14 => absurd (by decide) c14)
    refine g_aload_n hE dX5_carried_65 2 rfl ?_
    refine g_get hE fl_X5_13 dX5_carried_66 0 rfl rfl ?_
    refine g_iload hE dX5_carried_69 1 rfl ?_
    refine g_iald_n hE dX5_carried_71 2 rfl (show (k - k / 6 * 6) = nI (kn % 6) from hrm) (by omega) ?_
    refine g_iast_n hE dX5_carried_72 2 rfl (show (k - k / 6 * 6) = nI (kn % 6) from hrm) (by omega) (modelW cI a (pA (pA q 0 (upd (q 0) (kn % 6) ((q 0) (kn % 6)))) 1 (upd (q 1) (kn % 6) ((q 1) (kn % 6))))) rfl ?_
    refine g_aload_n hE dX5_carried_73 2 rfl ?_
    refine g_get hE fl_X5_16 dX5_carried_74 0 rfl rfl ?_
    refine g_iload hE dX5_carried_77 1 rfl ?_
    refine g_iload_n hE dX5_carried_79 5 rfl ?_
    refine g_if_eq hE 93 dX5_carried_80 (by decide) (fun c15 => ?_) (fun c15 => absurd (by decide) c15)
    refine g_aload_n hE dX5_carried_93 2 rfl ?_
    refine g_get hE fl_X5_16 dX5_carried_94 0 rfl rfl ?_
    refine g_iload hE dX5_carried_97 1 rfl ?_
    refine g_iald_n hE dX5_carried_99 3 rfl (show (k - k / 6 * 6) = nI (kn % 6) from hrm) (by omega) ?_
    refine g_iast_n hE dX5_carried_100 3 rfl (show (k - k / 6 * 6) = nI (kn % 6) from hrm) (by omega) (modelW cI a (pA (pA (pA q 0 (upd (q 0) (kn % 6) ((q 0) (kn % 6)))) 1 (upd (q 1) (kn % 6) ((q 1) (kn % 6)))) 2 (upd (q 2) (kn % 6) ((q 2) (kn % 6))))) rfl ?_
    refine g_iload hE dX5_carried_101 0 rfl ?_
    refine g_if_ne hE 116 dX5_carried_103 (by decide) (fun c16 => ?_) (fun c16 => ?_)
    · refine g_iload hE dX5_carried_116 0 rfl ?_
      refine g_iconst hE dX5_carried_118 1 (by decide) ?_
      refine g_icmp_ne hE 132 dX5_carried_119 (by decide) (fun c17 => ?_) (fun c17 => ?_)
      · refine g_aload_n hE dX5_carried_132 2 rfl ?_
        refine g_get hE fl_X5_16 dX5_carried_133 0 rfl rfl ?_
        refine g_iload hE dX5_carried_136 1 rfl ?_
        refine g_iald_n hE dX5_carried_138 3 rfl (show (k - k / 6 * 6) = nI (kn % 6) from hrm) (by omega) ?_
        refine g_world (modelW cI a q) (congrArg (modelW cI a) cu3_id) ?_
        exact g_iret hE hQ dX5_carried_139 rfl ((upd (q 2) (kn % 6) ((q 2) (kn % 6))) (kn % 6)) rfl rfl (by rw [CV, if_pos (show kn < 18 by omega), if_neg (dv_f (j := 0) hdv (show ¬ (k / 6) = 0 from c16)), if_neg (dv_f (j := 1) hdv (show ¬ (k / 6) = 1 from c17))]; exact upd_at _ _ _)
      · refine g_aload_n hE dX5_carried_122 2 rfl ?_
        refine g_get hE fl_X5_13 dX5_carried_123 0 rfl rfl ?_
        refine g_iload hE dX5_carried_126 1 rfl ?_
        refine g_iald_n hE dX5_carried_128 2 rfl (show (k - k / 6 * 6) = nI (kn % 6) from hrm) (by omega) ?_
        refine g_goto hE 139 dX5_carried_129 (by decide) ?_
        refine g_world (modelW cI a q) (congrArg (modelW cI a) cu3_id) ?_
        exact g_iret hE hQ dX5_carried_139 rfl ((upd (q 1) (kn % 6) ((q 1) (kn % 6))) (kn % 6)) rfl rfl (by rw [CV, if_pos (show kn < 18 by omega), if_neg (dv_f (j := 0) hdv (show ¬ (k / 6) = 0 from c16)), if_pos (dv_t hdv hk60 (by decide) (show (k / 6) = 1 from c17))]; exact upd_at _ _ _)
    · refine g_aload_n hE dX5_carried_106 2 rfl ?_
      refine g_get hE fl_X5_7 dX5_carried_107 0 rfl rfl ?_
      refine g_iload hE dX5_carried_110 1 rfl ?_
      refine g_iald_n hE dX5_carried_112 1 rfl (show (k - k / 6 * 6) = nI (kn % 6) from hrm) (by omega) ?_
      refine g_goto hE 139 dX5_carried_113 (by decide) ?_
      refine g_world (modelW cI a q) (congrArg (modelW cI a) cu3_id) ?_
      exact g_iret hE hQ dX5_carried_139 rfl ((upd (q 0) (kn % 6) ((q 0) (kn % 6))) (kn % 6)) rfl rfl (by rw [CV, if_pos (show kn < 18 by omega), if_pos (dv_t hdv hk60 (by decide) (show (k / 6) = 0 from c16))]; exact upd_at _ _ _)
set_option maxHeartbeats 4000000 in
set_option maxRecDepth 100000 in
theorem c_X5_carried1 (cI cS : ClassId) (a : Nat → Nat) (q : Nat → Nat → Int32) (k : Int32) (kn : Nat) (hk : k = nI kn) (hk60 : kn < 60) (v : Int32) : CT cI cS yX5_carried cX5_carried 6 (some .int) 0 [.ref (a 0), .int k, .int v, .int 1] (modelW cI a q) 0 0 (fun u : Int32 => True) (fun u => some (.int u)) (fun u => (modelW cI a (CU q kn v))) := by
  refine ct_intro (by decide) (Nat.le_of_ble_eq_true rfl) (fun E Q hE hQ hI => ?_)
  have hE : CxOk E cI cS RX5 cX5_carried 6 (some .int) 0 0 0 := hE
  show Go E Q 6 0 0 0 [(0, .ref (a 0)), (1, .int k), (2, .int v), (3, .int 1)] [] (modelW cI a q)
  have hdv : k / 6 = nI (kn / 6) := by rw [hk]; exact div6 kn hk60
  have hrm : k - k / 6 * 6 = nI (kn % 6) := by rw [hk]; exact rem6 kn hk60
  refine g_iload_n hE dX5_carried_0 1 rfl ?_
  refine g_bipush hE dX5_carried_1 18 (by decide) ?_
  refine g_icmp_ge hE 140 dX5_carried_3 (by decide) (fun c1 => ?_) (fun c1 => ?_)
  · have kc1 := nat_le_t (show 18 = nI 18 from rfl) (show k = nI kn from hk) (by omega) (by omega) c1
    refine g_iload_n hE dX5_carried_140 1 rfl ?_
    refine g_bipush hE dX5_carried_141 50 (by decide) ?_
    refine g_icmp_ge hE 182 dX5_carried_143 (by decide) (fun c2 => ?_) (fun c2 => ?_)
    · have kc2 := nat_le_t (show 50 = nI 50 from rfl) (show k = nI kn from hk) (by omega) (by omega) c2
      refine g_iload_n hE dX5_carried_182 1 rfl ?_
      refine g_bipush hE dX5_carried_183 56 (by decide) ?_
      refine g_icmp_ge hE 224 dX5_carried_185 (by decide) (fun c3 => ?_) (fun c3 => ?_)
      · have kc3 := nat_le_t (show 56 = nI 56 from rfl) (show k = nI kn from hk) (by omega) (by omega) c3
        refine g_aload_n hE dX5_carried_224 0 rfl ?_
        refine g_iload_n hE dX5_carried_225 3 rfl ?_
        refine g_if_eq hE 239 dX5_carried_226 (by decide) (fun c4 => absurd c4 (by decide)) (fun c4 => ?_)
        refine g_iload_n hE dX5_carried_229 1 rfl ?_
        refine g_bipush hE dX5_carried_230 56 (by decide) ?_
        refine g_icmp_ne hE 239 dX5_carried_232 (by decide) (fun c5 => ?_) (fun c5 => ?_)
        · have kc5 := nat_eq_f (show k = nI kn from hk) (show 56 = nI 56 from rfl) (by omega) (by omega) c5
          refine g_aload_n hE dX5_carried_239 0 rfl ?_
          refine g_get hE fl_X5_64 dX5_carried_240 0 rfl rfl ?_
          refine g_put hE fl_X5_64 fp_5_3 dX5_carried_243 0 rfl rfl rfl (Nat.le_of_ble_eq_true rfl) (modelW cI a (pA q 18 (upd (q 18) 0 (q 18 0)))) (by rfl) ?_
          refine g_aload_n hE dX5_carried_246 0 rfl ?_
          refine g_iload_n hE dX5_carried_247 3 rfl ?_
          refine g_if_eq hE 261 dX5_carried_248 (by decide) (fun c6 => absurd c6 (by decide)) (fun c6 => ?_)
          refine g_iload_n hE dX5_carried_251 1 rfl ?_
          refine g_bipush hE dX5_carried_252 57 (by decide) ?_
          refine g_icmp_ne hE 261 dX5_carried_254 (by decide) (fun c7 => ?_) (fun c7 => ?_)
          · have kc7 := nat_eq_f (show k = nI kn from hk) (show 57 = nI 57 from rfl) (by omega) (by omega) c7
            refine g_aload_n hE dX5_carried_261 0 rfl ?_
            refine g_get hE fl_X5_72 dX5_carried_262 0 rfl rfl ?_
            refine g_put hE fl_X5_72 fp_5_5 dX5_carried_265 0 rfl rfl rfl (Nat.le_of_ble_eq_true rfl) (modelW cI a (pA (pA q 18 (upd (q 18) 0 (q 18 0))) 18 (upd (upd (q 18) 0 (q 18 0)) 1 (q 18 1)))) (by rfl) ?_
            refine g_aload_n hE dX5_carried_268 0 rfl ?_
            refine g_iload_n hE dX5_carried_269 3 rfl ?_
            refine g_if_eq hE 283 dX5_carried_270 (by decide) (fun c8 => absurd c8 (by decide)) (fun c8 => ?_)
            refine g_iload_n hE dX5_carried_273 1 rfl ?_
            refine g_bipush hE dX5_carried_274 58 (by decide) ?_
            refine g_icmp_ne hE 283 dX5_carried_276 (by decide) (fun c9 => ?_) (fun c9 => ?_)
            · have kc9 := nat_eq_f (show k = nI kn from hk) (show 58 = nI 58 from rfl) (by omega) (by omega) c9
              refine g_aload_n hE dX5_carried_283 0 rfl ?_
              refine g_get hE fl_X5_102 dX5_carried_284 0 rfl rfl ?_
              refine g_put hE fl_X5_102 fp_5_7 dX5_carried_287 0 rfl rfl rfl (Nat.le_of_ble_eq_true rfl) (modelW cI a (pA (pA (pA q 18 (upd (q 18) 0 (q 18 0))) 18 (upd (upd (q 18) 0 (q 18 0)) 1 (q 18 1))) 18 (upd (upd (upd (q 18) 0 (q 18 0)) 1 (q 18 1)) 2 (q 18 2)))) (by rfl) ?_
              refine g_aload_n hE dX5_carried_290 0 rfl ?_
              refine g_iload_n hE dX5_carried_291 3 rfl ?_
              refine g_if_eq hE 305 dX5_carried_292 (by decide) (fun c10 => absurd c10 (by decide)) (fun c10 => ?_)
              refine g_iload_n hE dX5_carried_295 1 rfl ?_
              refine g_bipush hE dX5_carried_296 59 (by decide) ?_
              refine g_icmp_ne hE 305 dX5_carried_298 (by decide) (fun c11 => ?_) (fun c11 => ?_)
              · have kc11 := nat_eq_f (show k = nI kn from hk) (show 59 = nI 59 from rfl) (by omega) (by omega) c11
                exfalso
                omega
              · have kc11 := nat_eq_t (show k = nI kn from hk) (show 59 = nI 59 from rfl) (by omega) (by omega) c11
                refine g_iload_n hE dX5_carried_301 2 rfl ?_
                refine g_goto hE 309 dX5_carried_302 (by decide) ?_
                refine g_put hE fl_X5_105 fp_5_8 dX5_carried_309 0 rfl rfl rfl (Nat.le_of_ble_eq_true rfl) (modelW cI a (pA (pA (pA (pA q 18 (upd (q 18) 0 (q 18 0))) 18 (upd (upd (q 18) 0 (q 18 0)) 1 (q 18 1))) 18 (upd (upd (upd (q 18) 0 (q 18 0)) 1 (q 18 1)) 2 (q 18 2))) 18 (upd (upd (upd (upd (q 18) 0 (q 18 0)) 1 (q 18 1)) 2 (q 18 2)) 3 v))) (by rfl) ?_
                refine g_iload_n hE dX5_carried_312 1 rfl ?_
                refine g_bipush hE dX5_carried_313 56 (by decide) ?_
                refine g_icmp_ne hE 325 dX5_carried_315 (by decide) (fun c12 => ?_) (fun c12 => absurd c12 (show ¬ k = 56 from c5))
                refine g_iload_n hE dX5_carried_325 1 rfl ?_
                refine g_bipush hE dX5_carried_326 57 (by decide) ?_
                refine g_icmp_ne hE 338 dX5_carried_328 (by decide) (fun c13 => ?_) (fun c13 => absurd c13 (show ¬ k = 57 from c7))
                refine g_iload_n hE dX5_carried_338 1 rfl ?_
                refine g_bipush hE dX5_carried_339 58 (by decide) ?_
                refine g_icmp_ne hE 351 dX5_carried_341 (by decide) (fun c14 => ?_) (fun c14 => absurd c14 (show ¬ k = 58 from c9))
                refine g_aload_n hE dX5_carried_351 0 rfl ?_
                refine g_get hE fl_X5_105 dX5_carried_352 0 rfl rfl ?_
                refine g_world (modelW cI a (CU q kn v)) (congrArg (modelW cI a) (cuS (by omega) hk60 (if_neg (by omega)).symm (if_neg (by omega)).symm (if_neg (by omega)).symm (if_pos (by omega)).symm)) ?_
                exact g_iret hE hQ dX5_carried_355 rfl v rfl rfl trivial
            · have kc9 := nat_eq_t (show k = nI kn from hk) (show 58 = nI 58 from rfl) (by omega) (by omega) c9
              refine g_iload_n hE dX5_carried_279 2 rfl ?_
              refine g_goto hE 287 dX5_carried_280 (by decide) ?_
              refine g_put hE fl_X5_102 fp_5_7 dX5_carried_287 0 rfl rfl rfl (Nat.le_of_ble_eq_true rfl) (modelW cI a (pA (pA (pA q 18 (upd (q 18) 0 (q 18 0))) 18 (upd (upd (q 18) 0 (q 18 0)) 1 (q 18 1))) 18 (upd (upd (upd (q 18) 0 (q 18 0)) 1 (q 18 1)) 2 v))) (by rfl) ?_
              refine g_aload_n hE dX5_carried_290 0 rfl ?_
              refine g_iload_n hE dX5_carried_291 3 rfl ?_
              refine g_if_eq hE 305 dX5_carried_292 (by decide) (fun c15 => absurd c15 (by decide)) (fun c15 => ?_)
              refine g_iload_n hE dX5_carried_295 1 rfl ?_
              refine g_bipush hE dX5_carried_296 59 (by decide) ?_
              refine g_icmp_ne hE 305 dX5_carried_298 (by decide) (fun c16 => ?_) (fun c16 => absurd c16 (by rw [(show k = 58 from c9)]; decide))
              refine g_aload_n hE dX5_carried_305 0 rfl ?_
              refine g_get hE fl_X5_105 dX5_carried_306 0 rfl rfl ?_
              refine g_put hE fl_X5_105 fp_5_8 dX5_carried_309 0 rfl rfl rfl (Nat.le_of_ble_eq_true rfl) (modelW cI a (pA (pA (pA (pA q 18 (upd (q 18) 0 (q 18 0))) 18 (upd (upd (q 18) 0 (q 18 0)) 1 (q 18 1))) 18 (upd (upd (upd (q 18) 0 (q 18 0)) 1 (q 18 1)) 2 v)) 18 (upd (upd (upd (upd (q 18) 0 (q 18 0)) 1 (q 18 1)) 2 v) 3 (q 18 3)))) (by rfl) ?_
              refine g_iload_n hE dX5_carried_312 1 rfl ?_
              refine g_bipush hE dX5_carried_313 56 (by decide) ?_
              refine g_icmp_ne hE 325 dX5_carried_315 (by decide) (fun c17 => ?_) (fun c17 => absurd c17 (show ¬ k = 56 from c5))
              refine g_iload_n hE dX5_carried_325 1 rfl ?_
              refine g_bipush hE dX5_carried_326 57 (by decide) ?_
              refine g_icmp_ne hE 338 dX5_carried_328 (by decide) (fun c18 => ?_) (fun c18 => absurd c18 (show ¬ k = 57 from c7))
              refine g_iload_n hE dX5_carried_338 1 rfl ?_
              refine g_bipush hE dX5_carried_339 58 (by decide) ?_
              refine g_icmp_ne hE 351 dX5_carried_341 (by decide) (fun c19 => absurd (show k = 58 from c9) c19) (fun c19 => ?_)
              refine g_aload_n hE dX5_carried_344 0 rfl ?_
              refine g_get hE fl_X5_102 dX5_carried_345 0 rfl rfl ?_
              refine g_goto hE 355 dX5_carried_348 (by decide) ?_
              refine g_world (modelW cI a (CU q kn v)) (congrArg (modelW cI a) (cuS (by omega) hk60 (if_neg (by omega)).symm (if_neg (by omega)).symm (if_pos (by omega)).symm (if_neg (by omega)).symm)) ?_
              exact g_iret hE hQ dX5_carried_355 rfl v rfl rfl trivial
          · have kc7 := nat_eq_t (show k = nI kn from hk) (show 57 = nI 57 from rfl) (by omega) (by omega) c7
            refine g_iload_n hE dX5_carried_257 2 rfl ?_
            refine g_goto hE 265 dX5_carried_258 (by decide) ?_
            refine g_put hE fl_X5_72 fp_5_5 dX5_carried_265 0 rfl rfl rfl (Nat.le_of_ble_eq_true rfl) (modelW cI a (pA (pA q 18 (upd (q 18) 0 (q 18 0))) 18 (upd (upd (q 18) 0 (q 18 0)) 1 v))) (by rfl) ?_
            refine g_aload_n hE dX5_carried_268 0 rfl ?_
            refine g_iload_n hE dX5_carried_269 3 rfl ?_
            refine g_if_eq hE 283 dX5_carried_270 (by decide) (fun c20 => absurd c20 (by decide)) (fun c20 => ?_)
            refine g_iload_n hE dX5_carried_273 1 rfl ?_
            refine g_bipush hE dX5_carried_274 58 (by decide) ?_
            refine g_icmp_ne hE 283 dX5_carried_276 (by decide) (fun c21 => ?_) (fun c21 => absurd c21 (by rw [(show k = 57 from c7)]; decide))
            refine g_aload_n hE dX5_carried_283 0 rfl ?_
            refine g_get hE fl_X5_102 dX5_carried_284 0 rfl rfl ?_
            refine g_put hE fl_X5_102 fp_5_7 dX5_carried_287 0 rfl rfl rfl (Nat.le_of_ble_eq_true rfl) (modelW cI a (pA (pA (pA q 18 (upd (q 18) 0 (q 18 0))) 18 (upd (upd (q 18) 0 (q 18 0)) 1 v)) 18 (upd (upd (upd (q 18) 0 (q 18 0)) 1 v) 2 (q 18 2)))) (by rfl) ?_
            refine g_aload_n hE dX5_carried_290 0 rfl ?_
            refine g_iload_n hE dX5_carried_291 3 rfl ?_
            refine g_if_eq hE 305 dX5_carried_292 (by decide) (fun c22 => absurd c22 (by decide)) (fun c22 => ?_)
            refine g_iload_n hE dX5_carried_295 1 rfl ?_
            refine g_bipush hE dX5_carried_296 59 (by decide) ?_
            refine g_icmp_ne hE 305 dX5_carried_298 (by decide) (fun c23 => ?_) (fun c23 => absurd c23 (by rw [(show k = 57 from c7)]; decide))
            refine g_aload_n hE dX5_carried_305 0 rfl ?_
            refine g_get hE fl_X5_105 dX5_carried_306 0 rfl rfl ?_
            refine g_put hE fl_X5_105 fp_5_8 dX5_carried_309 0 rfl rfl rfl (Nat.le_of_ble_eq_true rfl) (modelW cI a (pA (pA (pA (pA q 18 (upd (q 18) 0 (q 18 0))) 18 (upd (upd (q 18) 0 (q 18 0)) 1 v)) 18 (upd (upd (upd (q 18) 0 (q 18 0)) 1 v) 2 (q 18 2))) 18 (upd (upd (upd (upd (q 18) 0 (q 18 0)) 1 v) 2 (q 18 2)) 3 (q 18 3)))) (by rfl) ?_
            refine g_iload_n hE dX5_carried_312 1 rfl ?_
            refine g_bipush hE dX5_carried_313 56 (by decide) ?_
            refine g_icmp_ne hE 325 dX5_carried_315 (by decide) (fun c24 => ?_) (fun c24 => absurd c24 (show ¬ k = 56 from c5))
            refine g_iload_n hE dX5_carried_325 1 rfl ?_
            refine g_bipush hE dX5_carried_326 57 (by decide) ?_
            refine g_icmp_ne hE 338 dX5_carried_328 (by decide) (fun c25 => absurd (show k = 57 from c7) c25) (fun c25 => ?_)
            refine g_aload_n hE dX5_carried_331 0 rfl ?_
            refine g_get hE fl_X5_72 dX5_carried_332 0 rfl rfl ?_
            refine g_goto hE 355 dX5_carried_335 (by decide) ?_
            refine g_world (modelW cI a (CU q kn v)) (congrArg (modelW cI a) (cuS (by omega) hk60 (if_neg (by omega)).symm (if_pos (by omega)).symm (if_neg (by omega)).symm (if_neg (by omega)).symm)) ?_
            exact g_iret hE hQ dX5_carried_355 rfl v rfl rfl trivial
        · have kc5 := nat_eq_t (show k = nI kn from hk) (show 56 = nI 56 from rfl) (by omega) (by omega) c5
          refine g_iload_n hE dX5_carried_235 2 rfl ?_
          refine g_goto hE 243 dX5_carried_236 (by decide) ?_
          refine g_put hE fl_X5_64 fp_5_3 dX5_carried_243 0 rfl rfl rfl (Nat.le_of_ble_eq_true rfl) (modelW cI a (pA q 18 (upd (q 18) 0 v))) (by rfl) ?_
          refine g_aload_n hE dX5_carried_246 0 rfl ?_
          refine g_iload_n hE dX5_carried_247 3 rfl ?_
          refine g_if_eq hE 261 dX5_carried_248 (by decide) (fun c26 => absurd c26 (by decide)) (fun c26 => ?_)
          refine g_iload_n hE dX5_carried_251 1 rfl ?_
          refine g_bipush hE dX5_carried_252 57 (by decide) ?_
          refine g_icmp_ne hE 261 dX5_carried_254 (by decide) (fun c27 => ?_) (fun c27 => absurd c27 (by rw [(show k = 56 from c5)]; decide))
          refine g_aload_n hE dX5_carried_261 0 rfl ?_
          refine g_get hE fl_X5_72 dX5_carried_262 0 rfl rfl ?_
          refine g_put hE fl_X5_72 fp_5_5 dX5_carried_265 0 rfl rfl rfl (Nat.le_of_ble_eq_true rfl) (modelW cI a (pA (pA q 18 (upd (q 18) 0 v)) 18 (upd (upd (q 18) 0 v) 1 (q 18 1)))) (by rfl) ?_
          refine g_aload_n hE dX5_carried_268 0 rfl ?_
          refine g_iload_n hE dX5_carried_269 3 rfl ?_
          refine g_if_eq hE 283 dX5_carried_270 (by decide) (fun c28 => absurd c28 (by decide)) (fun c28 => ?_)
          refine g_iload_n hE dX5_carried_273 1 rfl ?_
          refine g_bipush hE dX5_carried_274 58 (by decide) ?_
          refine g_icmp_ne hE 283 dX5_carried_276 (by decide) (fun c29 => ?_) (fun c29 => absurd c29 (by rw [(show k = 56 from c5)]; decide))
          refine g_aload_n hE dX5_carried_283 0 rfl ?_
          refine g_get hE fl_X5_102 dX5_carried_284 0 rfl rfl ?_
          refine g_put hE fl_X5_102 fp_5_7 dX5_carried_287 0 rfl rfl rfl (Nat.le_of_ble_eq_true rfl) (modelW cI a (pA (pA (pA q 18 (upd (q 18) 0 v)) 18 (upd (upd (q 18) 0 v) 1 (q 18 1))) 18 (upd (upd (upd (q 18) 0 v) 1 (q 18 1)) 2 (q 18 2)))) (by rfl) ?_
          refine g_aload_n hE dX5_carried_290 0 rfl ?_
          refine g_iload_n hE dX5_carried_291 3 rfl ?_
          refine g_if_eq hE 305 dX5_carried_292 (by decide) (fun c30 => absurd c30 (by decide)) (fun c30 => ?_)
          refine g_iload_n hE dX5_carried_295 1 rfl ?_
          refine g_bipush hE dX5_carried_296 59 (by decide) ?_
          refine g_icmp_ne hE 305 dX5_carried_298 (by decide) (fun c31 => ?_) (fun c31 => absurd c31 (by rw [(show k = 56 from c5)]; decide))
          refine g_aload_n hE dX5_carried_305 0 rfl ?_
          refine g_get hE fl_X5_105 dX5_carried_306 0 rfl rfl ?_
          refine g_put hE fl_X5_105 fp_5_8 dX5_carried_309 0 rfl rfl rfl (Nat.le_of_ble_eq_true rfl) (modelW cI a (pA (pA (pA (pA q 18 (upd (q 18) 0 v)) 18 (upd (upd (q 18) 0 v) 1 (q 18 1))) 18 (upd (upd (upd (q 18) 0 v) 1 (q 18 1)) 2 (q 18 2))) 18 (upd (upd (upd (upd (q 18) 0 v) 1 (q 18 1)) 2 (q 18 2)) 3 (q 18 3)))) (by rfl) ?_
          refine g_iload_n hE dX5_carried_312 1 rfl ?_
          refine g_bipush hE dX5_carried_313 56 (by decide) ?_
          refine g_icmp_ne hE 325 dX5_carried_315 (by decide) (fun c32 => absurd (show k = 56 from c5) c32) (fun c32 => ?_)
          refine g_aload_n hE dX5_carried_318 0 rfl ?_
          refine g_get hE fl_X5_64 dX5_carried_319 0 rfl rfl ?_
          refine g_goto hE 355 dX5_carried_322 (by decide) ?_
          refine g_world (modelW cI a (CU q kn v)) (congrArg (modelW cI a) (cuS (by omega) hk60 (if_pos (by omega)).symm (if_neg (by omega)).symm (if_neg (by omega)).symm (if_neg (by omega)).symm)) ?_
          exact g_iret hE hQ dX5_carried_355 rfl v rfl rfl trivial
      · have kc3 := nat_le_f (show 56 = nI 56 from rfl) (show k = nI kn from hk) (by omega) (by omega) c3
        refine g_aload_n hE dX5_carried_188 0 rfl ?_
        refine g_get hE fl_X5_22 dX5_carried_189 0 rfl rfl ?_
        refine g_iload_n hE dX5_carried_192 1 rfl ?_
        refine g_bipush hE dX5_carried_193 50 (by decide) ?_
        refine g_isub_n hE dX5_carried_195 (show k = nI kn from hk) (show 50 = nI 50 from rfl) (by omega) ?_
        refine g_iload_n hE dX5_carried_196 3 rfl ?_
        refine g_if_eq hE 204 dX5_carried_197 (by decide) (fun c33 => absurd c33 (by decide)) (fun c33 => ?_)
        refine g_iload_n hE dX5_carried_200 2 rfl ?_
        refine g_goto hE 213 dX5_carried_201 (by decide) ?_
        refine g_iast_n hE dX5_carried_213 5 rfl (show (nI (kn - 50)) = nI (kn - 50) from rfl) (by omega) (modelW cI a (pA q 4 (upd (q 4) (kn - 50) v))) rfl ?_
        refine g_aload_n hE dX5_carried_214 0 rfl ?_
        refine g_get hE fl_X5_22 dX5_carried_215 0 rfl rfl ?_
        refine g_iload_n hE dX5_carried_218 1 rfl ?_
        refine g_bipush hE dX5_carried_219 50 (by decide) ?_
        refine g_isub_n hE dX5_carried_221 (show k = nI kn from hk) (show 50 = nI 50 from rfl) (by omega) ?_
        refine g_iald_n hE dX5_carried_222 5 rfl (show (nI (kn - 50)) = nI (kn - 50) from rfl) (by omega) ?_
        refine g_world (modelW cI a (CU q kn v)) (congrArg (modelW cI a) (cuR (by omega) (by omega))) ?_
        exact g_iret hE hQ dX5_carried_223 rfl ((upd (q 4) (kn - 50) v) (kn - 50)) rfl rfl trivial
    · have kc2 := nat_le_f (show 50 = nI 50 from rfl) (show k = nI kn from hk) (by omega) (by omega) c2
      refine g_aload_n hE dX5_carried_146 0 rfl ?_
      refine g_get hE fl_X5_19 dX5_carried_147 0 rfl rfl ?_
      refine g_iload_n hE dX5_carried_150 1 rfl ?_
      refine g_bipush hE dX5_carried_151 18 (by decide) ?_
      refine g_isub_n hE dX5_carried_153 (show k = nI kn from hk) (show 18 = nI 18 from rfl) (by omega) ?_
      refine g_iload_n hE dX5_carried_154 3 rfl ?_
      refine g_if_eq hE 162 dX5_carried_155 (by decide) (fun c34 => absurd c34 (by decide)) (fun c34 => ?_)
      refine g_iload_n hE dX5_carried_158 2 rfl ?_
      refine g_goto hE 171 dX5_carried_159 (by decide) ?_
      refine g_iast_n hE dX5_carried_171 4 rfl (show (nI (kn - 18)) = nI (kn - 18) from rfl) (by omega) (modelW cI a (pA q 3 (upd (q 3) (kn - 18) v))) rfl ?_
      refine g_aload_n hE dX5_carried_172 0 rfl ?_
      refine g_get hE fl_X5_19 dX5_carried_173 0 rfl rfl ?_
      refine g_iload_n hE dX5_carried_176 1 rfl ?_
      refine g_bipush hE dX5_carried_177 18 (by decide) ?_
      refine g_isub_n hE dX5_carried_179 (show k = nI kn from hk) (show 18 = nI 18 from rfl) (by omega) ?_
      refine g_iald_n hE dX5_carried_180 4 rfl (show (nI (kn - 18)) = nI (kn - 18) from rfl) (by omega) ?_
      refine g_world (modelW cI a (CU q kn v)) (congrArg (modelW cI a) (cuZ (by omega) (by omega))) ?_
      exact g_iret hE hQ dX5_carried_181 rfl ((upd (q 3) (kn - 18) v) (kn - 18)) rfl rfl trivial
  · have kc1 := nat_le_f (show 18 = nI 18 from rfl) (show k = nI kn from hk) (by omega) (by omega) c1
    refine g_iload_n hE dX5_carried_6 1 rfl ?_
    refine g_bipush hE dX5_carried_7 6 (by decide) ?_
    refine g_irem hE dX5_carried_9 (by decide) ?_
    refine g_istore hE dX5_carried_10 [(4, .int (k - k / 6 * 6)), (0, .ref (a 0)), (1, .int k), (2, .int v), (3, .int 1)] (by decide) rfl ?_
    refine g_iload_n hE dX5_carried_12 2 rfl ?_
    refine g_bipush hE dX5_carried_13 6 (by decide) ?_
    refine g_idiv hE dX5_carried_15 (by decide) ?_
    refine g_istore hE dX5_carried_16 [(5, .int (k / 6)), (4, .int (k - k / 6 * 6)), (0, .ref (a 0)), (1, .int k), (2, .int v), (3, .int 1)] (by decide) rfl ?_
    refine g_aload_n hE dX5_carried_18 2 rfl ?_
    refine g_get hE fl_X5_7 dX5_carried_19 0 rfl rfl ?_
    refine g_iload hE dX5_carried_22 1 rfl ?_
    refine g_iload_n hE dX5_carried_24 5 rfl ?_
    refine g_if_eq hE 37 dX5_carried_25 (by decide) (fun c35 => absurd c35 (by decide)) (fun c35 => ?_)
    refine g_iload hE dX5_carried_28 0 rfl ?_
    refine g_if_ne hE 37 dX5_carried_30 (by decide) (fun c36 => ?_) (fun c36 => ?_)
    · refine g_aload_n hE dX5_carried_37 2 rfl ?_
      refine g_get hE fl_X5_7 dX5_carried_38 0 rfl rfl ?_
      refine g_iload hE dX5_carried_41 1 rfl ?_
      refine g_iald_n hE dX5_carried_43 1 rfl (show (k - k / 6 * 6) = nI (kn % 6) from hrm) (by omega) ?_
      refine g_iast_n hE dX5_carried_44 1 rfl (show (k - k / 6 * 6) = nI (kn % 6) from hrm) (by omega) (modelW cI a (pA q 0 (upd (q 0) (kn % 6) ((q 0) (kn % 6))))) rfl ?_
      refine g_aload_n hE dX5_carried_45 2 rfl ?_
      refine g_get hE fl_X5_13 dX5_carried_46 0 rfl rfl ?_
      refine g_iload hE dX5_carried_49 1 rfl ?_
      refine g_iload_n hE dX5_carried_51 5 rfl ?_
      refine g_if_eq hE 65 dX5_carried_52 (by decide) (fun c37 => absurd c37 (by decide)) (fun c37 => ?_)
      refine g_iload hE dX5_carried_55 0 rfl ?_
      refine g_iconst hE dX5_carried_57 1 (by decide) ?_
      refine g_icmp_ne hE 65 dX5_carried_58 (by decide) (fun c38 => ?_) (fun c38 => ?_)
      · refine g_aload_n hE dX5_carried_65 2 rfl ?_
        refine g_get hE fl_X5_13 dX5_carried_66 0 rfl rfl ?_
        refine g_iload hE dX5_carried_69 1 rfl ?_
        refine g_iald_n hE dX5_carried_71 2 rfl (show (k - k / 6 * 6) = nI (kn % 6) from hrm) (by omega) ?_
        refine g_iast_n hE dX5_carried_72 2 rfl (show (k - k / 6 * 6) = nI (kn % 6) from hrm) (by omega) (modelW cI a (pA (pA q 0 (upd (q 0) (kn % 6) ((q 0) (kn % 6)))) 1 (upd (q 1) (kn % 6) ((q 1) (kn % 6))))) rfl ?_
        refine g_aload_n hE dX5_carried_73 2 rfl ?_
        refine g_get hE fl_X5_16 dX5_carried_74 0 rfl rfl ?_
        refine g_iload hE dX5_carried_77 1 rfl ?_
        refine g_iload_n hE dX5_carried_79 5 rfl ?_
        refine g_if_eq hE 93 dX5_carried_80 (by decide) (fun c39 => absurd c39 (by decide)) (fun c39 => ?_)
        refine g_iload hE dX5_carried_83 0 rfl ?_
        refine g_iconst hE dX5_carried_85 2 (by decide) ?_
        refine g_icmp_ne hE 93 dX5_carried_86 (by decide) (fun c40 => ?_) (fun c40 => ?_)
        · exfalso
          exact absurd (show kn / 6 < 3 by omega) (by have h0 : ¬ kn / 6 = 0 := dv_f (j := 0) hdv (show ¬ (k / 6) = 0 from c36); have h1 : ¬ kn / 6 = 1 := dv_f (j := 1) hdv (show ¬ (k / 6) = 1 from c38); have h2 : ¬ kn / 6 = 2 := dv_f (j := 2) hdv c40; omega)
        · refine g_iload_n hE dX5_carried_89 4 rfl ?_
          refine g_goto hE 100 dX5_carried_90 (by decide) ?_
          refine g_iast_n hE dX5_carried_100 3 rfl (show (k - k / 6 * 6) = nI (kn % 6) from hrm) (by omega) (modelW cI a (pA (pA (pA q 0 (upd (q 0) (kn % 6) ((q 0) (kn % 6)))) 1 (upd (q 1) (kn % 6) ((q 1) (kn % 6)))) 2 (upd (q 2) (kn % 6) v))) rfl ?_
          refine g_iload hE dX5_carried_101 0 rfl ?_
          refine g_if_ne hE 116 dX5_carried_103 (by decide) (fun c41 => ?_) (fun c41 => absurd c41 (show ¬ (k / 6) = 0 from c36))
          refine g_iload hE dX5_carried_116 0 rfl ?_
          refine g_iconst hE dX5_carried_118 1 (by decide) ?_
          refine g_icmp_ne hE 132 dX5_carried_119 (by decide) (fun c42 => ?_) (fun c42 => absurd c42 (show ¬ (k / 6) = 1 from c38))
          refine g_aload_n hE dX5_carried_132 2 rfl ?_
          refine g_get hE fl_X5_16 dX5_carried_133 0 rfl rfl ?_
          refine g_iload hE dX5_carried_136 1 rfl ?_
          refine g_iald_n hE dX5_carried_138 3 rfl (show (k - k / 6 * 6) = nI (kn % 6) from hrm) (by omega) ?_
          refine g_world (modelW cI a (CU q kn v)) (congrArg (modelW cI a) (cuA (by omega) (if_neg (by rw [(dv_t hdv hk60 (by decide) (show (k / 6) = 2 from c40))]; decide)).symm (if_neg (by rw [(dv_t hdv hk60 (by decide) (show (k / 6) = 2 from c40))]; decide)).symm (if_pos (dv_t hdv hk60 (by decide) (show (k / 6) = 2 from c40))).symm)) ?_
          exact g_iret hE hQ dX5_carried_139 rfl ((upd (q 2) (kn % 6) v) (kn % 6)) rfl rfl trivial
      · refine g_iload_n hE dX5_carried_61 4 rfl ?_
        refine g_goto hE 72 dX5_carried_62 (by decide) ?_
        refine g_iast_n hE dX5_carried_72 2 rfl (show (k - k / 6 * 6) = nI (kn % 6) from hrm) (by omega) (modelW cI a (pA (pA q 0 (upd (q 0) (kn % 6) ((q 0) (kn % 6)))) 1 (upd (q 1) (kn % 6) v))) rfl ?_
        refine g_aload_n hE dX5_carried_73 2 rfl ?_
        refine g_get hE fl_X5_16 dX5_carried_74 0 rfl rfl ?_
        refine g_iload hE dX5_carried_77 1 rfl ?_
        refine g_iload_n hE dX5_carried_79 5 rfl ?_
        refine g_if_eq hE 93 dX5_carried_80 (by decide) (fun c43 => absurd c43 (by decide)) (fun c43 => ?_)
        refine g_iload hE dX5_carried_83 0 rfl ?_
        refine g_iconst hE dX5_carried_85 2 (by decide) ?_
        refine g_icmp_ne hE 93 dX5_carried_86 (by decide) (fun c44 => ?_) (fun c44 => absurd c44 (by rw [(show (k / 6) = 1 from c38)]; decide))
        refine g_aload_n hE dX5_carried_93 2 rfl ?_
        refine g_get hE fl_X5_16 dX5_carried_94 0 rfl rfl ?_
        refine g_iload hE dX5_carried_97 1 rfl ?_
        refine g_iald_n hE dX5_carried_99 3 rfl (show (k - k / 6 * 6) = nI (kn % 6) from hrm) (by omega) ?_
        refine g_iast_n hE dX5_carried_100 3 rfl (show (k - k / 6 * 6) = nI (kn % 6) from hrm) (by omega) (modelW cI a (pA (pA (pA q 0 (upd (q 0) (kn % 6) ((q 0) (kn % 6)))) 1 (upd (q 1) (kn % 6) v)) 2 (upd (q 2) (kn % 6) ((q 2) (kn % 6))))) rfl ?_
        refine g_iload hE dX5_carried_101 0 rfl ?_
        refine g_if_ne hE 116 dX5_carried_103 (by decide) (fun c45 => ?_) (fun c45 => absurd c45 (show ¬ (k / 6) = 0 from c36))
        refine g_iload hE dX5_carried_116 0 rfl ?_
        refine g_iconst hE dX5_carried_118 1 (by decide) ?_
        refine g_icmp_ne hE 132 dX5_carried_119 (by decide) (fun c46 => absurd (show (k / 6) = 1 from c38) c46) (fun c46 => ?_)
        refine g_aload_n hE dX5_carried_122 2 rfl ?_
        refine g_get hE fl_X5_13 dX5_carried_123 0 rfl rfl ?_
        refine g_iload hE dX5_carried_126 1 rfl ?_
        refine g_iald_n hE dX5_carried_128 2 rfl (show (k - k / 6 * 6) = nI (kn % 6) from hrm) (by omega) ?_
        refine g_goto hE 139 dX5_carried_129 (by decide) ?_
        refine g_world (modelW cI a (CU q kn v)) (congrArg (modelW cI a) (cuA (by omega) (if_neg (by rw [(dv_t hdv hk60 (by decide) (show (k / 6) = 1 from c38))]; decide)).symm (if_pos (dv_t hdv hk60 (by decide) (show (k / 6) = 1 from c38))).symm (if_neg (by rw [(dv_t hdv hk60 (by decide) (show (k / 6) = 1 from c38))]; decide)).symm)) ?_
        exact g_iret hE hQ dX5_carried_139 rfl ((upd (q 1) (kn % 6) v) (kn % 6)) rfl rfl trivial
    · refine g_iload_n hE dX5_carried_33 4 rfl ?_
      refine g_goto hE 44 dX5_carried_34 (by decide) ?_
      refine g_iast_n hE dX5_carried_44 1 rfl (show (k - k / 6 * 6) = nI (kn % 6) from hrm) (by omega) (modelW cI a (pA q 0 (upd (q 0) (kn % 6) v))) rfl ?_
      refine g_aload_n hE dX5_carried_45 2 rfl ?_
      refine g_get hE fl_X5_13 dX5_carried_46 0 rfl rfl ?_
      refine g_iload hE dX5_carried_49 1 rfl ?_
      refine g_iload_n hE dX5_carried_51 5 rfl ?_
      refine g_if_eq hE 65 dX5_carried_52 (by decide) (fun c47 => absurd c47 (by decide)) (fun c47 => ?_)
      refine g_iload hE dX5_carried_55 0 rfl ?_
      refine g_iconst hE dX5_carried_57 1 (by decide) ?_
      refine g_icmp_ne hE 65 dX5_carried_58 (by decide) (fun c48 => ?_) (fun c48 => absurd c48 (by rw [(show (k / 6) = 0 from c36)]; decide))
      refine g_aload_n hE dX5_carried_65 2 rfl ?_
      refine g_get hE fl_X5_13 dX5_carried_66 0 rfl rfl ?_
      refine g_iload hE dX5_carried_69 1 rfl ?_
      refine g_iald_n hE dX5_carried_71 2 rfl (show (k - k / 6 * 6) = nI (kn % 6) from hrm) (by omega) ?_
      refine g_iast_n hE dX5_carried_72 2 rfl (show (k - k / 6 * 6) = nI (kn % 6) from hrm) (by omega) (modelW cI a (pA (pA q 0 (upd (q 0) (kn % 6) v)) 1 (upd (q 1) (kn % 6) ((q 1) (kn % 6))))) rfl ?_
      refine g_aload_n hE dX5_carried_73 2 rfl ?_
      refine g_get hE fl_X5_16 dX5_carried_74 0 rfl rfl ?_
      refine g_iload hE dX5_carried_77 1 rfl ?_
      refine g_iload_n hE dX5_carried_79 5 rfl ?_
      refine g_if_eq hE 93 dX5_carried_80 (by decide) (fun c49 => absurd c49 (by decide)) (fun c49 => ?_)
      refine g_iload hE dX5_carried_83 0 rfl ?_
      refine g_iconst hE dX5_carried_85 2 (by decide) ?_
      refine g_icmp_ne hE 93 dX5_carried_86 (by decide) (fun c50 => ?_) (fun c50 => absurd c50 (by rw [(show (k / 6) = 0 from c36)]; decide))
      refine g_aload_n hE dX5_carried_93 2 rfl ?_
      refine g_get hE fl_X5_16 dX5_carried_94 0 rfl rfl ?_
      refine g_iload hE dX5_carried_97 1 rfl ?_
      refine g_iald_n hE dX5_carried_99 3 rfl (show (k - k / 6 * 6) = nI (kn % 6) from hrm) (by omega) ?_
      refine g_iast_n hE dX5_carried_100 3 rfl (show (k - k / 6 * 6) = nI (kn % 6) from hrm) (by omega) (modelW cI a (pA (pA (pA q 0 (upd (q 0) (kn % 6) v)) 1 (upd (q 1) (kn % 6) ((q 1) (kn % 6)))) 2 (upd (q 2) (kn % 6) ((q 2) (kn % 6))))) rfl ?_
      refine g_iload hE dX5_carried_101 0 rfl ?_
      refine g_if_ne hE 116 dX5_carried_103 (by decide) (fun c51 => absurd (show (k / 6) = 0 from c36) c51) (fun c51 => ?_)
      refine g_aload_n hE dX5_carried_106 2 rfl ?_
      refine g_get hE fl_X5_7 dX5_carried_107 0 rfl rfl ?_
      refine g_iload hE dX5_carried_110 1 rfl ?_
      refine g_iald_n hE dX5_carried_112 1 rfl (show (k - k / 6 * 6) = nI (kn % 6) from hrm) (by omega) ?_
      refine g_goto hE 139 dX5_carried_113 (by decide) ?_
      refine g_world (modelW cI a (CU q kn v)) (congrArg (modelW cI a) (cuA (by omega) (if_pos (dv_t hdv hk60 (by decide) (show (k / 6) = 0 from c36))).symm (if_neg (by rw [(dv_t hdv hk60 (by decide) (show (k / 6) = 0 from c36))]; decide)).symm (if_neg (by rw [(dv_t hdv hk60 (by decide) (show (k / 6) = 0 from c36))]; decide)).symm)) ?_
      exact g_iret hE hQ dX5_carried_139 rfl ((upd (q 0) (kn % 6) v) (kn % 6)) rfl rfl trivial
set_option maxHeartbeats 4000000 in
set_option maxRecDepth 100000 in
theorem c_X5_image (cI cS : ClassId) (a : Nat → Nat) (q : Nat → Nat → Int32) {n sv pl : Nat} (m : MS) (hRQ : RQ q m n sv pl) : CT cI cS yX5_image cX5_image 2 (some .int) 1 [.ref (a 0)] (modelW cI a q) 0 0 (fun u : Int32 × (Nat → Nat → Int32) => u.1 = 1 ∧ TF u.2 q ∧ (u.2 5 = q 5 ∧ u.2 14 = q 14 ∧ u.2 15 = q 15 ∧ u.2 16 = q 16 ∧ u.2 18 4 = q 18 4) ∧ u.2 18 13 = 1 ∧ TQ (unp (u.2 13)) m n sv pl) (fun u => some (.int u.1)) (fun u => (modelW cI a u.2)) := by
  refine ct_intro (by decide) (Nat.le_of_ble_eq_true rfl) (fun E Q hE hQ hI => ?_)
  have hE : CxOk E cI cS RX5 cX5_image 2 (some .int) 1 0 0 := hE
  show Go E Q 2 0 0 0 [(0, .ref (a 0))] [] (modelW cI a q)
  have hM := hRQ.1
  have hTQ := hRQ.2.1
  have hRG := hRQ.2.2
  have hgr := hTQ.2.2.2.1
  have hsv := hTQ.2.2.2.2.1
  have hpl := hTQ.2.2.2.2.2.1
  have hn6 := hM.2.1
  have hsv8 := hM.2.2.2.1
  have hpl6 := hM.2.2.2.2.2
  have hc0 : m 9 0 = q 18 0 := hM.1.trans hgr.symm
  have hc1 : m 9 1 = q 18 1 := hM.2.2.1.trans hsv.symm
  have hc2 : m 9 2 = q 18 2 := hM.2.2.2.2.1.trans hpl.symm
  refine g_iconst hE dX5_image_0 0 (by decide) ?_
  refine g_istore_n hE dX5_image_1 [(1, .int 0), (0, .ref (a 0))] rfl (by decide) rfl ?_
  have L2 : ∀ (n_2 : Nat) (j : Nat) (kp : Nat → Int32), (j ≤ 60) → (∀ r, r < j → kp r = CV q r) → (60 - j < n_2) → Go E Q 2 0 0 2 [(0, .ref (a 0)), (1, .int (nI j))] [] (modelW cI a (pA q 13 kp)) := by
    intro n_2
    induction n_2 with
    | zero => intro j kp hj hkp hm_2; exact absurd hm_2 (Nat.not_lt_zero _)
    | succ n_2 ih_2 =>
      intro j kp hj hkp hm_2
      refine g_iload_n hE dX5_image_2 1 rfl ?_
      refine g_bipush hE dX5_image_3 60 (by decide) ?_
      refine g_icmp_ge hE 27 dX5_image_5 (by decide) (fun c1 => ?_) (fun c1 => ?_)
      · have kc1 := nat_le_t (show 60 = nI 60 from rfl) (show (nI j) = nI j from rfl) (by omega) (by omega) c1
        refine g_aload_n hE dX5_image_27 0 rfl ?_
        refine g_iconst hE dX5_image_28 1 (by decide) ?_
        refine g_put hE fl_X5_250 fp_5_26 dX5_image_29 0 rfl (by first | rfl | decide) (by first | rfl | decide) (Nat.le_of_ble_eq_true rfl) (modelW cI a (pA (pA q 13 kp) 18 (upd (q 18) 13 1))) (by rfl) ?_
        refine g_iconst hE dX5_image_32 1 (by decide) ?_
        exact g_iret hE hQ dX5_image_33 rfl (1, (pA (pA q 13 kp) 18 (upd (q 18) 13 1))) rfl rfl ⟨rfl, ⟨rfl, rfl, rfl, rfl, rfl, rfl, rfl, rfl, rfl⟩, ⟨rfl, rfl, rfl, rfl, rfl⟩, rfl, TQ_unp hRQ (fun r hr => hkp r (by omega))⟩
      · have kc1 := nat_le_f (show 60 = nI 60 from rfl) (show (nI j) = nI j from rfl) (by omega) (by omega) c1
        refine g_aload_n hE dX5_image_8 0 rfl ?_
        refine g_get hE fl_X5_49 dX5_image_9 0 rfl rfl ?_
        refine g_iload_n hE dX5_image_12 1 rfl ?_
        refine g_aload_n hE dX5_image_13 0 rfl ?_
        refine g_iload_n hE dX5_image_14 1 rfl ?_
        refine g_iconst hE dX5_image_15 0 (by decide) ?_
        refine g_iconst hE dX5_image_16 0 (by decide) ?_
        refine g_callV hE (c_X5_carried cI cS a (pA q 13 kp) (nI j) j (show (nI j) = nI j from rfl) (by omega) 0) mk_X5_carried mv_X5_carried ml_X5_246 dX5_image_17 (As := [.int (nI j), .int 0, .int 0]) (rest := [.int (nI j), .ref (a 14)]) rfl rfl 0 rfl (show vwCl[5]? = some (RX5, TX5, 32) from rfl) (by decide) (by decide) (Nat.le_of_ble_eq_true rfl) (by decide) (by decide) [0, 1, 2, 3, 4, 5, 6, 7, 8, 9, 10, 11, 12, 13, 14, 15, 16, 17, 18] rfl (by decide) (fun u => Nat.le_of_ble_eq_true rfl) (ws' := fun u => modelW cI a (pA q 13 kp)) (fun u => rfl) (fun u hu => ?_)
        obtain ⟨r_2, rfl⟩ : ∃ z, z = u := ⟨_, rfl⟩
        have h3 : r_2 = (CV (pA q 13 kp) j) := hu
        subst h3
        show Go E Q 2 0 0 20 [(0, .ref (a 0)), (1, .int (nI j))] [.int (CV (pA q 13 kp) j), .int (nI j), .ref (a 14)] (modelW cI a (pA q 13 kp))
        refine g_iast_n hE dX5_image_20 14 rfl (show (nI j) = nI j from rfl) (by omega) (modelW cI a (pA (pA q 13 kp) 13 (upd kp j (CV (pA q 13 kp) j)))) rfl ?_
        refine g_iinc hE dX5_image_21 1 (nI (j + 1)) [(1, .int (nI (j + 1))), (0, .ref (a 0))] rfl (nI_1 _) (by decide) rfl ?_
        refine g_goto hE 2 dX5_image_24 (by decide) ?_
        refine g_locals [1, 0] [(0, .ref (a 0)), (1, .int (nI (j + 1)))] rfl ?_
        exact ih_2 (j + 1) (upd kp j (CV (pA q 13 kp) j)) (by first | assumption | omega) (upd_pre hkp rfl) (by omega)
  refine g_locals [1, 0] [(0, .ref (a 0)), (1, .int 0)] rfl ?_
  exact L2 _ 0 (q 13) (Nat.zero_le _) (fun j hj => absurd hj (Nat.not_lt_zero _)) (Nat.lt_succ_self _)
set_option maxHeartbeats 4000000 in
set_option maxRecDepth 100000 in
theorem c_X5_restore (cI cS : ClassId) (a : Nat → Nat) (q : Nat → Nat → Int32) {n sv pl : Nat} (m : MS) (hRQ : RQ q m n sv pl) (w : MS) (kf : Int32) {nw sw pw : Nat} (hKQ : KQ q w kf nw sw pw) : CT cI cS yX5_restore cX5_restore 2 (some .int) 1 [.ref (a 0)] (modelW cI a q) 0 0 (fun u : Int32 × (Nat → Nat → Int32) => u.1 = (fgRestore m w kf).1 ∧ (∃ n2 sv2 pl2, RQ u.2 (fgRestore m w kf).2 n2 sv2 pl2) ∧ OF u.2 q) (fun u => some (.int u.1)) (fun u => (modelW cI a u.2)) := by
  refine ct_intro (by decide) (Nat.le_of_ble_eq_true rfl) (fun E Q hE hQ hI => ?_)
  have hE : CxOk E cI cS RX5 cX5_restore 2 (some .int) 1 0 0 := hE
  show Go E Q 2 0 0 0 [(0, .ref (a 0))] [] (modelW cI a q)
  have hM := hRQ.1
  have hTQ := hRQ.2.1
  have hRG := hRQ.2.2
  have hgr := hTQ.2.2.2.1
  have hsv := hTQ.2.2.2.2.1
  have hpl := hTQ.2.2.2.2.2.1
  have hn6 := hM.2.1
  have hsv8 := hM.2.2.2.1
  have hpl6 := hM.2.2.2.2.2
  have hc0 : m 9 0 = q 18 0 := hM.1.trans hgr.symm
  have hc1 : m 9 1 = q 18 1 := hM.2.2.1.trans hsv.symm
  have hc2 : m 9 2 = q 18 2 := hM.2.2.2.2.1.trans hpl.symm
  refine g_aload_n hE dX5_restore_0 0 rfl ?_
  refine g_get hE fl_X5_250 dX5_restore_1 0 rfl rfl ?_
  refine g_if_ne hE 10 dX5_restore_4 (by decide) (fun c1 => ?_) (fun c1 => ?_)
  · refine g_iconst hE dX5_restore_10 0 (by decide) ?_
    refine g_istore_n hE dX5_restore_11 [(1, .int 0), (0, .ref (a 0))] rfl (by decide) rfl ?_
    have L12 : ∀ (n_12 : Nat) (j : Nat) (qq : (Nat → Nat → Int32)), (j ≤ 60) → (qq = RSt q (q 13) j) → (60 - j < n_12) → Go E Q 2 0 0 12 [(0, .ref (a 0)), (1, .int (nI j))] [] (modelW cI a qq) := by
      intro n_12
      induction n_12 with
      | zero => intro j qq hj hq hm_12; exact absurd hm_12 (Nat.not_lt_zero _)
      | succ n_12 ih_12 =>
        intro j qq hj hq hm_12
        refine g_iload_n hE dX5_restore_12 1 rfl ?_
        refine g_bipush hE dX5_restore_13 60 (by decide) ?_
        refine g_icmp_ge hE 37 dX5_restore_15 (by decide) (fun c2 => ?_) (fun c2 => ?_)
        · have kc2 := nat_le_t (show 60 = nI 60 from rfl) (show (nI j) = nI j from rfl) (by omega) (by omega) c2
          refine g_iconst hE dX5_restore_37 1 (by decide) ?_
          have ej : j = 60 := (by omega)
          rw [ej] at hq
          subst hq
          exact g_iret hE hQ dX5_restore_38 rfl (1, (RSt q (q 13) 60)) rfl rfl ⟨(by rw [fgRestore, if_neg (fun z => (show ¬ (q 18 13) = 0 from c1) (hKQ.1.trans z))]), ⟨nw, sw, pw, (by rw [fgRestore, if_neg (fun z => (show ¬ (q 18 13) = 0 from c1) (hKQ.1.trans z))]; exact RQ_rs ((hKQ.2.resolve_left (fun z => (show ¬ (q 18 13) = 0 from c1) (hKQ.1.trans z))).2))⟩, OF_rs⟩
        · have kc2 := nat_le_f (show 60 = nI 60 from rfl) (show (nI j) = nI j from rfl) (by omega) (by omega) c2
          refine g_aload_n hE dX5_restore_18 0 rfl ?_
          refine g_iload_n hE dX5_restore_19 1 rfl ?_
          refine g_aload_n hE dX5_restore_20 0 rfl ?_
          refine g_get hE fl_X5_49 dX5_restore_21 0 rfl rfl ?_
          refine g_iload_n hE dX5_restore_24 1 rfl ?_
          refine g_iald_n hE dX5_restore_25 14 rfl (show (nI j) = nI j from rfl) (by omega) ?_
          refine g_iconst hE dX5_restore_26 1 (by decide) ?_
          refine g_callV hE (c_X5_carried1 cI cS a qq (nI j) j (show (nI j) = nI j from rfl) (by omega) ((qq 13) j)) mk_X5_carried mv_X5_carried ml_X5_246 dX5_restore_27 (As := [.int (nI j), .int ((qq 13) j), .int 1]) (rest := []) rfl rfl 0 rfl (show vwCl[5]? = some (RX5, TX5, 32) from rfl) (by decide) (by decide) (Nat.le_of_ble_eq_true rfl) (by decide) (by decide) [0, 1, 2, 3, 4, 5, 6, 7, 8, 9, 10, 11, 12, 13, 14, 15, 16, 17, 18] rfl (by decide) (fun u => Nat.le_of_ble_eq_true rfl) (ws' := fun u => modelW cI a (CU qq j ((qq 13) j))) (fun u => rfl) (fun u hu => ?_)
          obtain ⟨r_3, rfl⟩ : ∃ z, z = u := ⟨_, rfl⟩
          show Go E Q 2 0 0 30 [(0, .ref (a 0)), (1, .int (nI j))] [.int r_3] (modelW cI a (CU qq j ((qq 13) j)))
          refine g_pop hE dX5_restore_30 rfl ?_
          refine g_iinc hE dX5_restore_31 1 (nI (j + 1)) [(1, .int (nI (j + 1))), (0, .ref (a 0))] rfl (nI_1 _) (by decide) rfl ?_
          refine g_goto hE 12 dX5_restore_34 (by decide) ?_
          refine g_locals [1, 0] [(0, .ref (a 0)), (1, .int (nI (j + 1)))] rfl ?_
          exact ih_12 (j + 1) (CU qq j ((qq 13) j)) (by first | assumption | omega) (rs_step hq (by omega)) (by omega)
    refine g_locals [1, 0] [(0, .ref (a 0)), (1, .int 0)] rfl ?_
    exact L12 _ 0 q (Nat.zero_le _) rfl (Nat.lt_succ_self _)
  · refine g_bipush hE dX5_restore_7 (-4) (by decide) ?_
    exact g_iret hE hQ dX5_restore_9 rfl ((-4), q) rfl rfl ⟨(by rw [fgRestore, if_pos (hKQ.1.symm.trans (show (q 18 13) = 0 from c1))]), ⟨n, sv, pl, (by rw [fgRestore, if_pos (hKQ.1.symm.trans (show (q 18 13) = 0 from c1))]; exact hRQ)⟩, ⟨rfl, rfl, rfl, rfl, rfl, rfl, rfl⟩⟩
