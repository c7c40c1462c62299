/-! rows as numbers; the reference's search, pure -/
def tup (t : Nat → Nat) : Nat → Nat → List Nat
  | _, 0 => []
  | k, d + 1 => t k :: tup t (k + 1) d
theorem tup_len (t : Nat → Nat) : ∀ d k, (tup t k d).length = d
  | 0, _ => rfl
  | d + 1, k => congrArg (· + 1) (tup_len t d (k + 1))
theorem tup_at (t : Nat → Nat) : ∀ d k j, j < d → (tup t k d).getD j 0 = t (k + j)
  | 0, _, _, h => absurd h (Nat.not_lt_zero _)
  | d + 1, k, 0, _ => rfl
  | d + 1, k, j + 1, h => by
    show (tup t (k + 1) d).getD j 0 = t (k + (j + 1))
    rw [tup_at t d (k + 1) j (by omega)]
    congr 1; omega
theorem tup_self : ∀ (r : List Nat) (k : Nat) (f : Nat → Nat), (∀ j, j < r.length → f (k + j) = r.getD j 0) → tup f k r.length = r
  | [], _, _, _ => rfl
  | a :: r, k, f, h => by
    show f k :: tup f (k + 1) r.length = a :: r
    have h0 : f (k + 0) = a := h 0 (Nat.zero_lt_succ _)
    rw [show f k = a from h0, tup_self r (k + 1) f (fun j hj => by
      have h1 : f (k + (j + 1)) = r.getD j 0 := h (j + 1) (Nat.succ_lt_succ hj)
      rw [show k + 1 + j = k + (j + 1) by omega]; exact h1)]
theorem tup_lt {t : Nat → Nat} {sv : Nat} : ∀ {d k : Nat}, (∀ j, j < d → t (k + j) < sv) → ∀ s ∈ tup t k d, s < sv
  | 0, _, _, _, h => absurd h List.not_mem_nil
  | d + 1, k, h, s, hs => by
    rcases List.mem_cons.mp hs with e | e
    · rw [e]; exact h 0 (Nat.zero_lt_succ _)
    · exact tup_lt (d := d) (k := k + 1) (fun j hj => by rw [show k + 1 + j = k + (j + 1) by omega]; exact h (j + 1) (by omega)) s e
theorem getD_mem : ∀ (r : List Nat) (j : Nat), j < r.length → r.getD j 0 ∈ r
  | [], _, h => absurd h (Nat.not_lt_zero _)
  | a :: r, 0, _ => List.mem_cons_self
  | a :: r, j + 1, h => List.mem_cons_of_mem _ (getD_mem r j (Nat.lt_of_succ_lt_succ h))
def rkL (sv : Nat) : List Nat → Nat
  | [] => 0
  | a :: r => a * sv ^ r.length + rkL sv r
theorem rk_lt {sv : Nat} : ∀ r : List Nat, (∀ s ∈ r, s < sv) → rkL sv r < sv ^ r.length
  | [], _ => Nat.one_pos
  | a :: r, h => by
    have h1 := rk_lt r (fun s hs => h s (List.mem_cons_of_mem _ hs))
    have h2 : (a + 1) * sv ^ r.length ≤ sv * sv ^ r.length := Nat.mul_le_mul_right _ (h a List.mem_cons_self)
    rw [Nat.add_mul, Nat.one_mul] at h2
    show a * sv ^ r.length + rkL sv r < sv ^ (r.length + 1)
    rw [Nat.pow_succ, Nat.mul_comm (sv ^ r.length) sv]
    omega
theorem mul_sep {a b W x y : Nat} (hx : x < W) (h : b < a) : b * W + x < a * W + y := by
  have h2 : (b + 1) * W ≤ a * W := Nat.mul_le_mul_right _ h
  rw [Nat.add_mul, Nat.one_mul] at h2
  omega
theorem rk_LX {sv : Nat} : ∀ (r s : List Nat), r.length = s.length → (∀ x ∈ r, x < sv) → (∀ x ∈ s, x < sv) → rkL sv r < rkL sv s → LX r s
  | [], [], _, _, _, h => absurd h (Nat.lt_irrefl _)
  | [], _ :: _, h, _, _, _ => absurd h (by simp)
  | _ :: _, [], h, _, _, _ => absurd h (by simp)
  | a :: r, b :: s, hl, h1, h2, h => by
    have hl2 : r.length = s.length := Nat.succ.inj hl
    have r1 := rk_lt r (fun x hx => h1 x (List.mem_cons_of_mem _ hx))
    have s1 := rk_lt s (fun x hx => h2 x (List.mem_cons_of_mem _ hx))
    have h : a * sv ^ r.length + rkL sv r < b * sv ^ s.length + rkL sv s := h
    rw [← hl2] at h s1
    rcases Nat.lt_trichotomy a b with e | e | e
    · exact Or.inl e
    · subst e
      exact Or.inr ⟨rfl, rk_LX r s hl2 (fun x hx => h1 x (List.mem_cons_of_mem _ hx)) (fun x hx => h2 x (List.mem_cons_of_mem _ hx)) (by omega)⟩
    · have := mul_sep (y := rkL sv r) s1 e
      omega
theorem rk_inj {sv : Nat} : ∀ (r s : List Nat), r.length = s.length → (∀ x ∈ r, x < sv) → (∀ x ∈ s, x < sv) → rkL sv r = rkL sv s → r = s
  | [], [], _, _, _, _ => rfl
  | [], _ :: _, h, _, _, _ => absurd h (by simp)
  | _ :: _, [], h, _, _, _ => absurd h (by simp)
  | a :: r, b :: s, hl, h1, h2, h => by
    have hl2 : r.length = s.length := Nat.succ.inj hl
    have r1 := rk_lt r (fun x hx => h1 x (List.mem_cons_of_mem _ hx))
    have s1 := rk_lt s (fun x hx => h2 x (List.mem_cons_of_mem _ hx))
    have h : a * sv ^ r.length + rkL sv r = b * sv ^ s.length + rkL sv s := h
    rw [← hl2] at h s1
    rcases Nat.lt_trichotomy a b with e | e | e
    · have := mul_sep (y := rkL sv s) r1 e
      omega
    · subst e
      rw [rk_inj r s hl2 (fun x hx => h1 x (List.mem_cons_of_mem _ hx)) (fun x hx => h2 x (List.mem_cons_of_mem _ hx)) (by omega)]
    · have := mul_sep (y := rkL sv r) s1 e
      omega
theorem rk_max {t : Nat → Nat} {sv : Nat} : ∀ d k, (∀ j, k ≤ j → j < k + d → t j + 1 = sv) → rkL sv (tup t k d) + 1 = sv ^ d
  | 0, _, _ => rfl
  | d + 1, k, h => by
    have h1 := rk_max d (k + 1) (fun j h1 h2 => h j (by omega) (by omega))
    have h2 := h k (Nat.le_refl _) (by omega)
    show t k * sv ^ (tup t (k + 1) d).length + rkL sv (tup t (k + 1) d) + 1 = sv ^ (d + 1)
    rw [tup_len, Nat.pow_succ, Nat.mul_comm (sv ^ d) sv]
    have h3 : (t k + 1) * sv ^ d = sv * sv ^ d := by rw [h2]
    rw [Nat.add_mul, Nat.one_mul] at h3
    omega
theorem rk_zero {t : Nat → Nat} {sv : Nat} : ∀ d k, (∀ j, k ≤ j → j < k + d → t j = 0) → rkL sv (tup t k d) = 0
  | 0, _, _ => rfl
  | d + 1, k, h => by
    show t k * sv ^ (tup t (k + 1) d).length + rkL sv (tup t (k + 1) d) = 0
    rw [h k (Nat.le_refl _) (by omega), rk_zero d (k + 1) (fun j h1 h2 => h j (by omega) (by omega)), Nat.zero_mul]
theorem rk_pre {t u : Nat → Nat} {sv d : Nat} : ∀ a i, (∀ j, i ≤ j → j < i + a → t j = u j) → rkL sv (tup t i (a + d)) + rkL sv (tup u (i + a) d) = rkL sv (tup u i (a + d)) + rkL sv (tup t (i + a) d)
  | 0, i, _ => by rw [Nat.zero_add, Nat.add_zero, Nat.add_comm]
  | a + 1, i, h => by
    have ih := rk_pre (t := t) (u := u) (sv := sv) (d := d) a (i + 1) (fun j h1 h2 => h j (by omega) (by omega))
    rw [show i + 1 + a = i + (a + 1) by omega] at ih
    rw [show a + 1 + d = (a + d) + 1 by omega]
    show t i * sv ^ (tup t (i + 1) (a + d)).length + rkL sv (tup t (i + 1) (a + d)) + _ = u i * sv ^ (tup u (i + 1) (a + d)).length + rkL sv (tup u (i + 1) (a + d)) + _
    rw [tup_len, tup_len, h i (Nat.le_refl _) (by omega)]
    omega
/-- the row behind another one -/
theorem rk_next {t u : Nat → Nat} {sv n k : Nat} (hk : k < n) (h0 : ∀ j, j < k → u j = t j) (h1 : u k = t k + 1) (h2 : ∀ j, k < j → j < n → u j = 0) (h3 : ∀ j, k < j → j < n → t j + 1 = sv) : rkL sv (tup u 0 n) = rkL sv (tup t 0 n) + 1 := by
  have hp := rk_pre (t := u) (u := t) (sv := sv) (d := (n - k - 1) + 1) k 0 (fun j _ hj => h0 j (by omega))
  rw [show k + ((n - k - 1) + 1) = n by omega, Nat.zero_add] at hp
  have e1 : rkL sv (tup u k ((n - k - 1) + 1)) = (t k + 1) * sv ^ (n - k - 1) := by
    show u k * sv ^ (tup u (k + 1) (n - k - 1)).length + rkL sv (tup u (k + 1) (n - k - 1)) = _
    rw [tup_len, h1, rk_zero (n - k - 1) (k + 1) (fun j a b => h2 j (by omega) (by omega)), Nat.add_zero]
  have e2 : rkL sv (tup t k ((n - k - 1) + 1)) + 1 = (t k + 1) * sv ^ (n - k - 1) := by
    show t k * sv ^ (tup t (k + 1) (n - k - 1)).length + rkL sv (tup t (k + 1) (n - k - 1)) + 1 = _
    have := rk_max (t := t) (sv := sv) (n - k - 1) (k + 1) (fun j a b => h3 j (by omega) (by omega))
    rw [tup_len, Nat.add_mul, Nat.one_mul]
    omega
  omega
def NdF (t : Nat → Nat) (n : Nat) : Prop := ∀ i j, i < j → j < n → ¬ t i = t j
def Nd (r : List Nat) : Prop := NdF (fun j => r.getD j 0) r.length
def RowS (sv : Nat) (r : List Nat) : Prop := (∀ s ∈ r, s < sv) ∧ Nd r
def Dn (sv w R : Nat) (r : List Nat) : Prop := RowS sv r ∧ (r.length < w ∨ (r.length = w ∧ rkL sv r < R))
theorem nd_tup {t : Nat → Nat} {w : Nat} : Nd (tup t 0 w) ↔ NdF t w := by
  unfold Nd
  rw [tup_len]
  constructor
  · intro h i j hij hj e
    refine h i j hij hj ?_
    show (tup t 0 w).getD i 0 = (tup t 0 w).getD j 0
    rw [tup_at t w 0 i (by omega), tup_at t w 0 j hj, Nat.zero_add, Nat.zero_add, e]
  · intro h i j hij hj e
    refine h i j hij hj ?_
    have e : (tup t 0 w).getD i 0 = (tup t 0 w).getD j 0 := e
    rw [tup_at t w 0 i (by omega), tup_at t w 0 j hj, Nat.zero_add, Nat.zero_add] at e
    exact e
theorem Dn_0 {sv : Nat} (r : List Nat) : ¬ Dn sv 0 0 r := fun h => h.2.elim (Nat.not_lt_zero _) (fun q => Nat.not_lt_zero _ q.2)
theorem Dn_w {sv w : Nat} (r : List Nat) : Dn sv w (sv ^ w) r ↔ Dn sv (w + 1) 0 r := by
  constructor
  · rintro ⟨h1, h2⟩
    exact ⟨h1, Or.inl (by omega)⟩
  · rintro ⟨h1, h2⟩
    refine ⟨h1, ?_⟩
    have h3 : r.length < w + 1 := h2.elim id (fun q => absurd q.2 (Nat.not_lt_zero _))
    by_cases e : r.length = w
    · exact Or.inr ⟨e, by rw [← e]; exact rk_lt r h1.1⟩
    · exact Or.inl (by omega)
theorem Dn_y {sv w R : Nat} {t : Nat → Nat} (hR : R = rkL sv (tup t 0 w)) (ht : ∀ j, j < w → t j < sv) (h : NdF t w) (r : List Nat) : Dn sv w (R + 1) r ↔ Dn sv w R r ∨ r = tup t 0 w := by
  have hl : ∀ s ∈ tup t 0 w, s < sv := tup_lt (fun j hj => by rw [Nat.zero_add]; exact ht j hj)
  constructor
  · rintro ⟨h1, h2⟩
    by_cases e : r.length = w ∧ rkL sv r = R
    · exact Or.inr (rk_inj r _ (by rw [tup_len]; exact e.1) h1.1 hl (e.2.trans hR))
    · exact Or.inl ⟨h1, h2.elim Or.inl (fun q => Or.inr ⟨q.1, by omega⟩)⟩
  · rintro (⟨h1, h2⟩ | e)
    · exact ⟨h1, h2.elim Or.inl (fun q => Or.inr ⟨q.1, by omega⟩)⟩
    · rw [e]
      exact ⟨⟨hl, nd_tup.mpr h⟩, Or.inr ⟨tup_len _ _ _, by omega⟩⟩
theorem Dn_n {sv w R : Nat} {t : Nat → Nat} (hR : R = rkL sv (tup t 0 w)) (ht : ∀ j, j < w → t j < sv) (h : ¬ NdF t w) (r : List Nat) : Dn sv w (R + 1) r ↔ Dn sv w R r := by
  have hl : ∀ s ∈ tup t 0 w, s < sv := tup_lt (fun j hj => by rw [Nat.zero_add]; exact ht j hj)
  constructor
  · rintro ⟨h1, h2⟩
    refine ⟨h1, h2.elim Or.inl (fun q => Or.inr ⟨q.1, ?_⟩)⟩
    by_cases e : rkL sv r = R
    · have : r = tup t 0 w := rk_inj r _ (by rw [tup_len]; exact q.1) h1.1 hl (e.trans hR)
      exact absurd (nd_tup.mp (this ▸ h1.2)) h
    · omega
  · rintro ⟨h1, h2⟩
    exact ⟨h1, h2.elim Or.inl (fun q => Or.inr ⟨q.1, by omega⟩)⟩
theorem Dn_bef {sv w R : Nat} {t : Nat → Nat} (hR : R = rkL sv (tup t 0 w)) (ht : ∀ j, j < w → t j < sv) {r : List Nat} (h : Dn sv w R r) : BtP r (tup t 0 w) := by
  have hl : ∀ s ∈ tup t 0 w, s < sv := tup_lt (fun j hj => by rw [Nat.zero_add]; exact ht j hj)
  unfold BtP
  rw [tup_len]
  rcases h.2 with e | e
  · exact Or.inl e
  · exact Or.inr ⟨e.1, rk_LX r _ (by rw [tup_len]; exact e.1) h.1.1 hl (by rw [← hR]; exact e.2)⟩
/-- the first row of the highest value among those of D -/
def GI (V : List Nat → Int32) (D : List Nat → Prop) (va le : Int32) (C : Nat → Int32) : Prop := (va = -1 ∧ le = -4 ∧ ∀ d, D d → V d ≤ -1) ∨ ∃ b, D b ∧ -1 < V b ∧ va = V b ∧ le = nI b.length ∧ b.length ≤ 4 ∧ (∀ j, j < b.length → C j = nI (b.getD j 0)) ∧ ∀ r, D r → r = b ∨ V r < V b ∨ (V r = V b ∧ BtP b r)
theorem GI_take {V : List Nat → Int32} {D D' : List Nat → Prop} {va le : Int32} {C C' : Nat → Int32} {c : List Nat} (h : GI V D va le C) (hc : c.length ≤ 4) (hv : va < V c) (hC : ∀ j, j < c.length → C' j = nI (c.getD j 0)) (hD : ∀ r, D' r ↔ D r ∨ r = c) : GI V D' (V c) (nI c.length) C' := by
  have up : ∀ r, D r → V r < V c := by
    intro r hr
    rcases h with ⟨h1, -, h3⟩ | ⟨b, -, -, h3, -, -, -, h7⟩
    · rw [h1] at hv
      exact Int32.lt_of_le_of_lt (h3 r hr) hv
    · rw [h3] at hv
      rcases h7 r hr with e | e | e
      · rw [e]; exact hv
      · exact Int32.lt_trans e hv
      · rw [e.1]; exact hv
  refine Or.inr ⟨c, (hD c).mpr (Or.inr rfl), ?_, rfl, rfl, hc, hC, fun r hr => ?_⟩
  · rcases h with ⟨h1, -, -⟩ | ⟨b, -, h2, h3, -⟩
    · rw [h1] at hv; exact hv
    · rw [h3] at hv; exact Int32.lt_trans h2 hv
  · rcases (hD r).mp hr with e | e
    · exact Or.inr (Or.inl (up r e))
    · exact Or.inl e
theorem GI_skip {V : List Nat → Int32} {D D' : List Nat → Prop} {va le : Int32} {C : Nat → Int32} {c : List Nat} (h : GI V D va le C) (hv : ¬ va < V c) (hb : ∀ d, D d → BtP d c) (hD : ∀ r, D' r ↔ D r ∨ r = c) : GI V D' va le C := by
  rcases h with ⟨h1, h2, h3⟩ | ⟨b, h1, h2, h3, h4, h5, h6, h7⟩
  · refine Or.inl ⟨h1, h2, fun d hd => ?_⟩
    rcases (hD d).mp hd with e | e
    · exact h3 d e
    · rw [e, ← h1]; exact Int32.not_lt.mp hv
  · refine Or.inr ⟨b, (hD b).mpr (Or.inl h1), h2, h3, h4, h5, h6, fun r hr => ?_⟩
    rcases (hD r).mp hr with e | e
    · exact h7 r e
    · subst e
      rw [h3] at hv
      have hv := Int32.not_lt.mp hv
      by_cases e : V r = V b
      · exact Or.inr (Or.inr ⟨e, hb b h1⟩)
      · refine Or.inr (Or.inl ?_)
        rw [Int32.le_iff_toInt_le] at hv
        rw [Int32.lt_iff_toInt_lt]
        have : (V r).toInt ≠ (V b).toInt := fun q => e (Int32.toInt_inj.mp q)
        omega
theorem GI_same {V : List Nat → Int32} {D D' : List Nat → Prop} {va le : Int32} {C : Nat → Int32} (h : GI V D va le C) (hD : ∀ r, D' r ↔ D r) : GI V D' va le C := by
  rcases h with ⟨h1, h2, h3⟩ | ⟨b, h1, h2, h3, h4, h5, h6, h7⟩
  · exact Or.inl ⟨h1, h2, fun d hd => h3 d ((hD d).mp hd)⟩
  · exact Or.inr ⟨b, (hD b).mpr h1, h2, h3, h4, h5, h6, fun r hr => h7 r ((hD r).mp hr)⟩
theorem GI_0 {V : List Nat → Int32} {sv : Nat} {C : Nat → Int32} : GI V (Dn sv 0 0) (-1) (-4) C := Or.inl ⟨rfl, rfl, fun d hd => absurd hd (Dn_0 d)⟩
/-! what falls through a sieve falls through it again -/
theorem fall_again {m : MS} {n c c2 : Nat} {s : Int32} (hn : n ≤ 6) (hh : ¬ atv (m 5) 8 s < 0) (h2 : c2 < 64) (hc : c < 64) (hg : ∀ g, c2.testBit g = true → g < n) (h : ∀ g, c2.testBit g = true → (fallS m n s c).testBit g = true) : fallS m n s c2 = c2 := by
  have hb : bigS m s c2 n = 0 := by
    refine set_ext (a := bigS m s c2 n) (bs_lt64 _ hn) (by decide) ?_
    intro g hg6
    rw [Nat.zero_testBit]
    by_cases e : g < n
    · rw [big_bit e]
      by_cases q : c2.testBit g = true
      · by_cases k : chkP m n s c
        · have := h g q
          rw [fall_ch k, Nat.zero_testBit] at this
          exact absurd this (by decide)
        · have := h g q
          rw [fal_bit k e, Bool.and_eq_true] at this
          rw [this.2]; simp
      · rw [Bool.eq_false_iff.mpr q]; rfl
    · unfold bigS
      rw [bs_bit, decide_eq_false e]; rfl
  have ha : aS (m 1) 0 n = 0 := aS_none (fun g _ => by simp)
  unfold fallS
  rw [hb, ha, if_neg hh]
  unfold nd
  rw [Nat.and_zero, Nat.xor_zero]
theorem pr_mem {m : MS} {n sv : Nat} (hn : n ≤ 6) : ∀ {r : List Nat} {c s : Nat}, c < 64 → PrR m n sv c r → s ∈ r → ∃ c2, c2 < 64 ∧ (∀ g, c2.testBit g = true → c.testBit g = true) ∧ ¬ fallS m n (nI s) c2 = c2
  | [], _, _, _, _, h => absurd h List.not_mem_nil
  | a :: r, c, s, hc, hp, h => by
    rcases List.mem_cons.mp h with e | e
    · subst e
      exact ⟨c, hc, fun _ q => q, hp.2.1⟩
    · obtain ⟨c2, h1, h2, h3⟩ := pr_mem hn (fallS_lt hn hc) hp.2.2 e
      exact ⟨c2, h1, fun g q => fall_bit m n (nI a) c g (h2 g q), h3⟩
theorem pr_nd {m : MS} {n sv : Nat} (hn : n ≤ 6) (hH : ∀ s, s < sv → ¬ atv (m 5) 8 (nI s) < 0) : ∀ {r : List Nat} {c : Nat}, c < 64 → (∀ g, c.testBit g = true → g < n) → PrR m n sv c r → Nd r
  | [], _, _, _, _ => fun i j _ hj => absurd hj (Nat.not_lt_zero _)
  | a :: r, c, hc, hg, hp => by
    have hr := pr_nd hn hH (fallS_lt hn hc) (fun g q => hg g (fall_bit m n (nI a) c g q)) hp.2.2
    have ha : a ∉ r := by
      intro q
      obtain ⟨c2, h1, h2, h3⟩ := pr_mem hn (fallS_lt hn hc) hp.2.2 q
      exact h3 (fall_again hn (hH a hp.1) h1 hc (fun g q => hg g (fall_bit m n (nI a) c g (h2 g q))) h2)
    intro i j hij hj
    cases j with
    | zero => exact absurd hij (Nat.not_lt_zero _)
    | succ j =>
      have hj : j < r.length := Nat.lt_of_succ_lt_succ hj
      cases i with
      | zero => exact fun e => ha (by have e : a = r.getD j 0 := e; rw [e]; exact getD_mem r j hj)
      | succ i => exact hr i j (Nat.lt_of_succ_lt_succ hij) hj
theorem ld_n {m : MS} {n g : Nat} (h : (ldS m n).testBit g = true) : g < n := by
  unfold ldS at h
  rw [bs_bit, Bool.and_eq_true] at h
  exact of_decide_eq_true h.1
theorem rg_hold {m : MS} {n sv pl : Nat} (hG : RG m n sv pl) (hsv : sv ≤ 8) : ∀ s, s < sv → ¬ atv (m 5) 8 (nI s) < 0 := by
  intro s hs
  rw [atv_n (by omega) (by decide)]
  exact Int32.not_lt.mpr (Int32.le_trans (by decide) (hG.2.1 s hs).2.2.2.2.1)
theorem row_len {sv : Nat} {r : List Nat} (h : RowS sv r) (hl : r.length ≤ 4) : r.length ≤ sv := by
  apply Decidable.byContradiction
  intro q
  have b : ∀ j, j < r.length → r.getD j 0 < sv := fun j hj => h.1 _ (getD_mem r j hj)
  have d : ∀ i j, i < j → j < r.length → ¬ r.getD i 0 = r.getD j 0 := h.2
  rcases (show sv = 0 ∨ sv = 1 ∨ sv = 2 ∨ sv = 3 by omega) with e | e | e | e
  · have := b 0 (by omega); omega
  · have := b 0 (by omega); have := b 1 (by omega); have := d 0 1 (by omega) (by omega); omega
  · have := b 0 (by omega); have := b 1 (by omega); have := b 2 (by omega); have := d 0 1 (by omega) (by omega); have := d 0 2 (by omega) (by omega); have := d 1 2 (by omega) (by omega); omega
  · have := b 0 (by omega); have := b 1 (by omega); have := b 2 (by omega); have := b 3 (by omega); have := d 0 1 (by omega) (by omega); have := d 0 2 (by omega) (by omega); have := d 1 2 (by omega) (by omega); have := d 0 3 (by omega) (by omega); have := d 1 3 (by omega) (by omega); have := d 2 3 (by omega) (by omega); omega
/-- all rows, when the search ends -/
theorem Dn_all {sv w L : Nat} (hL : L ≤ 4) (h1 : w ≤ L + 1) (h2 : L < w ∨ sv < w) (r : List Nat) : RowS sv r ∧ r.length ≤ L ↔ Dn sv w 0 r ∧ r.length ≤ L := by
  constructor
  · rintro ⟨a, b⟩
    have := row_len a (by omega)
    exact ⟨⟨a, Or.inl (by omega)⟩, b⟩
  · rintro ⟨a, b⟩
    exact ⟨a.1, b⟩
theorem aS_nn {m : MS} {n s : Nat} (h : ∀ g, g < n → 0 ≤ m 1 g ∧ m 1 g ≤ 9999) : ∀ k, k ≤ n → k ≤ 6 → ∃ A, A ≤ 9999 * k ∧ aS (m 1) s k = nI A
  | 0, _, _ => ⟨0, by omega, rfl⟩
  | k + 1, hk, h6 => by
    obtain ⟨A, a1, a2⟩ := aS_nn h k (by omega) (by omega)
    obtain ⟨j, j1, j2, j3⟩ := rng_n (a := 0) (b := 9999) (h k (by omega)).1 (h k (by omega)).2 rfl rfl (by decide) (by decide)
    rw [aS]
    split
    · exact ⟨A + j, by omega, by rw [a2, j3, nI_add]⟩
    · exact ⟨A, by omega, a2⟩
theorem lS_nn {m : MS} {n s : Nat} (h : ∀ g, g < n → 0 ≤ m 2 g ∧ m 2 g ≤ 99) : ∀ k, k ≤ n → ∃ A, A ≤ 99 ∧ lS (m 2) s k = nI A
  | 0, _ => ⟨99, by omega, rfl⟩
  | k + 1, hk => by
    obtain ⟨A, a1, a2⟩ := lS_nn h k (by omega)
    obtain ⟨j, j1, j2, j3⟩ := rng_n (a := 0) (b := 99) (h k (by omega)).1 (h k (by omega)).2 rfl rfl (by decide) (by decide)
    rw [lS]
    split
    · split
      · exact ⟨j, j2, j3⟩
      · exact ⟨A, a1, a2⟩
    · exact ⟨A, a1, a2⟩
theorem wS_nn {m : MS} {n sv pl s : Nat} (hG : RG m n sv pl) (hn : n ≤ 6) : -1 < wS m n s := by
  obtain ⟨A, a1, a2⟩ := aS_nn (m := m) (s := s) (fun g hg => ⟨(hG.1 g hg).2.2.1, (hG.1 g hg).2.2.2.1⟩) n (Nat.le_refl _) hn
  obtain ⟨P, p1, p2⟩ := lS_nn (m := m) (s := s) (fun g hg => (hG.1 g hg).2.2.2.2) n (Nat.le_refl _)
  unfold wS
  rw [a2, p2, nI_imul]
  have : A * P ≤ 59994 * 99 := Nat.mul_le_mul (by omega) p1
  have h0 : ¬ nI (A * P) < 0 := nI_nneg (by omega)
  exact Int32.lt_of_lt_of_le (by decide) (Int32.not_lt.mp h0)
theorem fb_best {m : MS} {n sv pl L w : Nat} {va le : Int32} {C : Nat → Int32} (hG : RG m n sv pl) (hn : n ≤ 6) (hsv : sv ≤ 8) (hL : L ≤ 4) (h1 : w ≤ L + 1) (h2 : L < w ∨ sv < w) (h : GI (VR m n) (Dn sv w 0) va le C) : ∃ b, BestOf m n sv L b ∧ va = VR m n b ∧ le = nI b.length ∧ ∀ j, j < b.length → C j = nI (b.getD j 0) := by
  have hin : ∀ r, RowS sv r → r.length ≤ L → Dn sv w 0 r := fun r a b => ((Dn_all hL h1 h2 r).mp ⟨a, b⟩).1
  have hle : ∀ r, Dn sv w 0 r → r.length ≤ L := fun r hr => by
    rcases hr.2 with e | e
    · omega
    · exact absurd e.2 (Nat.not_lt_zero _)
  rcases h with ⟨-, -, h3⟩ | ⟨b, k1, k2, k3, k4, k5, k6, k7⟩
  · have := h3 [] (hin [] ⟨fun s hs => absurd hs List.not_mem_nil, fun i j _ hj => absurd hj (Nat.not_lt_zero _)⟩ (Nat.zero_le _))
    exact absurd (Int32.not_lt.mpr this) (fun q => q (wS_nn hG hn))
  · have hpr : ∀ r, r.length ≤ L → (∀ s ∈ r, s < sv) → ∃ t, Dn sv w 0 t ∧ PrR m n sv (ldS m n) t ∧ VR m n t = VR m n r ∧ (t = r ∨ t.length < r.length) := by
      intro r hr hs
      obtain ⟨t, t1, t2, t3, t4, t5⟩ := pr_of m n sv r (ldS m n) hs
      exact ⟨t, hin t ⟨pr_lt t1, pr_nd hn (rg_hold hG hsv) (bs_lt64 _ hn) (fun g q => ld_n q) t1⟩ (by omega), t1, t2, t4⟩
    refine ⟨b, ⟨hle b k1, k1.1.1, ?_, ?_⟩, k3, k4, k6⟩
    · obtain ⟨t, t1, t2, t3, t4⟩ := hpr b (hle b k1) k1.1.1
      rcases t4 with e | e
      · rw [← e]; exact t2
      · rcases k7 t t1 with q | q | q
        · rw [q] at e; exact absurd e (Nat.lt_irrefl _)
        · rw [t3] at q; exact absurd q Int32.lt_irrefl
        · rcases q.2 with z | z <;> omega
    · intro r hr hs
      obtain ⟨t, t1, t2, t3, t4⟩ := hpr r hr hs
      rcases t4 with e | e
      · subst e
        rcases k7 t t1 with q | q | q
        · exact Or.inl q
        · exact Or.inr (Or.inl (Int32.lt_iff_toInt_lt.mp q))
        · exact Or.inr (Or.inr ⟨by rw [q.1], q.2⟩)
      · refine Or.inr ?_
        rcases k7 t t1 with q | q | q
        · subst q
          exact Or.inr ⟨by rw [t3], Or.inl e⟩
        · exact Or.inl (by rw [← t3]; exact Int32.lt_iff_toInt_lt.mp q)
        · refine Or.inr ⟨by rw [← t3, q.1], Or.inl ?_⟩
          rcases q.2 with z | z <;> omega
noncomputable def V1 (m : MS) (n aps : Nat) (r : List Nat) : Int32 := @ite Int32 (okR m n aps (ldS m n) r) (Classical.propDecidable _) 1 (-1)
theorem V1_y {m : MS} {n aps : Nat} {r : List Nat} (h : okR m n aps (ldS m n) r) : V1 m n aps r = 1 := if_pos h
theorem V1_n {m : MS} {n aps : Nat} {r : List Nat} (h : ¬ okR m n aps (ldS m n) r) : V1 m n aps r = -1 := if_neg h
theorem V1_ok {m : MS} {n aps : Nat} {r : List Nat} (h : -1 < V1 m n aps r) : okR m n aps (ldS m n) r := by
  apply Classical.byContradiction
  intro q
  rw [V1_n q] at h
  exact absurd h Int32.lt_irrefl
theorem prp_pr {m : MS} {n sv aps : Nat} : ∀ {r : List Nat} {c : Nat}, PrP m n sv aps c r → PrR m n sv c r
  | [], _, _ => trivial
  | a :: r, c, h => ⟨h.1, fun e => h.2.1 (Or.inl e), prp_pr h.2.2⟩
theorem fb_part {m : MS} {n sv pl w aps : Nat} {va le : Int32} {C : Nat → Int32} (hG : RG m n sv pl) (hn : n ≤ 6) (hsv : sv ≤ 8) (h1 : w ≤ 5) (h2 : 4 < w ∨ sv < w) (h : GI (V1 m n aps) (Dn sv w 0) va le C) : (NoPart m n sv aps ∧ le = -4) ∨ ∃ b, PartOf m n sv aps b ∧ le = nI b.length ∧ ∀ j, j < b.length → C j = nI (b.getD j 0) := by
  have hin : ∀ r, RowS sv r → r.length ≤ 4 → Dn sv w 0 r := fun r a b => ((Dn_all (L := 4) (by decide) h1 h2 r).mp ⟨a, b⟩).1
  have hle : ∀ r, Dn sv w 0 r → r.length ≤ 4 := fun r hr => by
    rcases hr.2 with e | e
    · omega
    · exact absurd e.2 (Nat.not_lt_zero _)
  have hpr : ∀ r, r.length ≤ 4 → (∀ s ∈ r, s < sv) → okR m n aps (ldS m n) r → ∃ t, Dn sv w 0 t ∧ okR m n aps (ldS m n) t ∧ (t = r ∨ t.length < r.length) := by
    intro r hr hs hk
    obtain ⟨t, t1, t2, t3⟩ := ok_pr m n sv aps r (ldS m n) hs hk
    obtain ⟨p1, p2⟩ := pr_ok t1
    exact ⟨t, hin t ⟨p2, pr_nd hn (rg_hold hG hsv) (bs_lt64 _ hn) (fun g q => ld_n q) (prp_pr t1)⟩ (by omega), p1, t3⟩
  rcases h with ⟨-, h4, h3⟩ | ⟨b, k1, k2, k3, k4, k5, k6, k7⟩
  · refine Or.inl ⟨fun r hr hs hk => ?_, h4⟩
    obtain ⟨t, t1, t2, -⟩ := hpr r hr hs hk
    have := h3 t t1
    rw [V1_y t2] at this
    exact absurd this (by decide)
  · have hb := V1_ok k2
    refine Or.inr ⟨b, ⟨k5, k1.1.1, hb, ?_⟩, k4, k6⟩
    intro r hr hs hk
    obtain ⟨t, t1, t2, t3⟩ := hpr r hr hs hk
    have hq : t = b ∨ BtP b t := by
      rcases k7 t t1 with q | q | q
      · exact Or.inl q
      · rw [V1_y t2, V1_y hb] at q; exact absurd q Int32.lt_irrefl
      · exact Or.inr q.2
    rcases t3 with e | e
    · subst e; exact hq
    · refine Or.inr (Or.inl ?_)
      rcases hq with q | q
      · subst q; exact e
      · rcases q with z | z <;> omega
theorem take_snoc : ∀ (c : List Nat) (k : Nat), k < c.length → c.take (k + 1) = c.take k ++ [c.getD k 0]
  | [], _, h => absurd h (Nat.not_lt_zero _)
  | a :: c, 0, _ => by simp
  | a :: c, k + 1, h => by
    show a :: c.take (k + 1) = a :: (c.take k ++ [c.getD k 0])
    rw [take_snoc c k (Nat.lt_of_succ_lt_succ h)]
theorem cm_cR {m : MS} {n : Nat} (c : List Nat) : ∀ k, k ≤ c.length → cmS m n (rowF c) k = cR m n (ldS m n) (c.take k)
  | 0, _ => by simp [cmS, cR]
  | k + 1, h => by rw [cmS, cm_cR c k (by omega), take_snoc c k (by omega), cR_snoc]; rfl
theorem vS_xR {m : MS} {n : Nat} (c : List Nat) : ∀ k, k ≤ c.length → vS m n (rowF c) c.length k = xR m n (ldS m n) (c.take k)
  | 0, _ => by simp [vS, xR]
  | k + 1, h => by
    rw [vS, vS_xR c k (by omega), take_snoc c k (by omega), xR_snoc, hpS, if_pos (by omega), cm_cR c k (by omega), cm_cR c (k + 1) (by omega), take_snoc c k (by omega), cR_snoc]
theorem vS_VR {m : MS} {n : Nat} (c : List Nat) : vS m n (rowF c) c.length (c.length + 1) = VR m n c := by
  rw [vS, vS_xR c c.length (Nat.le_refl _), hpS, if_neg (Nat.lt_irrefl _), cm_cR c c.length (Nat.le_refl _), List.take_length]
  unfold VR
  rw [vR_eq]
theorem ok_iff {m : MS} {n aps : Nat} : ∀ (r : List Nat) (c : Nat), okR m n aps c r ↔ (∀ k, k < r.length → ¬ 1 < bcS (nd (cR m n c (r.take k)) (cR m n c (r.take (k + 1))) &&& aps)) ∧ ¬ 1 < bcS (cR m n c r &&& aps)
  | [], c => ⟨fun h => ⟨fun k hk => absurd hk (Nat.not_lt_zero _), h⟩, fun h => h.2⟩
  | s :: r, c => by
    have ih := ok_iff (m := m) (n := n) (aps := aps) r (fallS m n (nI s) c)
    constructor
    · rintro ⟨h1, h2⟩
      obtain ⟨h3, h4⟩ := ih.mp h2
      refine ⟨fun k hk => ?_, h4⟩
      cases k with
      | zero => exact h1
      | succ k => exact h3 k (Nat.lt_of_succ_lt_succ hk)
    · rintro ⟨h1, h2⟩
      exact ⟨h1 0 (Nat.zero_lt_succ _), ih.mpr ⟨fun k hk => h1 (k + 1) (Nat.succ_lt_succ hk), h2⟩⟩
theorem ok_hp {m : MS} {n aps : Nat} (c : List Nat) : okR m n aps (ldS m n) c ↔ ∀ k, k ≤ c.length → ¬ 1 < bcS (hpS m n (rowF c) c.length k &&& aps) := by
  rw [ok_iff]
  have e1 : ∀ k, k < c.length → hpS m n (rowF c) c.length k = nd (cR m n (ldS m n) (c.take k)) (cR m n (ldS m n) (c.take (k + 1))) := fun k hk => by
    rw [hpS, if_pos hk, cm_cR c k (by omega), cm_cR c (k + 1) hk]
  have e2 : hpS m n (rowF c) c.length c.length = cR m n (ldS m n) c := by
    rw [hpS, if_neg (Nat.lt_irrefl _), cm_cR c _ (Nat.le_refl _), List.take_length]
  constructor
  · rintro ⟨h1, h2⟩ k hk
    by_cases e : k < c.length
    · rw [e1 k e]; exact h1 k e
    · rw [show k = c.length by omega, e2]; exact h2
  · intro h
    exact ⟨fun k hk => by rw [← e1 k hk]; exact h k (by omega), by rw [← e2]; exact h _ (Nat.le_refl _)⟩
theorem bc_2 : ∀ s, s < 64 → (1 < bcS s ↔ ∃ b, b < 6 ∧ ∃ a, a < b ∧ s.testBit a = true ∧ s.testBit b = true) := by decide +kernel
/-- grains of a set in unlike heaps, among the first k -/
def PD (m : MS) (n : Nat) (row : Nat → Int32) (l aps k : Nat) : Prop := ∀ a b, a < b → b < k → aps.testBit a = true → aps.testBit b = true → ∀ j, j ≤ l → hA m n row l l a = nI j → ¬ hA m n row l l b = nI j
theorem PD_ok {m : MS} {n aps : Nat} {c : List Nat} (hn : n ≤ 6) (hc : c.length ≤ 6) (ha : aps < 64) : PD m n (rowF c) c.length aps n ↔ okR m n aps (ldS m n) c := by
  rw [ok_hp]
  constructor
  · intro h k hk q
    obtain ⟨b, b6, a, ab, t1, t2⟩ := (bc_2 _ (and_lt (hpS_lt hn) ha)).mp q
    rw [Nat.testBit_and, Bool.and_eq_true] at t1 t2
    have bn := hp_n t2.1
    exact h a b ab bn t1.2 t2.2 k hk ((hp_in hc hk (by omega)).mpr t1.1) ((hp_in hc hk bn).mpr t2.1)
  · intro h a b ab bn t1 t2 j hj e1 e2
    refine h j hj ((bc_2 _ (and_lt (hpS_lt hn) ha)).mpr ⟨b, by omega, a, ab, ?_, ?_⟩)
    · rw [Nat.testBit_and, t1, (hp_in hc hj (by omega)).mp e1]; rfl
    · rw [Nat.testBit_and, t2, (hp_in hc hj bn).mp e2]; rfl
