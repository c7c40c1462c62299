/-! the reference: heaps, wear, a try -/
theorem hA_inv {m : MS} {n : Nat} {row : Nat → Int32} {l g k : Nat} (hl : l ≤ 6) (hk : k ≤ l) : ∀ {j : Nat}, j ≤ l → hA m n row l j g = nI k → (k < j ∧ (cmS m n row k).testBit g = true ∧ (cmS m n row (k + 1)).testBit g = false) ∨ k = l
  | 0, _, h => by
    unfold hA at h
    split at h
    · rw [nI_eq (by omega) (by omega)] at h; exact Or.inr h.symm
    · exact absurd h (by have : ∀ k, k ≤ 6 → ¬ (-4 : Int32) = nI k := by decide
                         exact this k (by omega))
  | j + 1, hj, h => by
    unfold hA at h
    split at h
    · rename_i hc
      rw [nI_eq (by omega) (by omega)] at h
      subst h
      exact Or.inl ⟨by omega, hc⟩
    · rcases hA_inv hl hk (by omega) h with q | q
      · exact Or.inl ⟨by omega, q.2⟩
      · exact Or.inr q
theorem hA_st {m : MS} {n : Nat} {row : Nat → Int32} {l g k : Nat} (h1 : (cmS m n row k).testBit g = true) (h2 : (cmS m n row (k + 1)).testBit g = false) : ∀ d, hA m n row l (k + 1 + d) g = nI k ∧ (cmS m n row (k + 1 + d)).testBit g = false
  | 0 => ⟨if_pos ⟨h1, h2⟩, h2⟩
  | d + 1 => by
    have ihd := hA_st (l := l) h1 h2 d
    refine ⟨?_, ?_⟩
    · show (if (cmS m n row (k + 1 + d)).testBit g = true ∧ (cmS m n row (k + 1 + d + 1)).testBit g = false then nI (k + 1 + d) else hA m n row l (k + 1 + d) g) = nI k
      rw [if_neg (fun q => by rw [ihd.2] at q; exact absurd q.1 (by decide))]
      exact ihd.1
    · cases hq : (cmS m n row (k + 1 + (d + 1))).testBit g with
      | false => rfl
      | true => have := fall_sub (g := g) (show (fallS m n (row (k + 1 + d)) (cmS m n row (k + 1 + d))).testBit g = true from hq); rw [ihd.2] at this; exact absurd this (by decide)
/-- a grain is in the heap that its place tells -/
theorem hp_in {m : MS} {n : Nat} {row : Nat → Int32} {l g k : Nat} (hl : l ≤ 6) (hk : k ≤ l) (hg : g < n) : hA m n row l l g = nI k ↔ (hpS m n row l k).testBit g = true := by
  unfold hpS
  constructor
  · intro h
    by_cases e : k = l
    · subst e
      rw [if_neg (by omega)]
      cases q : (cmS m n row k).testBit g
      · exact absurd h (hA_out hg hl (Nat.le_refl _) q)
      · rfl
    · rcases hA_inv hl hk (Nat.le_refl _) h with q | q
      · rw [if_pos q.1, nd_bit, q.2.1, q.2.2]; rfl
      · exact absurd q e
  · intro h
    by_cases e : k = l
    · subst e
      rw [if_neg (by omega)] at h
      exact hA_in hg h
    · rw [if_pos (by omega), nd_bit] at h
      have h1 : (cmS m n row k).testBit g = true := by revert h; cases (cmS m n row k).testBit g <;> simp
      have h2 : (cmS m n row (k + 1)).testBit g = false := by revert h; cases (cmS m n row (k + 1)).testBit g <;> simp
      have := (hA_st (l := l) h1 h2 (l - (k + 1))).1
      rw [show k + 1 + (l - (k + 1)) = l by omega] at this
      exact this
theorem hp_n {m : MS} {n : Nat} {row : Nat → Int32} {l g k : Nat} (h : (hpS m n row l k).testBit g = true) : g < n := by
  unfold hpS at h
  split at h
  · rw [nd_bit] at h
    have h1 : (cmS m n row k).testBit g = true := by revert h; cases (cmS m n row k).testBit g <;> simp
    exact cm_lt h1
  · exact cm_lt h
theorem bs_self {s n : Nat} (h : ∀ g, s.testBit g = true → g < n) : bs (fun g => s.testBit g) n = s := by
  apply Nat.eq_of_testBit_eq
  intro g
  rw [bs_bit]
  cases q : s.testBit g
  · simp
  · rw [decide_eq_true (h g q)]; rfl
theorem gs_y {s g : Nat} {z : Int32} (hz : z = nI (bs (fun g => s.testBit g) g)) (hg : g < 6) (h : s.testBit g = true) : z ||| ((1 : Int32) <<< (nI g &&& 31)) = nI (bs (fun g => s.testBit g) (g + 1)) := by
  rw [or_bit hz (bs_lt _ g) (by omega), bs, if_pos h]
theorem gs_n {s g : Nat} {z : Int32} (hz : z = nI (bs (fun g => s.testBit g) g)) (h : ¬ s.testBit g = true) : z ||| 0 = nI (bs (fun g => s.testBit g) (g + 1)) := by
  rw [Int32.or_zero, hz, bs, if_neg h]; simp
theorem as_y {f : Nat → Int32} {s g : Nat} {z v : Int32} (hz : z = aS f s g) (hv : v = f g) (h : s.testBit g = true) : z + v = aS f s (g + 1) := by rw [aS, if_pos h, hz, hv]
theorem as_n {f : Nat → Int32} {s g : Nat} {z : Int32} (hz : z = aS f s g) (h : ¬ s.testBit g = true) : z + 0 = aS f s (g + 1) := by rw [Int32.add_zero, aS, if_neg h, hz]
/-- the least price in a set, 100 of none -/
def lQ (f : Nat → Int32) (s : Nat) : Nat → Int32
  | 0 => 100
  | k + 1 => if s.testBit k = true ∧ f k < lQ f s k then f k else lQ f s k
theorem lq_y {f : Nat → Int32} {s g : Nat} {y v : Int32} (hy : y = lQ f s g) (hv : v = f g) (h1 : s.testBit g = true) (h2 : v < y) : v = lQ f s (g + 1) := by
  rw [lQ, if_pos ⟨h1, by rw [← hy, ← hv]; exact h2⟩, hv]
theorem lq_n1 {f : Nat → Int32} {s g : Nat} {y v : Int32} (hy : y = lQ f s g) (hv : v = f g) (h2 : ¬ v < y) : y = lQ f s (g + 1) := by
  rw [lQ, if_neg (fun q => h2 (by rw [hy, hv]; exact q.2)), hy]
theorem lq_n2 {f : Nat → Int32} {s g : Nat} {y : Int32} (hy : y = lQ f s g) (h1 : ¬ s.testBit g = true) : y = lQ f s (g + 1) := by
  rw [lQ, if_neg (fun q => h1 q.1), hy]
theorem aS_none {f : Nat → Int32} {s : Nat} : ∀ {k : Nat}, (∀ g, g < k → ¬ s.testBit g = true) → aS f s k = 0
  | 0, _ => rfl
  | k + 1, h => by rw [aS, if_neg (h k (by omega))]; exact aS_none (fun g hg => h g (by omega))
theorem lq_ls {f : Nat → Int32} {s : Nat} : ∀ {k : Nat}, (∀ g, g < k → f g ≤ 99) → (lQ f s k = lS f s k ∧ lQ f s k ≤ 99) ∨ ((∀ g, g < k → ¬ s.testBit g = true) ∧ lQ f s k = 100 ∧ lS f s k = 99)
  | 0, _ => Or.inr ⟨fun g hg => absurd hg (Nat.not_lt_zero _), rfl, rfl⟩
  | k + 1, h => by
    have hk := h k (by omega)
    by_cases hb : s.testBit k = true
    · rcases lq_ls (s := s) (fun g hg => h g (Nat.lt_succ_of_lt hg)) with ⟨e, el⟩ | ⟨e1, e2, e3⟩
      · left
        rw [lQ, lS, if_pos hb]
        by_cases hc : f k < lQ f s k
        · rw [if_pos ⟨hb, hc⟩, if_pos (by rw [← e]; exact hc)]
          exact ⟨rfl, hk⟩
        · rw [if_neg (fun q => hc q.2), if_neg (by rw [← e]; exact hc)]
          exact ⟨e, el⟩
      · left
        rw [lQ, lS, if_pos hb, e2, e3]
        have h100 : f k < 100 := Int32.lt_of_le_of_lt hk (by decide)
        rw [if_pos ⟨hb, h100⟩]
        refine ⟨?_, hk⟩
        by_cases hc : f k < 99
        · rw [if_pos hc]
        · rw [if_neg hc]; exact Int32.le_antisymm hk (Int32.not_lt.mp hc)
    · rw [lQ, lS, if_neg hb, if_neg (fun q => hb q.1)]
      rcases lq_ls (s := s) (fun g hg => h g (Nat.lt_succ_of_lt hg)) with e | ⟨e1, e2⟩
      · exact Or.inl e
      · refine Or.inr ⟨fun g hg => ?_, e2⟩
        by_cases e : g = k
        · subst e; exact hb
        · exact e1 g (by omega)
theorem wq_z {m : MS} {n s : Nat} {y : Int32} (hp : ∀ g, g < n → m 2 g ≤ 99) (hy : y = lQ (m 2) s n) (h : y = 100) : 0 = wS m n s := by
  rw [hy] at h
  unfold wS
  rcases lq_ls (s := s) hp with ⟨e, el⟩ | ⟨e1, e2, e3⟩
  · rw [h] at el; exact absurd el (by decide)
  · rw [aS_none e1, Int32.zero_mul]
theorem wq_v {m : MS} {n s : Nat} {y : Int32} (hp : ∀ g, g < n → m 2 g ≤ 99) (hy : y = lQ (m 2) s n) (h : ¬ y = 100) : aS (m 1) s n * y = wS m n s := by
  rw [hy] at h ⊢
  unfold wS
  rcases lq_ls (s := s) hp with ⟨e, el⟩ | ⟨e1, e2, e3⟩
  · rw [e]
  · exact absurd e2 h
/-- the values of the heaps together -/
def vS (m : MS) (n : Nat) (row : Nat → Int32) (l : Nat) : Nat → Int32
  | 0 => 0
  | k + 1 => vS m n row l k + wS m n (hpS m n row l k)
/-- the mill with the wear of a row -/
def wrM (m : MS) (n : Nat) (row : Nat → Int32) : Nat → MS
  | 0 => m
  | k + 1 => if cmS m n row (k + 1) = 0 then wrM m n row k else widS (wrM m n row k) (row k)
theorem wr_off {m : MS} {n : Nat} {row : Nat → Int32} {j : Nat} (hj : Nat.beq j 4 = false) : ∀ k, wrM m n row k j = m j
  | 0 => rfl
  | k + 1 => by
    rw [wrM]
    split
    · exact wr_off hj k
    · show pA _ 4 _ j = m j
      unfold pA
      rw [hj]
      exact wr_off hj k
theorem wr_has {m : MS} {n : Nat} {row : Nat → Int32} {l k : Nat} {x : Int32} (hx : x = nI (flN m n row l)) (hl : l ≤ 6) (hk : k < l) : ((x >>> (nI k &&& 31)) &&& 1) = 1 ↔ ¬ cmS m n row (k + 1) = 0 := by
  subst hx
  have h1 : flN m n row l < 256 := Nat.lt_of_lt_of_le (bs_lt64 _ hl) (by decide)
  rw [has_b _ h1 k (by omega)]
  unfold flN
  rw [bs_bit, decide_eq_true hk, Bool.true_and]
  simp
theorem wr_n {m : MS} {n : Nat} {row mh : Nat → Int32} {k sv : Nat} (hm : ∀ s, s < sv → mh s = wrM m n row k 4 s) (hc : ¬ ¬ cmS m n row (k + 1) = 0) : ∀ s, s < sv → mh s = wrM m n row (k + 1) 4 s := by
  rw [wrM, if_pos (Decidable.not_not.mp hc)]; exact hm
theorem wr_y {m : MS} {n : Nat} {row mh : Nat → Int32} {k sv s : Nat} {V b w kd : Int32} (hm : ∀ s, s < sv → mh s = wrM m n row k 4 s) (hr : row k = nI s) (hs : s < sv) (hsv : sv ≤ 8) (hc : ¬ cmS m n row (k + 1) = 0) (hk : kd = m 3 s) (hw : w = m 6 s) (hb : b = tmS kd * w) (hV : V = if 60 < (mh s + b) then 60 else (mh s + b)) : ∀ j, j < sv → upd mh s V j = wrM m n row (k + 1) 4 j := by
  intro j hj
  rw [wrM, if_neg hc, hr]
  show upd mh s V j = putv (wrM m n row k 4) 8 (nI s) _ j
  rw [putv_n (by omega) (by decide), atv_n (by omega) (by decide), atv_n (by omega) (by decide), atv_n (by omega) (by decide), wr_off (j := 3) rfl k, wr_off (j := 6) rfl k, ← hm s hs, ← hk, ← hw, ← hb, ← hV]
  show (if j = s then V else mh j) = (if j = s then V else wrM m n row k 4 j)
  by_cases e : j = s
  · rw [if_pos e, if_pos e]
  · rw [if_neg e, if_neg e, hm j hj]
theorem by_1 {kd w : Int32} (h : kd = 1) : 0 = tmS kd * w := by
  subst h; unfold tmS; rw [if_pos rfl, Int32.zero_mul]
theorem by_2 {kd w : Int32} (h1 : ¬ kd < 2) : 2 * w = tmS kd * w := by
  unfold tmS
  rw [if_neg, if_neg]
  · intro q; subst q; exact h1 (by decide)
  · intro q; subst q; exact h1 (by decide)
theorem by_0 {kd w : Int32} (h0 : 0 ≤ kd) (h : ¬ kd = 1) (h1 : kd < 2) : w = tmS kd * w := by
  have e : kd = 0 := by
    rw [Int32.lt_iff_toInt_lt] at h1
    rw [Int32.le_iff_toInt_le] at h0
    have h : ¬ kd.toInt = (1 : Int32).toInt := fun q => h (Int32.toInt_inj.mp q)
    apply Int32.toInt_inj.mp
    have e0 : (0 : Int32).toInt = 0 := by decide
    have e1 : (1 : Int32).toInt = 1 := by decide
    have e2 : (2 : Int32).toInt = 2 := by decide
    omega
  subst e
  unfold tmS
  rw [if_neg (by decide), if_pos rfl, Int32.one_mul]
/-- how the reference's tables tell a mill -/
def TQ (q m : MS) (n sv pl : Nat) : Prop := (∀ g, g < n → q 0 g = m 0 g ∧ q 1 g = m 1 g ∧ q 2 g = m 2 g) ∧ (∀ s, s < sv → q 3 (4 * s) = m 3 s ∧ q 3 (4 * s + 1) = m 4 s ∧ q 3 (4 * s + 2) = m 5 s ∧ q 3 (4 * s + 3) = m 6 s) ∧ (∀ k, k < pl → q 4 k = m 7 k ∧ ∃ s, s < sv ∧ m 7 k = nI s) ∧ q 18 0 = nI n ∧ q 18 1 = nI sv ∧ q 18 2 = nI pl ∧ q 18 3 = m 9 3
theorem sa_mk {q m st : MS} {n sv pl : Nat} (h : TQ q m n sv pl) (e0 : st 0 = q 0) (e1 : st 1 = q 1) (e3 : st 3 = q 3) (hb : ∀ s, s < sv → st 8 s = q 3 (4 * s) ∧ st 9 s = q 3 (4 * s + 1)) : SA st m n sv := by
  refine ⟨fun g hg => ?_, fun s hs => ?_⟩
  · rw [e0, e1]; exact ⟨(h.1 g hg).1, (h.1 g hg).2.1⟩
  · rw [e3]; exact ⟨(hb s hs).1.trans (h.2.1 s hs).1, (hb s hs).2.trans (h.2.1 s hs).2.1, (h.2.1 s hs).2.2.1⟩
theorem ra_mk {q m : MS} {n sv pl : Nat} {f : Nat → Int32} (h : TQ q m n sv pl) (hb : ∀ k, k < pl → f k = q 4 k) : RA f (m 7) pl sv := fun k hk => ⟨(hb k hk).trans (h.2.2.1 k hk).1, (h.2.2.1 k hk).2⟩
def kpZ (z mh : Nat → Int32) (s : Nat) : Nat → Int32 := fun j => if j % 4 = 1 ∧ j / 4 < s then mh (j / 4) else z j
theorem kpZ_0 (z mh : Nat → Int32) : kpZ z mh 0 = z := by
  funext j
  exact if_neg (fun q => absurd q.2 (Nat.not_lt_zero _))
theorem kpZ_s {z mh zz : Nat → Int32} {s : Nat} (h : zz = kpZ z mh s) : upd zz (4 * s + 1) (mh s) = kpZ z mh (s + 1) := by
  subst h
  funext j
  show (if j = 4 * s + 1 then mh s else kpZ z mh s j) = kpZ z mh (s + 1) j
  unfold kpZ
  by_cases e : j = 4 * s + 1
  · subst e
    rw [if_pos rfl, if_pos ⟨by omega, by omega⟩, show (4 * s + 1) / 4 = s by omega]
  · rw [if_neg e]
    by_cases c : j % 4 = 1 ∧ j / 4 < s
    · rw [if_pos c, if_pos ⟨c.1, by omega⟩]
    · rw [if_neg c, if_neg (fun q => c ⟨q.1, by have := q.1; have := q.2; omega⟩)]
theorem kpZ_1 {z mh : Nat → Int32} {sv s : Nat} (h : s < sv) : kpZ z mh sv (4 * s + 1) = mh s := by
  unfold kpZ
  rw [if_pos ⟨by omega, by omega⟩, show (4 * s + 1) / 4 = s by omega]
theorem kpZ_n {z mh : Nat → Int32} {sv j : Nat} (h : ¬ j % 4 = 1) : kpZ z mh sv j = z j := if_neg (fun q => h q.1)
def evS (x : Int32) : Int32 := if x = 1000000 then 1000000 else x + 1
set_option maxHeartbeats 4000000 in
set_option maxRecDepth 100000 in
theorem c_X5_grainsIn (cI cS : ClassId) (a : Nat → Nat) (q : Nat → Nat → Int32) {n : Nat} (hgr : q 18 0 = nI n) (hn6 : n ≤ 6) (x : Int32) (s : Nat) (hs : ∀ g, g < n → (q 10 g = x ↔ s.testBit g = true)) : CT cI cS yX5_grainsIn cX5_grainsIn 4 (some .int) 0 [.ref (a 0), .int x] (modelW cI a q) 0 0 (fun u : Int32 => u = nI (bs (fun g => s.testBit g) n)) (fun u => some (.int u)) (fun u => (modelW cI a q)) := by
  refine ct_intro (by decide) (Nat.le_of_ble_eq_true rfl) (fun E Q hE hQ hI => ?_)
  have hE : CxOk E cI cS RX5 cX5_grainsIn 4 (some .int) 0 0 0 := hE
  show Go E Q 4 0 0 0 [(0, .ref (a 0)), (1, .int x)] [] (modelW cI a q)
  refine g_iconst hE dX5_grainsIn_0 0 (by decide) ?_
  refine g_istore_n hE dX5_grainsIn_1 [(2, .int 0), (0, .ref (a 0)), (1, .int x)] rfl (by decide) rfl ?_
  refine g_iconst hE dX5_grainsIn_2 0 (by decide) ?_
  refine g_istore_n hE dX5_grainsIn_3 [(3, .int 0), (2, .int 0), (0, .ref (a 0)), (1, .int x)] rfl (by decide) rfl ?_
  have L4 : ∀ (n_4 : Nat) (g : Nat) (y : Int32), (g ≤ n) → (y = nI (bs (fun g => s.testBit g) g)) → (n - g < n_4) → Go E Q 4 0 0 4 [(0, .ref (a 0)), (1, .int x), (2, .int y), (3, .int (nI g))] [] (modelW cI a q) := by
    intro n_4
    induction n_4 with
    | zero => intro g y hg hy hm_4; exact absurd hm_4 (Nat.not_lt_zero _)
    | succ n_4 ih_4 =>
      intro g y hg hy hm_4
      refine g_iload_n hE dX5_grainsIn_4 3 rfl ?_
      refine g_aload_n hE dX5_grainsIn_5 0 rfl ?_
      refine g_get hE fl_X5_64 dX5_grainsIn_6 0 rfl rfl ?_
      refine g_icmp_ge hE 38 dX5_grainsIn_9 (by decide) (fun c1 => ?_) (fun c1 => ?_)
      · have kc1 := nat_le_t (show (q 18 0) = nI n from hgr) (show (nI g) = nI g from rfl) (by omega) (by omega) c1
        refine g_iload_n hE dX5_grainsIn_38 2 rfl ?_
        exact g_iret hE hQ dX5_grainsIn_39 rfl y rfl rfl (by rw [hy, show n = g by omega])
      · have kc1 := nat_le_f (show (q 18 0) = nI n from hgr) (show (nI g) = nI g from rfl) (by omega) (by omega) c1
        refine g_iload_n hE dX5_grainsIn_12 2 rfl ?_
        refine g_aload_n hE dX5_grainsIn_13 0 rfl ?_
        refine g_get hE fl_X5_40 dX5_grainsIn_14 0 rfl rfl ?_
        refine g_iload_n hE dX5_grainsIn_17 3 rfl ?_
        refine g_iald_n hE dX5_grainsIn_18 11 rfl (show (nI g) = nI g from rfl) (by omega) ?_
        refine g_iload_n hE dX5_grainsIn_19 1 rfl ?_
        refine g_icmp_ne hE 29 dX5_grainsIn_20 (by decide) (fun c2 => ?_) (fun c2 => ?_)
        · refine g_iconst hE dX5_grainsIn_29 0 (by decide) ?_
          refine g_ior hE dX5_grainsIn_30 ?_
          refine g_istore_n hE dX5_grainsIn_31 [(2, .int (y ||| 0)), (0, .ref (a 0)), (1, .int x), (3, .int (nI g))] rfl (by decide) rfl ?_
          refine g_iinc hE dX5_grainsIn_32 3 (nI (g + 1)) [(3, .int (nI (g + 1))), (2, .int (y ||| 0)), (0, .ref (a 0)), (1, .int x)] rfl (nI_1 _) (by decide) rfl ?_
          refine g_goto hE 4 dX5_grainsIn_35 (by decide) ?_
          refine g_locals [2, 3, 1, 0] [(0, .ref (a 0)), (1, .int x), (2, .int (y ||| 0)), (3, .int (nI (g + 1)))] rfl ?_
          exact ih_4 (g + 1) (y ||| 0) (by first | assumption | omega) (gs_n hy (fun z => (show ¬ ((q 10) g) = x from c2) ((hs g (show g < n by omega)).mpr z))) (by omega)
        · refine g_iconst hE dX5_grainsIn_23 1 (by decide) ?_
          refine g_iload_n hE dX5_grainsIn_24 3 rfl ?_
          refine g_ishl hE dX5_grainsIn_25 ?_
          refine g_goto hE 30 dX5_grainsIn_26 (by decide) ?_
          refine g_ior hE dX5_grainsIn_30 ?_
          refine g_istore_n hE dX5_grainsIn_31 [(2, .int (y ||| (1 <<< ((nI g) &&& 31)))), (0, .ref (a 0)), (1, .int x), (3, .int (nI g))] rfl (by decide) rfl ?_
          refine g_iinc hE dX5_grainsIn_32 3 (nI (g + 1)) [(3, .int (nI (g + 1))), (2, .int (y ||| (1 <<< ((nI g) &&& 31)))), (0, .ref (a 0)), (1, .int x)] rfl (nI_1 _) (by decide) rfl ?_
          refine g_goto hE 4 dX5_grainsIn_35 (by decide) ?_
          refine g_locals [2, 3, 1, 0] [(0, .ref (a 0)), (1, .int x), (2, .int (y ||| (1 <<< ((nI g) &&& 31)))), (3, .int (nI (g + 1)))] rfl ?_
          exact ih_4 (g + 1) (y ||| (1 <<< ((nI g) &&& 31))) (by first | assumption | omega) (gs_y hy (by omega) ((hs g (show g < n by omega)).mp (show ((q 10) g) = x from c2))) (by omega)
  refine g_locals [2, 3, 1, 0] [(0, .ref (a 0)), (1, .int x), (2, .int 0), (3, .int 0)] rfl ?_
  exact L4 _ 0 0 (Nat.zero_le _) rfl (Nat.lt_succ_self _)
set_option maxHeartbeats 4000000 in
set_option maxRecDepth 100000 in
theorem c_X5_amountIn (cI cS : ClassId) (a : Nat → Nat) (q : Nat → Nat → Int32) {n : Nat} (hgr : q 18 0 = nI n) (hn6 : n ≤ 6) (x : Int32) (s : Nat) (hs : ∀ g, g < n → (q 10 g = x ↔ s.testBit g = true)) (m : MS) (hpq : ∀ g, g < n → q 1 g = m 1 g) : CT cI cS yX5_amountIn cX5_amountIn 4 (some .int) 0 [.ref (a 0), .int x] (modelW cI a q) 0 0 (fun u : Int32 => u = aS (m 1) s n) (fun u => some (.int u)) (fun u => (modelW cI a q)) := by
  refine ct_intro (by decide) (Nat.le_of_ble_eq_true rfl) (fun E Q hE hQ hI => ?_)
  have hE : CxOk E cI cS RX5 cX5_amountIn 4 (some .int) 0 0 0 := hE
  show Go E Q 4 0 0 0 [(0, .ref (a 0)), (1, .int x)] [] (modelW cI a q)
  refine g_iconst hE dX5_amountIn_0 0 (by decide) ?_
  refine g_istore_n hE dX5_amountIn_1 [(2, .int 0), (0, .ref (a 0)), (1, .int x)] rfl (by decide) rfl ?_
  refine g_iconst hE dX5_amountIn_2 0 (by decide) ?_
  refine g_istore_n hE dX5_amountIn_3 [(3, .int 0), (2, .int 0), (0, .ref (a 0)), (1, .int x)] rfl (by decide) rfl ?_
  have L4 : ∀ (n_4 : Nat) (g : Nat) (y : Int32), (g ≤ n) → (y = aS (m 1) s g) → (n - g < n_4) → Go E Q 4 0 0 4 [(0, .ref (a 0)), (1, .int x), (2, .int y), (3, .int (nI g))] [] (modelW cI a q) := by
    intro n_4
    induction n_4 with
    | zero => intro g y hg hy hm_4; exact absurd hm_4 (Nat.not_lt_zero _)
    | succ n_4 ih_4 =>
      intro g y hg hy hm_4
      refine g_iload_n hE dX5_amountIn_4 3 rfl ?_
      refine g_aload_n hE dX5_amountIn_5 0 rfl ?_
      refine g_get hE fl_X5_64 dX5_amountIn_6 0 rfl rfl ?_
      refine g_icmp_ge hE 41 dX5_amountIn_9 (by decide) (fun c1 => ?_) (fun c1 => ?_)
      · have kc1 := nat_le_t (show (q 18 0) = nI n from hgr) (show (nI g) = nI g from rfl) (by omega) (by omega) c1
        refine g_iload_n hE dX5_amountIn_41 2 rfl ?_
        exact g_iret hE hQ dX5_amountIn_42 rfl y rfl rfl (by rw [hy, show n = g by omega])
      · have kc1 := nat_le_f (show (q 18 0) = nI n from hgr) (show (nI g) = nI g from rfl) (by omega) (by omega) c1
        refine g_iload_n hE dX5_amountIn_12 2 rfl ?_
        refine g_aload_n hE dX5_amountIn_13 0 rfl ?_
        refine g_get hE fl_X5_40 dX5_amountIn_14 0 rfl rfl ?_
        refine g_iload_n hE dX5_amountIn_17 3 rfl ?_
        refine g_iald_n hE dX5_amountIn_18 11 rfl (show (nI g) = nI g from rfl) (by omega) ?_
        refine g_iload_n hE dX5_amountIn_19 1 rfl ?_
        refine g_icmp_ne hE 32 dX5_amountIn_20 (by decide) (fun c2 => ?_) (fun c2 => ?_)
        · refine g_iconst hE dX5_amountIn_32 0 (by decide) ?_
          refine g_iadd hE dX5_amountIn_33 ?_
          refine g_istore_n hE dX5_amountIn_34 [(2, .int (y + 0)), (0, .ref (a 0)), (1, .int x), (3, .int (nI g))] rfl (by decide) rfl ?_
          refine g_iinc hE dX5_amountIn_35 3 (nI (g + 1)) [(3, .int (nI (g + 1))), (2, .int (y + 0)), (0, .ref (a 0)), (1, .int x)] rfl (nI_1 _) (by decide) rfl ?_
          refine g_goto hE 4 dX5_amountIn_38 (by decide) ?_
          refine g_locals [2, 3, 1, 0] [(0, .ref (a 0)), (1, .int x), (2, .int (y + 0)), (3, .int (nI (g + 1)))] rfl ?_
          exact ih_4 (g + 1) (y + 0) (by first | assumption | omega) (as_n hy (fun z => (show ¬ ((q 10) g) = x from c2) ((hs g (show g < n by omega)).mpr z))) (by omega)
        · refine g_aload_n hE dX5_amountIn_23 0 rfl ?_
          refine g_get hE fl_X5_13 dX5_amountIn_24 0 rfl rfl ?_
          refine g_iload_n hE dX5_amountIn_27 3 rfl ?_
          refine g_iald_n hE dX5_amountIn_28 2 rfl (show (nI g) = nI g from rfl) (by omega) ?_
          refine g_goto hE 33 dX5_amountIn_29 (by decide) ?_
          refine g_iadd hE dX5_amountIn_33 ?_
          refine g_istore_n hE dX5_amountIn_34 [(2, .int (y + ((q 1) g))), (0, .ref (a 0)), (1, .int x), (3, .int (nI g))] rfl (by decide) rfl ?_
          refine g_iinc hE dX5_amountIn_35 3 (nI (g + 1)) [(3, .int (nI (g + 1))), (2, .int (y + ((q 1) g))), (0, .ref (a 0)), (1, .int x)] rfl (nI_1 _) (by decide) rfl ?_
          refine g_goto hE 4 dX5_amountIn_38 (by decide) ?_
          refine g_locals [2, 3, 1, 0] [(0, .ref (a 0)), (1, .int x), (2, .int (y + ((q 1) g))), (3, .int (nI (g + 1)))] rfl ?_
          exact ih_4 (g + 1) (y + ((q 1) g)) (by first | assumption | omega) (as_y hy (hpq g (by omega)) ((hs g (show g < n by omega)).mp (show ((q 10) g) = x from c2))) (by omega)
  refine g_locals [2, 3, 1, 0] [(0, .ref (a 0)), (1, .int x), (2, .int 0), (3, .int 0)] rfl ?_
  exact L4 _ 0 0 (Nat.zero_le _) rfl (Nat.lt_succ_self _)
set_option maxHeartbeats 4000000 in
set_option maxRecDepth 100000 in
theorem c_X5_valueIn (cI cS : ClassId) (a : Nat → Nat) (q : Nat → Nat → Int32) {n : Nat} (hgr : q 18 0 = nI n) (hn6 : n ≤ 6) (x : Int32) (s : Nat) (hs : ∀ g, g < n → (q 10 g = x ↔ s.testBit g = true)) (m : MS) (hpq : ∀ g, g < n → q 1 g = m 1 g ∧ q 2 g = m 2 g ∧ m 2 g ≤ 99) : CT cI cS yX5_valueIn cX5_valueIn 4 (some .int) 1 [.ref (a 0), .int x] (modelW cI a q) 0 0 (fun u : Int32 => u = wS m n s) (fun u => some (.int u)) (fun u => (modelW cI a q)) := by
  refine ct_intro (by decide) (Nat.le_of_ble_eq_true rfl) (fun E Q hE hQ hI => ?_)
  have hE : CxOk E cI cS RX5 cX5_valueIn 4 (some .int) 1 0 0 := hE
  show Go E Q 4 0 0 0 [(0, .ref (a 0)), (1, .int x)] [] (modelW cI a q)
  refine g_bipush hE dX5_valueIn_0 100 (by decide) ?_
  refine g_istore_n hE dX5_valueIn_2 [(2, .int 100), (0, .ref (a 0)), (1, .int x)] rfl (by decide) rfl ?_
  refine g_iconst hE dX5_valueIn_3 0 (by decide) ?_
  refine g_istore_n hE dX5_valueIn_4 [(3, .int 0), (2, .int 100), (0, .ref (a 0)), (1, .int x)] rfl (by decide) rfl ?_
  have L5 : ∀ (n_5 : Nat) (g : Nat) (y : Int32), (g ≤ n) → (y = lQ (m 2) s g) → (n - g < n_5) → Go E Q 4 0 0 5 [(0, .ref (a 0)), (1, .int x), (2, .int y), (3, .int (nI g))] [] (modelW cI a q) := by
    intro n_5
    induction n_5 with
    | zero => intro g y hg hy hm_5; exact absurd hm_5 (Nat.not_lt_zero _)
    | succ n_5 ih_5 =>
      intro g y hg hy hm_5
      refine g_iload_n hE dX5_valueIn_5 3 rfl ?_
      refine g_aload_n hE dX5_valueIn_6 0 rfl ?_
      refine g_get hE fl_X5_64 dX5_valueIn_7 0 rfl rfl ?_
      refine g_icmp_ge hE 50 dX5_valueIn_10 (by decide) (fun c1 => ?_) (fun c1 => ?_)
      · have kc1 := nat_le_t (show (q 18 0) = nI n from hgr) (show (nI g) = nI g from rfl) (by omega) (by omega) c1
        have en : g = n := (by omega)
        rw [en] at hy
        refine g_iload_n hE dX5_valueIn_50 2 rfl ?_
        refine g_bipush hE dX5_valueIn_51 100 (by decide) ?_
        refine g_icmp_ne hE 60 dX5_valueIn_53 (by decide) (fun c2 => ?_) (fun c2 => ?_)
        · refine g_aload_n hE dX5_valueIn_60 0 rfl ?_
          refine g_iload_n hE dX5_valueIn_61 1 rfl ?_
          refine g_callV hE (c_X5_amountIn cI cS a q hgr hn6 x s hs m (fun g hg => (hpq g hg).1)) mk_X5_amountIn mv_X5_amountIn ml_X5_176 dX5_valueIn_62 (As := [.int x]) (rest := []) rfl rfl 0 rfl (show vwCl[5]? = some (RX5, TX5, 32) from rfl) (by decide) (by decide) (Nat.le_of_ble_eq_true rfl) (by decide) (by decide) [0, 1, 2, 3, 4, 5, 6, 7, 8, 9, 10, 11, 12, 13, 14, 15, 16, 17, 18] rfl (by decide) (fun u => Nat.le_of_ble_eq_true rfl) (ws' := fun u => modelW cI a q) (fun u => rfl) (fun u hu => ?_)
          obtain ⟨r_3, rfl⟩ : ∃ z, z = u := ⟨_, rfl⟩
          have h4 : r_3 = (aS (m 1) s n) := hu
          subst h4
          show Go E Q 4 0 0 65 [(0, .ref (a 0)), (1, .int x), (2, .int y), (3, .int (nI g))] [.int (aS (m 1) s n)] (modelW cI a q)
          refine g_iload_n hE dX5_valueIn_65 2 rfl ?_
          refine g_imul hE dX5_valueIn_66 ?_
          exact g_iret hE hQ dX5_valueIn_67 rfl ((aS (m 1) s n) * y) rfl rfl (wq_v (fun g hg => (hpq g hg).2.2) hy (show ¬ y = 100 from c2))
        · refine g_iconst hE dX5_valueIn_56 0 (by decide) ?_
          refine g_goto hE 67 dX5_valueIn_57 (by decide) ?_
          exact g_iret hE hQ dX5_valueIn_67 rfl 0 rfl rfl (wq_z (fun g hg => (hpq g hg).2.2) hy (show y = 100 from c2))
      · have kc1 := nat_le_f (show (q 18 0) = nI n from hgr) (show (nI g) = nI g from rfl) (by omega) (by omega) c1
        refine g_aload_n hE dX5_valueIn_13 0 rfl ?_
        refine g_get hE fl_X5_40 dX5_valueIn_14 0 rfl rfl ?_
        refine g_iload_n hE dX5_valueIn_17 3 rfl ?_
        refine g_iald_n hE dX5_valueIn_18 11 rfl (show (nI g) = nI g from rfl) (by omega) ?_
        refine g_iload_n hE dX5_valueIn_19 1 rfl ?_
        refine g_icmp_ne hE 42 dX5_valueIn_20 (by decide) (fun c5 => ?_) (fun c5 => ?_)
        · refine g_iload_n hE dX5_valueIn_42 2 rfl ?_
          refine g_istore_n hE dX5_valueIn_43 [(2, .int y), (0, .ref (a 0)), (1, .int x), (3, .int (nI g))] rfl (by decide) rfl ?_
          refine g_iinc hE dX5_valueIn_44 3 (nI (g + 1)) [(3, .int (nI (g + 1))), (2, .int y), (0, .ref (a 0)), (1, .int x)] rfl (nI_1 _) (by decide) rfl ?_
          refine g_goto hE 5 dX5_valueIn_47 (by decide) ?_
          refine g_locals [2, 3, 1, 0] [(0, .ref (a 0)), (1, .int x), (2, .int y), (3, .int (nI (g + 1)))] rfl ?_
          exact ih_5 (g + 1) y (by first | assumption | omega) (lq_n2 hy (fun z => (show ¬ ((q 10) g) = x from c5) ((hs g (show g < n by omega)).mpr z))) (by omega)
        · refine g_aload_n hE dX5_valueIn_23 0 rfl ?_
          refine g_get hE fl_X5_16 dX5_valueIn_24 0 rfl rfl ?_
          refine g_iload_n hE dX5_valueIn_27 3 rfl ?_
          refine g_iald_n hE dX5_valueIn_28 3 rfl (show (nI g) = nI g from rfl) (by omega) ?_
          refine g_iload_n hE dX5_valueIn_29 2 rfl ?_
          refine g_icmp_ge hE 42 dX5_valueIn_30 (by decide) (fun c6 => ?_) (fun c6 => ?_)
          · refine g_iload_n hE dX5_valueIn_42 2 rfl ?_
            refine g_istore_n hE dX5_valueIn_43 [(2, .int y), (0, .ref (a 0)), (1, .int x), (3, .int (nI g))] rfl (by decide) rfl ?_
            refine g_iinc hE dX5_valueIn_44 3 (nI (g + 1)) [(3, .int (nI (g + 1))), (2, .int y), (0, .ref (a 0)), (1, .int x)] rfl (nI_1 _) (by decide) rfl ?_
            refine g_goto hE 5 dX5_valueIn_47 (by decide) ?_
            refine g_locals [2, 3, 1, 0] [(0, .ref (a 0)), (1, .int x), (2, .int y), (3, .int (nI (g + 1)))] rfl ?_
            exact ih_5 (g + 1) y (by first | assumption | omega) (lq_n1 hy (hpq g (by omega)).2.1 (show ¬ ((q 2) g) < y from (Int32.not_lt.mpr c6))) (by omega)
          · refine g_aload_n hE dX5_valueIn_33 0 rfl ?_
            refine g_get hE fl_X5_16 dX5_valueIn_34 0 rfl rfl ?_
            refine g_iload_n hE dX5_valueIn_37 3 rfl ?_
            refine g_iald_n hE dX5_valueIn_38 3 rfl (show (nI g) = nI g from rfl) (by omega) ?_
            refine g_goto hE 43 dX5_valueIn_39 (by decide) ?_
            refine g_istore_n hE dX5_valueIn_43 [(2, .int ((q 2) g)), (0, .ref (a 0)), (1, .int x), (3, .int (nI g))] rfl (by decide) rfl ?_
            refine g_iinc hE dX5_valueIn_44 3 (nI (g + 1)) [(3, .int (nI (g + 1))), (2, .int ((q 2) g)), (0, .ref (a 0)), (1, .int x)] rfl (nI_1 _) (by decide) rfl ?_
            refine g_goto hE 5 dX5_valueIn_47 (by decide) ?_
            refine g_locals [2, 3, 1, 0] [(0, .ref (a 0)), (1, .int x), (2, .int ((q 2) g)), (3, .int (nI (g + 1)))] rfl ?_
            exact ih_5 (g + 1) ((q 2) g) (by first | assumption | omega) (lq_y hy (hpq g (by omega)).2.1 ((hs g (show g < n by omega)).mp (show ((q 10) g) = x from c5)) (show ((q 2) g) < y from (Int32.not_le.mp c6))) (by omega)
  refine g_locals [2, 3, 1, 0] [(0, .ref (a 0)), (1, .int x), (2, .int 100), (3, .int 0)] rfl ?_
  exact L5 _ 0 100 (Nat.zero_le _) rfl (Nat.lt_succ_self _)
set_option maxHeartbeats 4000000 in
set_option maxRecDepth 100000 in
theorem c_X5_valueOf (cI cS : ClassId) (a : Nat → Nat) (q : Nat → Nat → Int32) {n : Nat} (hgr : q 18 0 = nI n) (hn6 : n ≤ 6)  {l : Nat} (htm : q 18 7 = nI l) (hl6 : l ≤ 6) (m : MS) (row : Nat → Int32) (hh : ∀ g, g < n → q 10 g = hA m n row l l g) (hpq : ∀ g, g < n → q 1 g = m 1 g ∧ q 2 g = m 2 g ∧ m 2 g ≤ 99) : CT cI cS yX5_valueOf cX5_valueOf 3 (some .int) 2 [.ref (a 0)] (modelW cI a q) 0 0 (fun u : Int32 => u = vS m n row l (l + 1)) (fun u => some (.int u)) (fun u => (modelW cI a q)) := by
  refine ct_intro (by decide) (Nat.le_of_ble_eq_true rfl) (fun E Q hE hQ hI => ?_)
  have hE : CxOk E cI cS RX5 cX5_valueOf 3 (some .int) 2 0 0 := hE
  show Go E Q 3 0 0 0 [(0, .ref (a 0))] [] (modelW cI a q)
  refine g_iconst hE dX5_valueOf_0 0 (by decide) ?_
  refine g_istore_n hE dX5_valueOf_1 [(1, .int 0), (0, .ref (a 0))] rfl (by decide) rfl ?_
  refine g_iconst hE dX5_valueOf_2 0 (by decide) ?_
  refine g_istore_n hE dX5_valueOf_3 [(2, .int 0), (1, .int 0), (0, .ref (a 0))] rfl (by decide) rfl ?_
  have L4 : ∀ (n_4 : Nat) (k : Nat) (y : Int32), (k ≤ l + 1) → (y = vS m n row l k) → (l + 1 - k < n_4) → Go E Q 3 0 0 4 [(0, .ref (a 0)), (1, .int y), (2, .int (nI k))] [] (modelW cI a q) := by
    intro n_4
    induction n_4 with
    | zero => intro k y hk hy hm_4; exact absurd hm_4 (Nat.not_lt_zero _)
    | succ n_4 ih_4 =>
      intro k y hk hy hm_4
      refine g_iload_n hE dX5_valueOf_4 2 rfl ?_
      refine g_aload_n hE dX5_valueOf_5 0 rfl ?_
      refine g_get hE fl_X5_164 dX5_valueOf_6 0 rfl rfl ?_
      refine g_icmp_gt hE 26 dX5_valueOf_9 (by decide) (fun c1 => ?_) (fun c1 => ?_)
      · have kc1 := nat_lt_t (show (q 18 7) = nI l from htm) (show (nI k) = nI k from rfl) (by omega) (by omega) c1
        refine g_iload_n hE dX5_valueOf_26 1 rfl ?_
        exact g_iret hE hQ dX5_valueOf_27 rfl y rfl rfl (by rw [hy, show k = l + 1 by omega])
      · have kc1 := nat_lt_f (show (q 18 7) = nI l from htm) (show (nI k) = nI k from rfl) (by omega) (by omega) c1
        refine g_iload_n hE dX5_valueOf_12 1 rfl ?_
        refine g_aload_n hE dX5_valueOf_13 0 rfl ?_
        refine g_iload_n hE dX5_valueOf_14 2 rfl ?_
        refine g_callV hE (c_X5_valueIn cI cS a q hgr hn6 (nI k) (hpS m n row l k) (fun g hg => by rw [hh g hg]; exact hp_in hl6 (by omega) hg) m hpq) mk_X5_valueIn mv_X5_valueIn ml_X5_180 dX5_valueOf_15 (As := [.int (nI k)]) (rest := [.int y]) rfl rfl 0 rfl (show vwCl[5]? = some (RX5, TX5, 32) from rfl) (by decide) (by decide) (Nat.le_of_ble_eq_true rfl) (by decide) (by decide) [0, 1, 2, 3, 4, 5, 6, 7, 8, 9, 10, 11, 12, 13, 14, 15, 16, 17, 18] rfl (by decide) (fun u => Nat.le_of_ble_eq_true rfl) (ws' := fun u => modelW cI a q) (fun u => rfl) (fun u hu => ?_)
        obtain ⟨r_2, rfl⟩ : ∃ z, z = u := ⟨_, rfl⟩
        have h3 : r_2 = (wS m n (hpS m n row l k)) := hu
        subst h3
        show Go E Q 3 0 0 18 [(0, .ref (a 0)), (1, .int y), (2, .int (nI k))] [.int (wS m n (hpS m n row l k)), .int y] (modelW cI a q)
        refine g_iadd hE dX5_valueOf_18 ?_
        refine g_istore_n hE dX5_valueOf_19 [(1, .int (y + (wS m n (hpS m n row l k)))), (0, .ref (a 0)), (2, .int (nI k))] rfl (by decide) rfl ?_
        refine g_iinc hE dX5_valueOf_20 2 (nI (k + 1)) [(2, .int (nI (k + 1))), (1, .int (y + (wS m n (hpS m n row l k)))), (0, .ref (a 0))] rfl (nI_1 _) (by decide) rfl ?_
        refine g_goto hE 4 dX5_valueOf_23 (by decide) ?_
        refine g_locals [2, 1, 0] [(0, .ref (a 0)), (1, .int (y + (wS m n (hpS m n row l k)))), (2, .int (nI (k + 1)))] rfl ?_
        exact ih_4 (k + 1) (y + (wS m n (hpS m n row l k))) (by first | assumption | omega) (by rw [hy, vS]) (by omega)
  refine g_locals [2, 1, 0] [(0, .ref (a 0)), (1, .int 0), (2, .int 0)] rfl ?_
  exact L4 _ 0 0 (Nat.zero_le _) rfl (Nat.lt_succ_self _)
set_option maxHeartbeats 4000000 in
set_option maxRecDepth 100000 in
theorem c_X5_wearOut (cI cS : ClassId) (a : Nat → Nat) (q : Nat → Nat → Int32) {l : Nat} (htm : q 18 7 = nI l) (hl6 : l ≤ 6) {n sv : Nat} (hsv8 : sv ≤ 8) (m : MS) (row : Nat → Int32) (hRA : RA (q 7) row l sv) (hW : ∀ s, s < sv → q 8 s = m 3 s ∧ q 9 s = m 4 s ∧ q 3 (4 * s + 3) = m 6 s ∧ 0 ≤ m 3 s) (hfal : q 18 9 = nI (flN m n row l)) : CT cI cS yX5_wearOut cX5_wearOut 4 none 1 [.ref (a 0)] (modelW cI a q) 0 0 (fun u : (Nat → Int32) => ∀ s, s < sv → u s = wrM m n row l 4 s) (fun u => none) (fun u => (modelW cI a (pA q 9 u))) := by
  refine ct_intro (by decide) (Nat.le_of_ble_eq_true rfl) (fun E Q hE hQ hI => ?_)
  have hE : CxOk E cI cS RX5 cX5_wearOut 4 none 1 0 0 := hE
  show Go E Q 4 0 0 0 [(0, .ref (a 0))] [] (modelW cI a q)
  refine g_iconst hE dX5_wearOut_0 0 (by decide) ?_
  refine g_istore_n hE dX5_wearOut_1 [(1, .int 0), (0, .ref (a 0))] rfl (by decide) rfl ?_
  have L2 : ∀ (n_2 : Nat) (k : Nat) (mh : Nat → Int32), (k ≤ l) → (∀ s, s < sv → mh s = wrM m n row k 4 s) → (l - k < n_2) → Go E Q 4 0 0 2 [(0, .ref (a 0)), (1, .int (nI k))] [] (modelW cI a (pA q 9 mh)) := by
    intro n_2
    induction n_2 with
    | zero => intro k mh hk hm hm_2; exact absurd hm_2 (Nat.not_lt_zero _)
    | succ n_2 ih_2 =>
      intro k mh hk hm hm_2
      refine g_iload_n hE dX5_wearOut_2 1 rfl ?_
      refine g_aload_n hE dX5_wearOut_3 0 rfl ?_
      refine g_get hE fl_X5_164 dX5_wearOut_4 0 rfl rfl ?_
      refine g_icmp_ge hE 116 dX5_wearOut_7 (by decide) (fun c1 => ?_) (fun c1 => ?_)
      · have kc1 := nat_le_t (show (q 18 7) = nI l from htm) (show (nI k) = nI k from rfl) (by omega) (by omega) c1
        exact g_vret hE hQ dX5_wearOut_116 mh rfl rfl (by have el : k = l := (by omega); rw [el] at hm; exact hm)
      · have kc1 := nat_le_f (show (q 18 7) = nI l from htm) (show (nI k) = nI k from rfl) (by omega) (by omega) c1
        refine g_aload_n hE dX5_wearOut_10 0 rfl ?_
        refine g_get hE fl_X5_31 dX5_wearOut_11 0 rfl rfl ?_
        refine g_iload_n hE dX5_wearOut_14 1 rfl ?_
        refine g_iald_n hE dX5_wearOut_15 8 rfl (show (nI k) = nI k from rfl) (by omega) ?_
        obtain ⟨hr0, s, hs, hr⟩ := hRA k (by omega)
        have hs2 : (q 7 k) = nI s := hr0.trans hr
        refine g_istore_n hE dX5_wearOut_16 [(2, .int ((q 7) k)), (0, .ref (a 0)), (1, .int (nI k))] rfl (by decide) rfl ?_
        refine g_aload_n hE dX5_wearOut_17 1 rfl ?_
        refine g_get hE fl_X5_34 dX5_wearOut_18 0 rfl rfl ?_
        refine g_iload_n hE dX5_wearOut_21 0 rfl ?_
        refine g_iald_n hE dX5_wearOut_22 9 rfl (show ((q 7) k) = nI s from hs2) (by omega) ?_
        refine g_iconst hE dX5_wearOut_23 1 (by decide) ?_
        refine g_icmp_ne hE 31 dX5_wearOut_24 (by decide) (fun c2 => ?_) (fun c2 => ?_)
        · refine g_aload_n hE dX5_wearOut_31 1 rfl ?_
          refine g_get hE fl_X5_34 dX5_wearOut_32 0 rfl rfl ?_
          refine g_iload_n hE dX5_wearOut_35 0 rfl ?_
          refine g_iald_n hE dX5_wearOut_36 9 rfl (show ((q 7) k) = nI s from hs2) (by omega) ?_
          refine g_iconst hE dX5_wearOut_37 2 (by decide) ?_
          refine g_icmp_lt hE 56 dX5_wearOut_38 (by decide) (fun c3 => ?_) (fun c3 => ?_)
          · refine g_aload_n hE dX5_wearOut_56 1 rfl ?_
            refine g_get hE fl_X5_19 dX5_wearOut_57 0 rfl rfl ?_
            refine g_iconst hE dX5_wearOut_60 4 (by decide) ?_
            refine g_iload_n hE dX5_wearOut_61 0 rfl ?_
            refine g_imul_n hE dX5_wearOut_62 (show 4 = nI 4 from rfl) (show ((q 7) k) = nI s from hs2) ?_
            refine g_iconst hE dX5_wearOut_63 3 (by decide) ?_
            refine g_iadd_n hE dX5_wearOut_64 (show (nI (4 * s)) = nI (4 * s) from rfl) (show 3 = nI 3 from rfl) ?_
            refine g_iald_n hE dX5_wearOut_65 4 rfl (show (nI ((4 * s) + 3)) = nI ((4 * s) + 3) from rfl) (by omega) ?_
            refine g_istore_n hE dX5_wearOut_66 [(3, .int ((q 3) ((4 * s) + 3))), (2, .int ((q 7) k)), (0, .ref (a 0)), (1, .int (nI k))] rfl (by decide) rfl ?_
            refine g_aload_n hE dX5_wearOut_67 2 rfl ?_
            refine g_get hE fl_X5_170 dX5_wearOut_68 0 rfl rfl ?_
            refine g_iload_n hE dX5_wearOut_71 3 rfl ?_
            refine g_callS hE (c_X5_has cI cS (q 18 9) (nI k)) mk_X5_has st_X5_has ml_X5_156 dX5_wearOut_72 (As := [.int (q 18 9), .int (nI k)]) (rest := []) rfl rfl (by decide) (by decide) (Nat.le_of_ble_eq_true rfl) (by decide) (by decide) [] rfl (by decide) (fun u => Nat.le_of_ble_eq_true rfl) (ws' := fun u => modelW cI a (pA q 9 mh)) (fun u => rfl) (fun u hu => ?_)
            obtain ⟨r_4, rfl⟩ : ∃ z, z = u := ⟨_, rfl⟩
            have h5 : r_4 = if (((q 18 9) >>> ((nI k) &&& 31)) &&& 1) = 1 then 1 else 0 := hu
            by_cases c6 : (((q 18 9) >>> ((nI k) &&& 31)) &&& 1) = 1
            · rw [if_pos c6] at h5
              subst h5
              show Go E Q 4 0 0 75 [(3, .int ((q 3) ((4 * s) + 3))), (2, .int ((q 7) k)), (0, .ref (a 0)), (1, .int (nI k))] [.int 1] (modelW cI a (pA q 9 mh))
              refine g_if_eq hE 110 dX5_wearOut_75 (by decide) (fun c7 => absurd c7 (by decide)) (fun c7 => ?_)
              refine g_aload_n hE dX5_wearOut_78 2 rfl ?_
              refine g_get hE fl_X5_37 dX5_wearOut_79 0 rfl rfl ?_
              refine g_iload_n hE dX5_wearOut_82 1 rfl ?_
              refine g_aload_n hE dX5_wearOut_83 2 rfl ?_
              refine g_get hE fl_X5_37 dX5_wearOut_84 0 rfl rfl ?_
              refine g_iload_n hE dX5_wearOut_87 1 rfl ?_
              refine g_iald_n hE dX5_wearOut_88 10 rfl (show ((q 7) k) = nI s from hs2) (by omega) ?_
              refine g_iload_n hE dX5_wearOut_89 0 rfl ?_
              refine g_iadd hE dX5_wearOut_90 ?_
              refine g_bipush hE dX5_wearOut_91 60 (by decide) ?_
              refine g_icmp_le hE 101 dX5_wearOut_93 (by decide) (fun c8 => ?_) (fun c8 => ?_)
              · refine g_aload_n hE dX5_wearOut_101 2 rfl ?_
                refine g_get hE fl_X5_37 dX5_wearOut_102 0 rfl rfl ?_
                refine g_iload_n hE dX5_wearOut_105 1 rfl ?_
                refine g_iald_n hE dX5_wearOut_106 10 rfl (show ((q 7) k) = nI s from hs2) (by omega) ?_
                refine g_iload_n hE dX5_wearOut_107 0 rfl ?_
                refine g_iadd hE dX5_wearOut_108 ?_
                refine g_iast_n hE dX5_wearOut_109 10 rfl (show ((q 7) k) = nI s from hs2) (by omega) (modelW cI a (pA (pA q 9 mh) 9 (upd mh s ((mh s) + ((q 3) ((4 * s) + 3)))))) rfl ?_
                refine g_iinc hE dX5_wearOut_110 3 (nI (k + 1)) [(1, .int (nI (k + 1))), (3, .int ((q 3) ((4 * s) + 3))), (2, .int ((q 7) k)), (0, .ref (a 0))] rfl (nI_1 _) (by decide) rfl ?_
                refine g_goto hE 2 dX5_wearOut_113 (by decide) ?_
                refine g_locals [3, 0] [(0, .ref (a 0)), (1, .int (nI (k + 1)))] rfl ?_
                exact ih_2 (k + 1) (upd mh s ((mh s) + ((q 3) ((4 * s) + 3)))) (by first | assumption | omega) (wr_y hm hr hs hsv8 ((wr_has hfal hl6 (show k < l by omega)).mp c6) (hW s hs).1 (hW s hs).2.2.1 (by_0 (by rw [(hW s hs).1]; exact (hW s hs).2.2.2) (show ¬ ((q 8) s) = 1 from c2) (show ((q 8) s) < 2 from c3)) (if_neg (show ¬ 60 < ((mh s) + ((q 3) ((4 * s) + 3))) from (Int32.not_lt.mpr c8))).symm) (by omega)
              · refine g_bipush hE dX5_wearOut_96 60 (by decide) ?_
                refine g_goto hE 109 dX5_wearOut_98 (by decide) ?_
                refine g_iast_n hE dX5_wearOut_109 10 rfl (show ((q 7) k) = nI s from hs2) (by omega) (modelW cI a (pA (pA q 9 mh) 9 (upd mh s 60))) rfl ?_
                refine g_iinc hE dX5_wearOut_110 3 (nI (k + 1)) [(1, .int (nI (k + 1))), (3, .int ((q 3) ((4 * s) + 3))), (2, .int ((q 7) k)), (0, .ref (a 0))] rfl (nI_1 _) (by decide) rfl ?_
                refine g_goto hE 2 dX5_wearOut_113 (by decide) ?_
                refine g_locals [3, 0] [(0, .ref (a 0)), (1, .int (nI (k + 1)))] rfl ?_
                exact ih_2 (k + 1) (upd mh s 60) (by first | assumption | omega) (wr_y hm hr hs hsv8 ((wr_has hfal hl6 (show k < l by omega)).mp c6) (hW s hs).1 (hW s hs).2.2.1 (by_0 (by rw [(hW s hs).1]; exact (hW s hs).2.2.2) (show ¬ ((q 8) s) = 1 from c2) (show ((q 8) s) < 2 from c3)) (if_pos (show 60 < ((mh s) + ((q 3) ((4 * s) + 3))) from (Int32.not_le.mp c8))).symm) (by omega)
            · rw [if_neg c6] at h5
              subst h5
              show Go E Q 4 0 0 75 [(3, .int ((q 3) ((4 * s) + 3))), (2, .int ((q 7) k)), (0, .ref (a 0)), (1, .int (nI k))] [.int 0] (modelW cI a (pA q 9 mh))
              refine g_if_eq hE 110 dX5_wearOut_75 (by decide) (fun c9 => ?_) (fun c9 => absurd (by decide) c9)
              refine g_iinc hE dX5_wearOut_110 3 (nI (k + 1)) [(1, .int (nI (k + 1))), (3, .int ((q 3) ((4 * s) + 3))), (2, .int ((q 7) k)), (0, .ref (a 0))] rfl (nI_1 _) (by decide) rfl ?_
              refine g_goto hE 2 dX5_wearOut_113 (by decide) ?_
              refine g_locals [3, 0] [(0, .ref (a 0)), (1, .int (nI (k + 1)))] rfl ?_
              exact ih_2 (k + 1) mh (by first | assumption | omega) (wr_n hm (fun z => c6 ((wr_has hfal hl6 (show k < l by omega)).mpr z))) (by omega)
          · refine g_iconst hE dX5_wearOut_41 2 (by decide) ?_
            refine g_aload_n hE dX5_wearOut_42 1 rfl ?_
            refine g_get hE fl_X5_19 dX5_wearOut_43 0 rfl rfl ?_
            refine g_iconst hE dX5_wearOut_46 4 (by decide) ?_
            refine g_iload_n hE dX5_wearOut_47 0 rfl ?_
            refine g_imul_n hE dX5_wearOut_48 (show 4 = nI 4 from rfl) (show ((q 7) k) = nI s from hs2) ?_
            refine g_iconst hE dX5_wearOut_49 3 (by decide) ?_
            refine g_iadd_n hE dX5_wearOut_50 (show (nI (4 * s)) = nI (4 * s) from rfl) (show 3 = nI 3 from rfl) ?_
            refine g_iald_n hE dX5_wearOut_51 4 rfl (show (nI ((4 * s) + 3)) = nI ((4 * s) + 3) from rfl) (by omega) ?_
            refine g_imul hE dX5_wearOut_52 ?_
            refine g_goto hE 66 dX5_wearOut_53 (by decide) ?_
            refine g_istore_n hE dX5_wearOut_66 [(3, .int (2 * ((q 3) ((4 * s) + 3)))), (2, .int ((q 7) k)), (0, .ref (a 0)), (1, .int (nI k))] rfl (by decide) rfl ?_
            refine g_aload_n hE dX5_wearOut_67 2 rfl ?_
            refine g_get hE fl_X5_170 dX5_wearOut_68 0 rfl rfl ?_
            refine g_iload_n hE dX5_wearOut_71 3 rfl ?_
            refine g_callS hE (c_X5_has cI cS (q 18 9) (nI k)) mk_X5_has st_X5_has ml_X5_156 dX5_wearOut_72 (As := [.int (q 18 9), .int (nI k)]) (rest := []) rfl rfl (by decide) (by decide) (Nat.le_of_ble_eq_true rfl) (by decide) (by decide) [] rfl (by decide) (fun u => Nat.le_of_ble_eq_true rfl) (ws' := fun u => modelW cI a (pA q 9 mh)) (fun u => rfl) (fun u hu => ?_)
            obtain ⟨r_10, rfl⟩ : ∃ z, z = u := ⟨_, rfl⟩
            have h11 : r_10 = if (((q 18 9) >>> ((nI k) &&& 31)) &&& 1) = 1 then 1 else 0 := hu
            by_cases c12 : (((q 18 9) >>> ((nI k) &&& 31)) &&& 1) = 1
            · rw [if_pos c12] at h11
              subst h11
              show Go E Q 4 0 0 75 [(3, .int (2 * ((q 3) ((4 * s) + 3)))), (2, .int ((q 7) k)), (0, .ref (a 0)), (1, .int (nI k))] [.int 1] (modelW cI a (pA q 9 mh))
              refine g_if_eq hE 110 dX5_wearOut_75 (by decide) (fun c13 => absurd c13 (by decide)) (fun c13 => ?_)
              refine g_aload_n hE dX5_wearOut_78 2 rfl ?_
              refine g_get hE fl_X5_37 dX5_wearOut_79 0 rfl rfl ?_
              refine g_iload_n hE dX5_wearOut_82 1 rfl ?_
              refine g_aload_n hE dX5_wearOut_83 2 rfl ?_
              refine g_get hE fl_X5_37 dX5_wearOut_84 0 rfl rfl ?_
              refine g_iload_n hE dX5_wearOut_87 1 rfl ?_
              refine g_iald_n hE dX5_wearOut_88 10 rfl (show ((q 7) k) = nI s from hs2) (by omega) ?_
              refine g_iload_n hE dX5_wearOut_89 0 rfl ?_
              refine g_iadd hE dX5_wearOut_90 ?_
              refine g_bipush hE dX5_wearOut_91 60 (by decide) ?_
              refine g_icmp_le hE 101 dX5_wearOut_93 (by decide) (fun c14 => ?_) (fun c14 => ?_)
              · refine g_aload_n hE dX5_wearOut_101 2 rfl ?_
                refine g_get hE fl_X5_37 dX5_wearOut_102 0 rfl rfl ?_
                refine g_iload_n hE dX5_wearOut_105 1 rfl ?_
                refine g_iald_n hE dX5_wearOut_106 10 rfl (show ((q 7) k) = nI s from hs2) (by omega) ?_
                refine g_iload_n hE dX5_wearOut_107 0 rfl ?_
                refine g_iadd hE dX5_wearOut_108 ?_
                refine g_iast_n hE dX5_wearOut_109 10 rfl (show ((q 7) k) = nI s from hs2) (by omega) (modelW cI a (pA (pA q 9 mh) 9 (upd mh s ((mh s) + (2 * ((q 3) ((4 * s) + 3))))))) rfl ?_
                refine g_iinc hE dX5_wearOut_110 3 (nI (k + 1)) [(1, .int (nI (k + 1))), (3, .int (2 * ((q 3) ((4 * s) + 3)))), (2, .int ((q 7) k)), (0, .ref (a 0))] rfl (nI_1 _) (by decide) rfl ?_
                refine g_goto hE 2 dX5_wearOut_113 (by decide) ?_
                refine g_locals [3, 0] [(0, .ref (a 0)), (1, .int (nI (k + 1)))] rfl ?_
                exact ih_2 (k + 1) (upd mh s ((mh s) + (2 * ((q 3) ((4 * s) + 3))))) (by first | assumption | omega) (wr_y hm hr hs hsv8 ((wr_has hfal hl6 (show k < l by omega)).mp c12) (hW s hs).1 (hW s hs).2.2.1 (by_2 (show ¬ ((q 8) s) < 2 from c3)) (if_neg (show ¬ 60 < ((mh s) + (2 * ((q 3) ((4 * s) + 3)))) from (Int32.not_lt.mpr c14))).symm) (by omega)
              · refine g_bipush hE dX5_wearOut_96 60 (by decide) ?_
                refine g_goto hE 109 dX5_wearOut_98 (by decide) ?_
                refine g_iast_n hE dX5_wearOut_109 10 rfl (show ((q 7) k) = nI s from hs2) (by omega) (modelW cI a (pA (pA q 9 mh) 9 (upd mh s 60))) rfl ?_
                refine g_iinc hE dX5_wearOut_110 3 (nI (k + 1)) [(1, .int (nI (k + 1))), (3, .int (2 * ((q 3) ((4 * s) + 3)))), (2, .int ((q 7) k)), (0, .ref (a 0))] rfl (nI_1 _) (by decide) rfl ?_
                refine g_goto hE 2 dX5_wearOut_113 (by decide) ?_
                refine g_locals [3, 0] [(0, .ref (a 0)), (1, .int (nI (k + 1)))] rfl ?_
                exact ih_2 (k + 1) (upd mh s 60) (by first | assumption | omega) (wr_y hm hr hs hsv8 ((wr_has hfal hl6 (show k < l by omega)).mp c12) (hW s hs).1 (hW s hs).2.2.1 (by_2 (show ¬ ((q 8) s) < 2 from c3)) (if_pos (show 60 < ((mh s) + (2 * ((q 3) ((4 * s) + 3)))) from (Int32.not_le.mp c14))).symm) (by omega)
            · rw [if_neg c12] at h11
              subst h11
              show Go E Q 4 0 0 75 [(3, .int (2 * ((q 3) ((4 * s) + 3)))), (2, .int ((q 7) k)), (0, .ref (a 0)), (1, .int (nI k))] [.int 0] (modelW cI a (pA q 9 mh))
              refine g_if_eq hE 110 dX5_wearOut_75 (by decide) (fun c15 => ?_) (fun c15 => absurd (by decide) c15)
              refine g_iinc hE dX5_wearOut_110 3 (nI (k + 1)) [(1, .int (nI (k + 1))), (3, .int (2 * ((q 3) ((4 * s) + 3)))), (2, .int ((q 7) k)), (0, .ref (a 0))] rfl (nI_1 _) (by decide) rfl ?_
              refine g_goto hE 2 dX5_wearOut_113 (by decide) ?_
              refine g_locals [3, 0] [(0, .ref (a 0)), (1, .int (nI (k + 1)))] rfl ?_
              exact ih_2 (k + 1) mh (by first | assumption | omega) (wr_n hm (fun z => c12 ((wr_has hfal hl6 (show k < l by omega)).mpr z))) (by omega)
        · refine g_iconst hE dX5_wearOut_27 0 (by decide) ?_
          refine g_goto hE 66 dX5_wearOut_28 (by decide) ?_
          refine g_istore_n hE dX5_wearOut_66 [(3, .int 0), (2, .int ((q 7) k)), (0, .ref (a 0)), (1, .int (nI k))] rfl (by decide) rfl ?_
          refine g_aload_n hE dX5_wearOut_67 2 rfl ?_
          refine g_get hE fl_X5_170 dX5_wearOut_68 0 rfl rfl ?_
          refine g_iload_n hE dX5_wearOut_71 3 rfl ?_
          refine g_callS hE (c_X5_has cI cS (q 18 9) (nI k)) mk_X5_has st_X5_has ml_X5_156 dX5_wearOut_72 (As := [.int (q 18 9), .int (nI k)]) (rest := []) rfl rfl (by decide) (by decide) (Nat.le_of_ble_eq_true rfl) (by decide) (by decide) [] rfl (by decide) (fun u => Nat.le_of_ble_eq_true rfl) (ws' := fun u => modelW cI a (pA q 9 mh)) (fun u => rfl) (fun u hu => ?_)
          obtain ⟨r_16, rfl⟩ : ∃ z, z = u := ⟨_, rfl⟩
          have h17 : r_16 = if (((q 18 9) >>> ((nI k) &&& 31)) &&& 1) = 1 then 1 else 0 := hu
          by_cases c18 : (((q 18 9) >>> ((nI k) &&& 31)) &&& 1) = 1
          · rw [if_pos c18] at h17
            subst h17
            show Go E Q 4 0 0 75 [(3, .int 0), (2, .int ((q 7) k)), (0, .ref (a 0)), (1, .int (nI k))] [.int 1] (modelW cI a (pA q 9 mh))
            refine g_if_eq hE 110 dX5_wearOut_75 (by decide) (fun c19 => absurd c19 (by decide)) (fun c19 => ?_)
            refine g_aload_n hE dX5_wearOut_78 2 rfl ?_
            refine g_get hE fl_X5_37 dX5_wearOut_79 0 rfl rfl ?_
            refine g_iload_n hE dX5_wearOut_82 1 rfl ?_
            refine g_aload_n hE dX5_wearOut_83 2 rfl ?_
            refine g_get hE fl_X5_37 dX5_wearOut_84 0 rfl rfl ?_
            refine g_iload_n hE dX5_wearOut_87 1 rfl ?_
            refine g_iald_n hE dX5_wearOut_88 10 rfl (show ((q 7) k) = nI s from hs2) (by omega) ?_
            refine g_iload_n hE dX5_wearOut_89 0 rfl ?_
            refine g_iadd hE dX5_wearOut_90 ?_
            refine g_bipush hE dX5_wearOut_91 60 (by decide) ?_
            refine g_icmp_le hE 101 dX5_wearOut_93 (by decide) (fun c20 => ?_) (fun c20 => ?_)
            · refine g_aload_n hE dX5_wearOut_101 2 rfl ?_
              refine g_get hE fl_X5_37 dX5_wearOut_102 0 rfl rfl ?_
              refine g_iload_n hE dX5_wearOut_105 1 rfl ?_
              refine g_iald_n hE dX5_wearOut_106 10 rfl (show ((q 7) k) = nI s from hs2) (by omega) ?_
              refine g_iload_n hE dX5_wearOut_107 0 rfl ?_
              refine g_iadd hE dX5_wearOut_108 ?_
              refine g_iast_n hE dX5_wearOut_109 10 rfl (show ((q 7) k) = nI s from hs2) (by omega) (modelW cI a (pA (pA q 9 mh) 9 (upd mh s ((mh s) + 0)))) rfl ?_
              refine g_iinc hE dX5_wearOut_110 3 (nI (k + 1)) [(1, .int (nI (k + 1))), (3, .int 0), (2, .int ((q 7) k)), (0, .ref (a 0))] rfl (nI_1 _) (by decide) rfl ?_
              refine g_goto hE 2 dX5_wearOut_113 (by decide) ?_
              refine g_locals [3, 0] [(0, .ref (a 0)), (1, .int (nI (k + 1)))] rfl ?_
              exact ih_2 (k + 1) (upd mh s ((mh s) + 0)) (by first | assumption | omega) (wr_y hm hr hs hsv8 ((wr_has hfal hl6 (show k < l by omega)).mp c18) (hW s hs).1 (hW s hs).2.2.1 (by_1 (show ((q 8) s) = 1 from c2)) (if_neg (show ¬ 60 < ((mh s) + 0) from (Int32.not_lt.mpr c20))).symm) (by omega)
            · refine g_bipush hE dX5_wearOut_96 60 (by decide) ?_
              refine g_goto hE 109 dX5_wearOut_98 (by decide) ?_
              refine g_iast_n hE dX5_wearOut_109 10 rfl (show ((q 7) k) = nI s from hs2) (by omega) (modelW cI a (pA (pA q 9 mh) 9 (upd mh s 60))) rfl ?_
              refine g_iinc hE dX5_wearOut_110 3 (nI (k + 1)) [(1, .int (nI (k + 1))), (3, .int 0), (2, .int ((q 7) k)), (0, .ref (a 0))] rfl (nI_1 _) (by decide) rfl ?_
              refine g_goto hE 2 dX5_wearOut_113 (by decide) ?_
              refine g_locals [3, 0] [(0, .ref (a 0)), (1, .int (nI (k + 1)))] rfl ?_
              exact ih_2 (k + 1) (upd mh s 60) (by first | assumption | omega) (wr_y hm hr hs hsv8 ((wr_has hfal hl6 (show k < l by omega)).mp c18) (hW s hs).1 (hW s hs).2.2.1 (by_1 (show ((q 8) s) = 1 from c2)) (if_pos (show 60 < ((mh s) + 0) from (Int32.not_le.mp c20))).symm) (by omega)
          · rw [if_neg c18] at h17
            subst h17
            show Go E Q 4 0 0 75 [(3, .int 0), (2, .int ((q 7) k)), (0, .ref (a 0)), (1, .int (nI k))] [.int 0] (modelW cI a (pA q 9 mh))
            refine g_if_eq hE 110 dX5_wearOut_75 (by decide) (fun c21 => ?_) (fun c21 => absurd (by decide) c21)
            refine g_iinc hE dX5_wearOut_110 3 (nI (k + 1)) [(1, .int (nI (k + 1))), (3, .int 0), (2, .int ((q 7) k)), (0, .ref (a 0))] rfl (nI_1 _) (by decide) rfl ?_
            refine g_goto hE 2 dX5_wearOut_113 (by decide) ?_
            refine g_locals [3, 0] [(0, .ref (a 0)), (1, .int (nI (k + 1)))] rfl ?_
            exact ih_2 (k + 1) mh (by first | assumption | omega) (wr_n hm (fun z => c18 ((wr_has hfal hl6 (show k < l by omega)).mpr z))) (by omega)
  refine g_locals [1, 0] [(0, .ref (a 0)), (1, .int 0)] rfl ?_
  exact L2 _ 0 (q 9) (Nat.zero_le _) (fun s hs => (hW s hs).2.1) (Nat.lt_succ_self _)
set_option maxHeartbeats 4000000 in
set_option maxRecDepth 100000 in
theorem c_X5_keep (cI cS : ClassId) (a : Nat → Nat) (q : Nat → Nat → Int32) {l : Nat} (htm : q 18 7 = nI l) (hl6 : l ≤ 6) {sv : Nat} (hsv : q 18 1 = nI sv) (hsv8 : sv ≤ 8) {n : Nat} (m : MS) (row : Nat → Int32) (hRA : RA (q 7) row l sv) (hW : ∀ s, s < sv → q 8 s = m 3 s ∧ q 9 s = m 4 s ∧ q 3 (4 * s + 3) = m 6 s ∧ 0 ≤ m 3 s) (hfal : q 18 9 = nI (flN m n row l)) : CT cI cS yX5_keep cX5_keep 2 none 2 [.ref (a 0)] (modelW cI a q) 0 0 (fun u : (Nat → Int32) => ∀ s, s < sv → u s = wrM m n row l 4 s) (fun u => none) (fun u => (modelW cI a (pA (pA (pA q 9 u) 3 (kpZ (q 3) u sv)) 18 (upd (q 18) 3 (evS (q 18 3)))))) := by
  refine ct_intro (by decide) (Nat.le_of_ble_eq_true rfl) (fun E Q hE hQ hI => ?_)
  have hE : CxOk E cI cS RX5 cX5_keep 2 none 2 0 0 := hE
  show Go E Q 2 0 0 0 [(0, .ref (a 0))] [] (modelW cI a q)
  refine g_aload_n hE dX5_keep_0 0 rfl ?_
  refine g_callV hE (c_X5_wearOut cI cS a q htm hl6 hsv8 m row hRA hW hfal) mk_X5_wearOut mv_X5_wearOut ml_X5_198 dX5_keep_1 (As := []) (rest := []) rfl rfl 0 rfl (show vwCl[5]? = some (RX5, TX5, 32) from rfl) (by decide) (by decide) (Nat.le_of_ble_eq_true rfl) (by decide) (by decide) [0, 1, 2, 3, 4, 5, 6, 7, 8, 9, 10, 11, 12, 13, 14, 15, 16, 17, 18] rfl (by decide) (fun u => Nat.le_of_ble_eq_true rfl) (ws' := fun u => modelW cI a (pA q 9 u)) (fun u => rfl) (fun u hu => ?_)
  obtain ⟨mh_1, rfl⟩ : ∃ z, z = u := ⟨_, rfl⟩
  have h2 : ∀ s, s < sv → mh_1 s = wrM m n row l 4 s := hu
  show Go E Q 2 0 0 4 [(0, .ref (a 0))] [] (modelW cI a (pA q 9 mh_1))
  refine g_iconst hE dX5_keep_4 0 (by decide) ?_
  refine g_istore_n hE dX5_keep_5 [(1, .int 0), (0, .ref (a 0))] rfl (by decide) rfl ?_
  have L6 : ∀ (n_6 : Nat) (s : Nat) (zz : Nat → Int32), (s ≤ sv) → (zz = kpZ (q 3) mh_1 s) → (sv - s < n_6) → Go E Q 2 0 0 6 [(0, .ref (a 0)), (1, .int (nI s))] [] (modelW cI a (pA (pA q 9 mh_1) 3 zz)) := by
    intro n_6
    induction n_6 with
    | zero => intro s zz hs hz hm_6; exact absurd hm_6 (Nat.not_lt_zero _)
    | succ n_6 ih_6 =>
      intro s zz hs hz hm_6
      refine g_iload_n hE dX5_keep_6 1 rfl ?_
      refine g_aload_n hE dX5_keep_7 0 rfl ?_
      refine g_get hE fl_X5_72 dX5_keep_8 0 rfl rfl ?_
      refine g_icmp_ge hE 36 dX5_keep_11 (by decide) (fun c3 => ?_) (fun c3 => ?_)
      · have kc3 := nat_le_t (show (q 18 1) = nI sv from hsv) (show (nI s) = nI s from rfl) (by omega) (by omega) c3
        refine g_aload_n hE dX5_keep_36 0 rfl ?_
        refine g_aload_n hE dX5_keep_37 0 rfl ?_
        refine g_get hE fl_X5_105 dX5_keep_38 0 rfl rfl ?_
        refine g_ldc hE dX5_keep_41 ck_X5_201 ?_
        refine g_icmp_ne hE 51 dX5_keep_43 (by decide) (fun c4 => ?_) (fun c4 => ?_)
        · refine g_aload_n hE dX5_keep_51 0 rfl ?_
          refine g_get hE fl_X5_105 dX5_keep_52 0 rfl rfl ?_
          refine g_iconst hE dX5_keep_55 1 (by decide) ?_
          refine g_iadd hE dX5_keep_56 ?_
          refine g_put hE fl_X5_105 fp_5_8 dX5_keep_57 0 rfl rfl rfl (Nat.le_of_ble_eq_true rfl) (modelW cI a (pA (pA (pA q 9 mh_1) 3 zz) 18 (upd (q 18) 3 ((q 18 3) + 1)))) (by rfl) ?_
          have el : s = sv := (by omega)
          rw [el] at hz
          subst hz
          refine g_world (modelW cI a (pA (pA (pA q 9 mh_1) 3 (kpZ (q 3) mh_1 sv)) 18 (upd (q 18) 3 (evS (q 18 3))))) (by unfold evS; rw [if_neg (show ¬ (q 18 3) = 1000000 from c4)]) ?_
          exact g_vret hE hQ dX5_keep_60 mh_1 rfl rfl h2
        · refine g_ldc hE dX5_keep_46 ck_X5_201 ?_
          refine g_goto hE 57 dX5_keep_48 (by decide) ?_
          refine g_put hE fl_X5_105 fp_5_8 dX5_keep_57 0 rfl rfl rfl (Nat.le_of_ble_eq_true rfl) (modelW cI a (pA (pA (pA q 9 mh_1) 3 zz) 18 (upd (q 18) 3 1000000))) (by rfl) ?_
          have el : s = sv := (by omega)
          rw [el] at hz
          subst hz
          refine g_world (modelW cI a (pA (pA (pA q 9 mh_1) 3 (kpZ (q 3) mh_1 sv)) 18 (upd (q 18) 3 (evS (q 18 3))))) (by unfold evS; rw [if_pos (show (q 18 3) = 1000000 from c4)]) ?_
          exact g_vret hE hQ dX5_keep_60 mh_1 rfl rfl h2
      · have kc3 := nat_le_f (show (q 18 1) = nI sv from hsv) (show (nI s) = nI s from rfl) (by omega) (by omega) c3
        refine g_aload_n hE dX5_keep_14 0 rfl ?_
        refine g_get hE fl_X5_19 dX5_keep_15 0 rfl rfl ?_
        refine g_iconst hE dX5_keep_18 4 (by decide) ?_
        refine g_iload_n hE dX5_keep_19 1 rfl ?_
        refine g_imul_n hE dX5_keep_20 (show 4 = nI 4 from rfl) (show (nI s) = nI s from rfl) ?_
        refine g_iconst hE dX5_keep_21 1 (by decide) ?_
        refine g_iadd_n hE dX5_keep_22 (show (nI (4 * s)) = nI (4 * s) from rfl) (show 1 = nI 1 from rfl) ?_
        refine g_aload_n hE dX5_keep_23 0 rfl ?_
        refine g_get hE fl_X5_37 dX5_keep_24 0 rfl rfl ?_
        refine g_iload_n hE dX5_keep_27 1 rfl ?_
        refine g_iald_n hE dX5_keep_28 10 rfl (show (nI s) = nI s from rfl) (by omega) ?_
        refine g_iast_n hE dX5_keep_29 4 rfl (show (nI ((4 * s) + 1)) = nI ((4 * s) + 1) from rfl) (by omega) (modelW cI a (pA (pA (pA q 9 mh_1) 3 zz) 3 (upd zz ((4 * s) + 1) (mh_1 s)))) rfl ?_
        refine g_iinc hE dX5_keep_30 1 (nI (s + 1)) [(1, .int (nI (s + 1))), (0, .ref (a 0))] rfl (nI_1 _) (by decide) rfl ?_
        refine g_goto hE 6 dX5_keep_33 (by decide) ?_
        refine g_locals [1, 0] [(0, .ref (a 0)), (1, .int (nI (s + 1)))] rfl ?_
        exact ih_6 (s + 1) (upd zz ((4 * s) + 1) (mh_1 s)) (by first | assumption | omega) (kpZ_s hz) (by omega)
  refine g_locals [1, 0] [(0, .ref (a 0)), (1, .int 0)] rfl ?_
  exact L6 _ 0 (q 3) (Nat.zero_le _) (kpZ_0 _ _).symm (Nat.lt_succ_self _)
set_option maxHeartbeats 4000000 in
set_option maxRecDepth 100000 in
theorem c_X5_tryNow (cI cS : ClassId) (a : Nat → Nat) (q : Nat → Nat → Int32) {n : Nat} (hgr : q 18 0 = nI n) (hn6 : n ≤ 6) {sv : Nat} (hsv : q 18 1 = nI sv) (hsv8 : sv ≤ 8) {pl : Nat} (hpl : q 18 2 = nI pl) (hpl6 : pl ≤ 6) (m : MS) (hTQ : TQ q m n sv pl) : CT cI cS yX5_tryNow cX5_tryNow 1 none 2 [.ref (a 0)] (modelW cI a q) 0 0 (fun u : (Nat → Int32) × (Nat → Int32) × (Nat → Int32) × (Nat → Int32) => (∀ s, s < sv → u.1 s = q 3 (4 * s) ∧ u.2.1 s = q 3 (4 * s + 1)) ∧ (∀ k, k < pl → u.2.2.1 k = q 4 k) ∧ ∀ g, g < n → u.2.2.2 g = hA m n (m 7) pl pl g) (fun u => none) (fun u => (modelW cI a (pA (pA (pA (pA (pA q 8 u.1) 9 u.2.1) 7 u.2.2.1) 10 u.2.2.2) 18 (upd (upd (upd (q 18) 7 (q 18 2)) 8 (chR m n (m 7) pl)) 9 (nI (flN m n (m 7) pl)))))) := by
  refine ct_intro (by decide) (Nat.le_of_ble_eq_true rfl) (fun E Q hE hQ hI => ?_)
  have hE : CxOk E cI cS RX5 cX5_tryNow 1 none 2 0 0 := hE
  show Go E Q 1 0 0 0 [(0, .ref (a 0))] [] (modelW cI a q)
  refine g_aload_n hE dX5_tryNow_0 0 rfl ?_
  refine g_callV hE (c_X5_begin cI cS a q hsv hsv8) mk_X5_begin mv_X5_begin ml_X5_183 dX5_tryNow_1 (As := []) (rest := []) rfl rfl 0 rfl (show vwCl[5]? = some (RX5, TX5, 32) from rfl) (by decide) (by decide) (Nat.le_of_ble_eq_true rfl) (by decide) (by decide) [0, 1, 2, 3, 4, 5, 6, 7, 8, 9, 10, 11, 12, 13, 14, 15, 16, 17, 18] rfl (by decide) (fun u => Nat.le_of_ble_eq_true rfl) (ws' := fun u => modelW cI a (pA (pA q 8 u.1) 9 u.2)) (fun u => rfl) (fun u hu => ?_)
  obtain ⟨tk_1, ms_2⟩ := u
  have h3 : ∀ s, s < sv → tk_1 s = (q 3) (4 * s) ∧ ms_2 s = (q 3) (4 * s + 1) := hu
  show Go E Q 1 0 0 4 [(0, .ref (a 0))] [] (modelW cI a (pA (pA q 8 tk_1) 9 ms_2))
  refine g_aload_n hE dX5_tryNow_4 0 rfl ?_
  refine g_callV hE (c_X5_takeRow cI cS a (pA (pA q 8 tk_1) 9 ms_2) hpl hpl6) mk_X5_takeRow mv_X5_takeRow ml_X5_186 dX5_tryNow_5 (As := []) (rest := []) rfl rfl 0 rfl (show vwCl[5]? = some (RX5, TX5, 32) from rfl) (by decide) (by decide) (Nat.le_of_ble_eq_true rfl) (by decide) (by decide) [0, 1, 2, 3, 4, 5, 6, 7, 8, 9, 10, 11, 12, 13, 14, 15, 16, 17, 18] rfl (by decide) (fun u => Nat.le_of_ble_eq_true rfl) (ws' := fun u => modelW cI a (pA (pA (pA (pA q 8 tk_1) 9 ms_2) 18 (upd (q 18) 7 (q 18 2))) 7 u)) (fun u => rfl) (fun u hu => ?_)
  obtain ⟨tr_4, rfl⟩ : ∃ z, z = u := ⟨_, rfl⟩
  have h5 : ∀ k, k < pl → tr_4 k = (q 4) k := hu
  show Go E Q 1 0 0 8 [(0, .ref (a 0))] [] (modelW cI a (pA (pA (pA (pA q 8 tk_1) 9 ms_2) 18 (upd (q 18) 7 (q 18 2))) 7 tr_4))
  refine g_aload_n hE dX5_tryNow_8 0 rfl ?_
  refine g_callV hE (c_X5_shakeOnce cI cS a (pA (pA (pA (pA q 8 tk_1) 9 ms_2) 18 (upd (q 18) 7 (q 18 2))) 7 tr_4) hgr hn6 hpl hpl6 hsv8 m (m 7) (sa_mk hTQ rfl rfl rfl h3) (ra_mk hTQ h5)) mk_X5_shakeOnce mv_X5_shakeOnce ml_X5_189 dX5_tryNow_9 (As := []) (rest := []) rfl rfl 0 rfl (show vwCl[5]? = some (RX5, TX5, 32) from rfl) (by decide) (by decide) (Nat.le_of_ble_eq_true rfl) (by decide) (by decide) [0, 1, 2, 3, 4, 5, 6, 7, 8, 9, 10, 11, 12, 13, 14, 15, 16, 17, 18] rfl (by decide) (fun u => Nat.le_of_ble_eq_true rfl) (ws' := fun u => modelW cI a (pA (pA (pA (pA (pA (pA q 8 tk_1) 9 ms_2) 18 (upd (q 18) 7 (q 18 2))) 7 tr_4) 10 u) 18 (upd (upd (upd (q 18) 7 (q 18 2)) 8 (chR m n (m 7) pl)) 9 (nI (flN m n (m 7) pl))))) (fun u => rfl) (fun u hu => ?_)
  obtain ⟨h_6, rfl⟩ : ∃ z, z = u := ⟨_, rfl⟩
  have h7 : ∀ g, g < n → h_6 g = hA m n (m 7) pl pl g := hu
  show Go E Q 1 0 0 12 [(0, .ref (a 0))] [] (modelW cI a (pA (pA (pA (pA (pA (pA q 8 tk_1) 9 ms_2) 18 (upd (q 18) 7 (q 18 2))) 7 tr_4) 10 h_6) 18 (upd (upd (upd (q 18) 7 (q 18 2)) 8 (chR m n (m 7) pl)) 9 (nI (flN m n (m 7) pl)))))
  exact g_vret hE hQ dX5_tryNow_12 (tk_1, ms_2, tr_4, h_6) rfl rfl ⟨h3, h5, h7⟩
