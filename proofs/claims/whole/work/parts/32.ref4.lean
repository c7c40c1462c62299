/-! the reference: shaking calls -/
def RG (m : MS) (n sv pl : Nat) : Prop := (∀ g, g < n → 1 ≤ m 0 g ∧ m 0 g ≤ 60 ∧ 0 ≤ m 1 g ∧ m 1 g ≤ 9999 ∧ 0 ≤ m 2 g ∧ m 2 g ≤ 99) ∧ (∀ s, s < sv → 0 ≤ m 3 s ∧ m 3 s ≤ 3 ∧ 1 ≤ m 4 s ∧ m 4 s ≤ 60 ∧ 1 ≤ m 5 s ∧ m 5 s ≤ 99999 ∧ 0 ≤ m 6 s ∧ m 6 s ≤ 3) ∧ (∀ j k, j < k → k < pl → ¬ m 7 j = m 7 k) ∧ 0 ≤ m 9 3 ∧ m 9 3 ≤ 1000000
def RQ (q m : MS) (n sv pl : Nat) : Prop := MW m n sv pl ∧ TQ q m n sv pl ∧ RG m n sv pl
/-- what the other calls keep: tape, kept image, sheets -/
def OF (q2 q : MS) : Prop := q2 5 = q 5 ∧ q2 13 = q 13 ∧ q2 14 = q 14 ∧ q2 15 = q 15 ∧ q2 16 = q 16 ∧ q2 18 4 = q 18 4 ∧ q2 18 13 = q 18 13
def TF (q2 q : MS) : Prop := q2 0 = q 0 ∧ q2 1 = q 1 ∧ q2 2 = q 2 ∧ q2 3 = q 3 ∧ q2 4 = q 4 ∧ q2 18 0 = q 18 0 ∧ q2 18 1 = q 18 1 ∧ q2 18 2 = q 18 2 ∧ q2 18 3 = q 18 3
theorem TF_TQ {q2 q m : MS} {n sv pl : Nat} (h : TF q2 q) (hT : TQ q m n sv pl) : TQ q2 m n sv pl := by
  unfold TQ
  rw [h.1, h.2.1, h.2.2.1, h.2.2.2.1, h.2.2.2.2.1, h.2.2.2.2.2.1, h.2.2.2.2.2.2.1, h.2.2.2.2.2.2.2.1, h.2.2.2.2.2.2.2.2]
  exact hT
theorem TF_RQ {q2 q m : MS} {n sv pl : Nat} (h : TF q2 q) (hT : RQ q m n sv pl) : RQ q2 m n sv pl := ⟨hT.1, TF_TQ h hT.2.1, hT.2.2⟩
/-- rows of different sieves -/
def DR (row : Nat → Int32) (l sv : Nat) : Prop := (∀ j k, j < k → k < l → ¬ row j = row k) ∧ ∀ k, k < l → ∃ s, s < sv ∧ row k = nI s
theorem RQ_DR {q m : MS} {n sv pl : Nat} (h : RQ q m n sv pl) : DR (m 7) pl sv := ⟨h.2.2.2.2.1, fun k hk => (h.2.1.2.2.1 k hk).2⟩
theorem wr_4 {m : MS} {n s l sv : Nat} {row : Nat → Int32} (hd : DR row l sv) (hsv : sv ≤ 8) (hs : s < 8) : ∀ {k : Nat}, k ≤ l → (∀ j, j < k → ¬ row j = nI s) → wrM m n row k 4 s = m 4 s
  | 0, _, _ => rfl
  | k + 1, hk, h => by
    rw [wrM]
    have ih := wr_4 (m := m) (n := n) hd hsv hs (k := k) (by omega) (fun j hj => h j (by omega))
    split
    · exact ih
    · obtain ⟨s', h1, h2⟩ := hd.2 k (by omega)
      show putv (wrM m n row k 4) 8 (row k) _ s = m 4 s
      have hne : s ≠ s' := fun e => h k (by omega) (by rw [h2, e])
      rw [h2, putv_n (by omega) (by decide)]
      show (if s = s' then _ else wrM m n row k 4 s) = m 4 s
      rw [if_neg hne, ih]
theorem fall_wr {m : MS} {n l sv c k : Nat} {row : Nat → Int32} (hd : DR row l sv) (hsv : sv ≤ 8) (hk : k < l) : fallS (wrM m n row k) n (row k) c = fallS m n (row k) c := by
  obtain ⟨s, h1, h2⟩ := hd.2 k hk
  have e4 : atv (wrM m n row k 4) 8 (row k) = atv (m 4) 8 (row k) := by
    rw [h2, atv_n (by omega) (by decide), atv_n (by omega) (by decide)]
    exact wr_4 hd hsv (by omega) (by omega) (fun j hj => by rw [← h2]; exact hd.1 j k hj hk)
  unfold fallS bigS
  rw [e4, wr_off (j := 5) rfl k, wr_off (j := 1) rfl k, wr_off (j := 3) rfl k, wr_off (j := 0) rfl k]
theorem sh_wr {m : MS} {n l sv : Nat} {row : Nat → Int32} (hd : DR row l sv) (hsv : sv ≤ 8) : ∀ k, k ≤ l → (shS m n row k).1 = wrM m n row k ∧ (shS m n row k).2.1 = cmS m n row k ∧ (shS m n row k).2.2 = vS m n row l k
  | 0, _ => ⟨rfl, rfl, rfl⟩
  | k + 1, hk => by
    obtain ⟨h1, h2, h3⟩ := sh_wr (m := m) (n := n) hd hsv k (by omega)
    have e2 : (shS m n row (k + 1)).2.1 = cmS m n row (k + 1) := by
      show fallS (shS m n row k).1 n (row k) (shS m n row k).2.1 = fallS m n (row k) (cmS m n row k)
      rw [h1, h2, fall_wr hd hsv (by omega)]
    refine ⟨?_, e2, ?_⟩
    · show (if (shS m n row (k + 1)).2.1 = 0 then (shS m n row k).1 else widS (shS m n row k).1 (row k)) = wrM m n row (k + 1)
      rw [e2, h1]; rfl
    · show (shS m n row k).2.2 + wS m n (nd (shS m n row k).2.1 (shS m n row (k + 1)).2.1) = vS m n row l (k + 1)
      rw [h3, e2, h2, vS, hpS, if_pos (by omega)]
theorem shV_vS {m : MS} {n l sv : Nat} {row : Nat → Int32} (hd : DR row l sv) (hsv : sv ≤ 8) : shV m n row l = vS m n row l (l + 1) := by
  obtain ⟨h1, h2, h3⟩ := sh_wr (m := m) (n := n) hd hsv l (Nat.le_refl _)
  rw [shV, h3, h2, vS, hpS, if_neg (by omega)]
theorem shM_wr {m : MS} {n l sv : Nat} {row : Nat → Int32} (hd : DR row l sv) (hsv : sv ≤ 8) : shM m n row l = shkS (wrM m n row l) := by
  rw [shM, (sh_wr (m := m) (n := n) hd hsv l (Nat.le_refl _)).1]
theorem wid_60 : ∀ A, A ≤ 60 → 1 ≤ A → ∀ T, T ≤ 2 → ∀ W, W ≤ 3 → 1 ≤ (if (60 : Int32) < nI A + nI T * nI W then 60 else nI A + nI T * nI W) ∧ (if (60 : Int32) < nI A + nI T * nI W then 60 else nI A + nI T * nI W) ≤ 60 := by decide +kernel
theorem tmS_n (k : Int32) : ∃ T, T ≤ 2 ∧ tmS k = nI T := by
  unfold tmS
  split
  · exact ⟨0, by decide, rfl⟩
  · split
    · exact ⟨1, by decide, rfl⟩
    · exact ⟨2, by decide, rfl⟩
theorem rng_n {x lo hi : Int32} {a b : Nat} (h1 : lo ≤ x) (h2 : x ≤ hi) (ha : lo = nI a) (hb : hi = nI b) (hb2 : b < 2 ^ 31) (hab : a ≤ b) : ∃ j, a ≤ j ∧ j ≤ b ∧ x = nI j := by
  have h0 : (0 : Int32) ≤ x := Int32.le_trans (by rw [ha]; exact nI_le (a := 0) (by omega) (by omega)) h1
  obtain ⟨j, j1, j2, _⟩ := nat_of_le (b := b) ⟨h0, h2⟩ hb hb2
  refine ⟨j, ?_, j1, j2⟩
  subst j2; subst ha
  exact (nI_leI (by omega) (by omega)).mp h1
theorem wr_rng {m : MS} {n l sv pl : Nat} {row : Nat → Int32} (hG : RG m n sv pl) (hd : DR row l sv) (hsv : sv ≤ 8) : ∀ k, k ≤ l → ∀ s, s < sv → 1 ≤ wrM m n row k 4 s ∧ wrM m n row k 4 s ≤ 60
  | 0, _, s, hs => ⟨(hG.2.1 s hs).2.2.1, (hG.2.1 s hs).2.2.2.1⟩
  | k + 1, hk, s, hs => by
    have ih := wr_rng hG hd hsv k (by omega)
    rw [wrM]
    split
    · exact ih s hs
    · obtain ⟨s', h1, h2⟩ := hd.2 k (by omega)
      show 1 ≤ putv (wrM m n row k 4) 8 (row k) _ s ∧ putv (wrM m n row k 4) 8 (row k) _ s ≤ 60
      rw [h2, putv_n (by omega) (by decide), atv_n (by omega) (by decide), atv_n (by omega) (by decide), atv_n (by omega) (by decide), wr_off (j := 6) rfl k]
      by_cases e : s = s'
      · subst e
        obtain ⟨A, a1, a2, a3⟩ := rng_n (a := 1) (b := 60) (ih s hs).1 (ih s hs).2 rfl rfl (by decide) (by decide)
        obtain ⟨W, w1, w2, w3⟩ := rng_n (a := 0) (b := 3) (hG.2.1 s hs).2.2.2.2.2.2.1 (hG.2.1 s hs).2.2.2.2.2.2.2 rfl rfl (by decide) (by decide)
        obtain ⟨T, t1, t2⟩ := tmS_n (wrM m n row k 3 s)
        show 1 ≤ (if s = s then _ else _) ∧ (if s = s then _ else _) ≤ (60 : Int32)
        rw [if_pos rfl, a3, w3, t2]
        exact wid_60 A a2 a1 T t1 W w2
      · show 1 ≤ (if s = s' then _ else _) ∧ (if s = s' then _ else wrM m n row k 4 s) ≤ 60
        rw [if_neg e]; exact ih s hs
theorem ev_sh {x : Int32} (h0 : 0 ≤ x) (h1 : x ≤ 1000000) : evS x = (if 1000000 < (x + 1) then 1000000 else (x + 1)) ∧ 0 ≤ evS x ∧ evS x ≤ 1000000 := by
  obtain ⟨j, j0, j1, j2⟩ := rng_n (a := 0) (b := 1000000) h0 h1 rfl rfl (by decide) (by decide)
  subst j2
  unfold evS
  by_cases e : j = 1000000
  · subst e; exact ⟨by decide, by decide, by decide⟩
  · have e1 : ¬ nI j = 1000000 := fun q => e ((nI_eq (b := 1000000) (by omega) (by decide)).mp q)
    have e2 : nI j + 1 = nI (j + 1) := (nI_1 j).symm ▸ rfl
    rw [if_neg e1, e2]
    have e3 : ¬ (1000000 : Int32) < nI (j + 1) := fun q => by
      have := (nI_ltI (a := 1000000) (by decide) (by omega)).mp q
      omega
    rw [if_neg e3]
    exact ⟨rfl, nI_le (a := 0) (by omega) (by omega), nI_le (b := 1000000) (by omega) (by decide)⟩
theorem shk_off {w : MS} {j : Nat} (hj : Nat.beq j 9 = false) : shkS w j = w j := by
  show cond (Nat.beq j 9) _ (w j) = w j
  rw [hj]; rfl
theorem RQ_keep {q m st : MS} {n sv pl l : Nat} {row mh : Nat → Int32} (h : RQ q m n sv pl) (hd : DR row l sv) (hm : ∀ s, s < sv → mh s = wrM m n row l 4 s) (e0 : st 0 = q 0) (e1 : st 1 = q 1) (e2 : st 2 = q 2) (e3 : st 3 = kpZ (q 3) mh sv) (e4 : st 4 = q 4) (c0 : st 18 0 = q 18 0) (c1 : st 18 1 = q 18 1) (c2 : st 18 2 = q 18 2) (c3 : st 18 3 = evS (q 18 3)) : RQ st (shM m n row l) n sv pl := by
  have hsv := h.1.2.2.2.1
  rw [shM_wr hd hsv]
  obtain ⟨hM, hT, hG⟩ := h
  have f : ∀ j, Nat.beq j 9 = false → Nat.beq j 4 = false → shkS (wrM m n row l) j = m j := fun j a b => (shk_off a).trans (wr_off b l)
  have f4 : shkS (wrM m n row l) 4 = wrM m n row l 4 := shk_off rfl
  have f9 : ∀ j, j < 3 → shkS (wrM m n row l) 9 j = m 9 j := fun j hj => by
    show (if j = 3 then _ else wrM m n row l 9 j) = m 9 j
    rw [if_neg (by omega), wr_off (j := 9) rfl l]
  have f93 : shkS (wrM m n row l) 9 3 = evS (m 9 3) := by
    show (if 1000000 < (wrM m n row l 9 3 + 1) then 1000000 else (wrM m n row l 9 3 + 1)) = _
    rw [wr_off (j := 9) rfl l, ← (ev_sh hG.2.2.2.1 hG.2.2.2.2).1]
  refine ⟨?_, ?_, ?_⟩
  · unfold MW; rw [f9 0 (by decide), f9 1 (by decide), f9 2 (by decide)]; exact hM
  · unfold TQ
    rw [f 0 rfl rfl, f 1 rfl rfl, f 2 rfl rfl, f 3 rfl rfl, f4, f 5 rfl rfl, f 6 rfl rfl, f 7 rfl rfl, f93, e0, e1, e2, e3, e4, c0, c1, c2, c3, hT.2.2.2.2.2.2]
    refine ⟨hT.1, fun s hs => ?_, hT.2.2.1, hT.2.2.2.1, hT.2.2.2.2.1, hT.2.2.2.2.2.1, rfl⟩
    rw [kpZ_1 hs, kpZ_n (by omega), kpZ_n (by omega), kpZ_n (by omega)]
    exact ⟨(hT.2.1 s hs).1, hm s hs, (hT.2.1 s hs).2.2⟩
  · unfold RG
    rw [f 0 rfl rfl, f 1 rfl rfl, f 2 rfl rfl, f 3 rfl rfl, f4, f 5 rfl rfl, f 6 rfl rfl, f 7 rfl rfl, f93]
    have ev := ev_sh hG.2.2.2.1 hG.2.2.2.2
    refine ⟨hG.1, fun s hs => ?_, hG.2.2.1, ev.2⟩
    have w := wr_rng hG hd hsv l (Nat.le_refl _) s hs
    have r := hG.2.1 s hs
    exact ⟨r.1, r.2.1, w.1, w.2, r.2.2.2.2⟩
theorem hw_of {q m : MS} {n sv pl s : Nat} {a b : Int32} (h : RQ q m n sv pl) (hs : s < sv) (hb : a = q 3 (4 * s) ∧ b = q 3 (4 * s + 1)) : a = m 3 s ∧ b = m 4 s ∧ q 3 (4 * s + 3) = m 6 s ∧ 0 ≤ m 3 s := ⟨hb.1.trans (h.2.1.2.1 s hs).1, hb.2.trans (h.2.1.2.1 s hs).2.1, (h.2.1.2.1 s hs).2.2.2, (h.2.2.2.1 s hs).1⟩
