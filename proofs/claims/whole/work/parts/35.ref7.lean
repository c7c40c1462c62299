/-! the reference: sheets -/
def SQ (q : MS) (sh : SHS) : Prop := ∀ k, k < 4 → q 14 k = sh k 1 0 ∧ sh k 1 1 ≤ 24 ∧ (sh k 1 0 = -1 ∨ ((0 ≤ sh k 1 0 ∧ sh k 1 0 ≤ 2) ∧ q 15 k = sh k 1 1 ∧ 0 ≤ sh k 1 1 ∧ ∀ i, i < 24 → q 16 (24 * k + i) = sh k 0 i))
def OS (q2 q : MS) : Prop := q2 5 = q 5 ∧ q2 13 = q 13 ∧ q2 18 4 = q 18 4 ∧ q2 18 13 = q 18 13
theorem SQ_eq {q q2 : MS} {sh : SHS} (h : SQ q sh) (e4 : q2 14 = q 14) (e5 : q2 15 = q 15) (e6 : q2 16 = q 16) : SQ q2 sh := by
  unfold SQ; rw [e4, e5, e6]; exact h
theorem sk_good {k : Nat} {x : Int32} (h : SK k x) (hx : 0 ≤ x ∧ x ≤ 3) : k < 4 ∧ x = nI k := by
  rcases h with h | h
  · exact h
  · exact absurd ⟨hx.1, Int32.lt_of_le_of_lt hx.2 (by decide)⟩ h.2
theorem sk_no {k : Nat} {x : Int32} (h : SK k x) (hx : ¬ (0 ≤ x ∧ x ≤ 3)) : k = 4 := by
  rcases h with h | h
  · refine absurd ?_ hx
    rw [h.2]
    exact ⟨nI_le (a := 0) (by omega) (by omega), nI_le (b := 3) (by omega) (by decide)⟩
  · exact h.1
theorem sk_bad {k : Nat} {x l : Int32} (h : SK k x) (hx : ¬ ((0 ≤ x ∧ x ≤ 3) ∧ 0 ≤ l ∧ l ≤ 2)) : k = 4 ∨ ¬ (0 ≤ l ∧ l ≤ 2) := by
  by_cases e : 0 ≤ x ∧ x ≤ 3
  · exact Or.inr (fun q => hx ⟨e, q⟩)
  · exact Or.inl (sk_no h e)
theorem e24 : ((24 : Int32) &&& 31).toBitVec.smod 32 = 24#32 := by decide
theorem e16 : ((16 : Int32) &&& 31).toBitVec.smod 32 = 16#32 := by decide
theorem bv_b (b : BitVec 32) (a w : Nat) (ha : a + w = 32) (hw : 0 < w) : (b <<< (BitVec.ofNat 32 a)).sshiftRight' (BitVec.ofNat 32 a) = (b.signExtend w).signExtend 32 := by
  apply BitVec.eq_of_getElem_eq
  intro i hi
  have e : a % 2 ^ 32 = a := Nat.mod_eq_of_lt (by omega)
  rw [BitVec.sshiftRight', BitVec.getElem_sshiftRight, BitVec.getElem_signExtend]
  simp only [BitVec.toNat_ofNat, BitVec.shiftLeft_eq', BitVec.msb_eq_getLsbD_last, BitVec.getLsbD_signExtend, BitVec.getLsbD_shiftLeft, BitVec.getElem_signExtend, e]
  by_cases h : i < w
  · rw [dif_pos (by omega), dif_pos h, dif_pos hi, BitVec.getElem_shiftLeft]
    rw [decide_eq_false (by omega : ¬ a + i < a)]
    simp only [Bool.not_false, Bool.true_and]
    have : a + i - a = i := by omega
    simp only [this]
  · rw [dif_neg (by omega), dif_neg h, decide_eq_false (by omega : ¬ (32 - 1 < a)), if_pos (by omega), decide_eq_true (by omega : w - 1 < w), show 32 - 1 - a = w - 1 by omega]
    rfl
theorem sb_ite {α : Type} {k : Nat} {P : Prop} [Decidable P] {a b : α} (h : k = 4 ∨ ¬ P) : (if k = 4 then a else if P then b else a) = a := by
  rcases h with h | h
  · exact if_pos h
  · rw [if_neg h, ite_self]
theorem ln_b (v : Int32) : (v <<< (24 &&& 31)) >>> (24 &&& 31) = v.toInt8.toInt32 := by
  apply Int32.toBitVec_inj.mp
  have h := bv_b v.toBitVec 24 8 rfl (by decide)
  rw [Int32.toBitVec_shiftRight, Int32.toBitVec_shiftLeft, Int8.toBitVec_toInt32, Int32.toBitVec_toInt8, e24]
  exact h
theorem ln_s (v : Int32) : (v <<< (16 &&& 31)) >>> (16 &&& 31) = v.toInt16.toInt32 := by
  apply Int32.toBitVec_inj.mp
  have h := bv_b v.toBitVec 16 16 rfl (by decide)
  rw [Int32.toBitVec_shiftRight, Int32.toBitVec_shiftLeft, Int16.toBitVec_toInt32, Int32.toBitVec_toInt16, e16]
  exact h
theorem subs_neg : ∀ L, L ≤ 24 → ∀ W, W ≤ 24 → L < W → ¬ (0 : Int32) ≤ nI L - nI W := by decide +kernel
theorem subs_pos : ∀ L, L ≤ 24 → ∀ W, W ≤ 24 → W ≤ L → nI L - nI W = nI (L - W) := by decide +kernel
theorem has_iff {le i w : Int32} {L W : Nat} (hl : le = nI L) (hL : L ≤ 24) (hw : w = nI W) (hW : W ≤ 24) : (0 ≤ i ∧ i ≤ le - w) ↔ hasI le i w := by
  subst hl; subst hw
  constructor
  · rintro ⟨h0, h1⟩
    by_cases c : W ≤ L
    · rw [subs_pos L hL W hW c] at h1
      obtain ⟨j, j1, j2, _⟩ := nat_of_le (b := L - W) ⟨h0, h1⟩ rfl (by omega)
      subst j2
      refine ⟨h0, nI_le (by omega) (by omega), nI_le (a := 0) (by omega) (by omega), ?_⟩
      rw [subs_pos L hL j (by omega) (by omega)]
      exact nI_le (by omega) (by omega)
    · exact absurd (Int32.le_trans h0 h1) (subs_neg L hL W hW (by omega))
  · rintro ⟨h0, h1, h2, h3⟩
    obtain ⟨j, j1, j2, _⟩ := nat_of_le (b := L) ⟨h0, h1⟩ rfl (by omega)
    subst j2
    rw [subs_pos L hL j (by omega) (by omega)] at h3
    have := (nI_leI (by omega) (by omega)).mp h3
    refine ⟨h0, ?_⟩
    rw [subs_pos L hL W hW (by omega)]
    exact nI_le (by omega) (by omega)
theorem has_long {le i w : Int32} {L : Nat} (hl : le = nI L) (hL : L ≤ 24) (hw : 0 ≤ w) : (0 ≤ i.toInt64 ∧ i.toInt64 ≤ le.toInt64 - w.toInt64) ↔ hasI le i w := by
  have l0 : le.toInt = L := by rw [hl]; exact nI_toInt (by omega)
  have a0 := Int32.le_iff_toInt_le.mp hw
  have z0 : (0 : Int32).toInt = 0 := by decide
  have z1 : (0 : Int64).toInt = 0 := by decide
  have bi := Int32.toInt_lt i
  have bi2 := Int32.le_toInt i
  have bw := Int32.toInt_lt w
  rw [Int64.le_iff_toInt_le, Int64.le_iff_toInt_le, Int64.toInt_sub, Int32.toInt_toInt64, Int32.toInt_toInt64, Int32.toInt_toInt64, Int.bmod_eq_of_le (by omega) (by omega)]
  unfold hasI
  rw [Int32.le_iff_toInt_le, Int32.le_iff_toInt_le, Int32.le_iff_toInt_le, Int32.le_iff_toInt_le]
  constructor
  · rintro ⟨h0, h1⟩
    rw [Int32.toInt_sub, Int.bmod_eq_of_le (by omega) (by omega)]
    omega
  · rintro ⟨h0, h1, h2, h3⟩
    rw [Int32.toInt_sub, Int.bmod_eq_of_le (by omega) (by omega)] at h3
    omega
theorem pq_at {α : Type} (f : Nat → α) (k : Nat) (v : α) : pA f k v k = v := by
  unfold pA; rw [Nat.beq_refl]; rfl
theorem pq_o {α : Type} {f : Nat → α} {k j : Nat} {v : α} (h : ¬ j = k) : pA f k v j = f j := by
  unfold pA
  rw [show Nat.beq j k = false by cases e : Nat.beq j k
                                  · rfl
                                  · exact absurd (Nat.eq_of_beq_eq_true e) h]
  rfl
theorem sq_neg {q : MS} {sh : SHS} {k : Nat} (h : SQ q sh) (hk : k < 4) : q 14 k < 0 ↔ sh k 1 0 = -1 := by
  obtain ⟨e, _, h2⟩ := h k hk
  rw [e]
  constructor
  · intro h1
    rcases h2 with h2 | h2
    · exact h2
    · exact absurd h1 (Int32.not_lt.mpr h2.1.1)
  · intro h1
    rw [h1]; decide
theorem SQ_sheet {q st : MS} {sh : SHS} {k : Nat} {l n0 : Int32} (h : SQ q sh) (hk : k < 4) (hl : 0 ≤ l ∧ l ≤ 2) (h1 : ¬ 24 < n0) (h2 : ¬ n0 < 0) (e4 : st 14 = upd (q 14) k l) (e5 : st 15 = upd (q 15) k n0) (e6 : ∀ p, st 16 p = if 24 * k ≤ p ∧ p < 24 * k + 24 then 0 else q 16 p) : SQ st (pA sh k (shT (fun _ => 0) l (if 24 < n0 then 24 else n0))) := by
  intro j hj
  rw [e4, e5]
  by_cases e : j = k
  · subst e
    rw [pq_at, upd_at, upd_at, if_neg h1]
    refine ⟨rfl, Int32.not_lt.mp h1, Or.inr ⟨hl, rfl, Int32.not_lt.mp h2, fun i hi => ?_⟩⟩
    rw [e6, if_pos ⟨by omega, by omega⟩]; rfl
  · rw [pq_o e, upd_o e, upd_o e]
    refine ⟨(h j hj).1, (h j hj).2.1, ?_⟩
    rcases (h j hj).2.2 with r | r
    · exact Or.inl r
    · refine Or.inr ⟨r.1, r.2.1, r.2.2.1, fun i hi => ?_⟩
      rw [e6, if_neg (by omega)]; exact r.2.2.2 i hi
theorem SQ_drop {q st : MS} {sh : SHS} {k : Nat} (h : SQ q sh) (hk : k < 4) (e4 : st 14 = upd (q 14) k (-1)) (e5 : st 15 = q 15) (e6 : st 16 = q 16) : SQ st (pA sh k (shT (fun _ => 0) (-1) (if 24 < 0 then 24 else 0))) := by
  intro j hj
  rw [e4, e5, e6]
  by_cases e : j = k
  · subst e
    rw [pq_at, upd_at]
    exact ⟨rfl, by decide, Or.inl rfl⟩
  · rw [pq_o e, upd_o e]; exact h j hj
theorem it_s {f it : Nat → Int32} {b j : Nat} (h : ∀ p, it p = if b ≤ p ∧ p < b + j then 0 else f p) : ∀ p, upd it (b + j) 0 p = if b ≤ p ∧ p < b + (j + 1) then 0 else f p := fun p => by
  show (if p = b + j then 0 else it p) = _
  by_cases e : p = b + j
  · rw [if_pos e, if_pos (by omega)]
  · rw [if_neg e, h p]
    by_cases c : b ≤ p ∧ p < b + j
    · rw [if_pos c, if_pos (by omega)]
    · rw [if_neg c, if_neg (by omega)]
theorem lk_1 {q : MS} {sh : SHS} {k : Nat} {l i w : Int32} (h : SQ q sh) (hk : k < 4) (h2 : q 14 k < 0) : -11 = refS (sh k 1 0) (sh k 1 1) l i w := by
  rw [refS, if_pos ((sq_neg h hk).mp h2)]
theorem lk_2 {q : MS} {sh : SHS} {k : Nat} {l i w : Int32} (h : SQ q sh) (hk : k < 4) (h1 : ¬ q 14 k = l) (h2 : ¬ q 14 k < 0) : -12 = refS (sh k 1 0) (sh k 1 1) l i w := by
  rw [refS, if_neg (fun z => h2 ((sq_neg h hk).mpr z)), if_neg (by rw [← (h k hk).1]; exact h1)]
theorem sq_on {q : MS} {sh : SHS} {k : Nat} {l : Int32} (h : SQ q sh) (hk : k < 4) (hl : 0 ≤ l) (h1 : q 14 k = l) : ¬ sh k 1 0 = -1 ∧ sh k 1 0 = l ∧ q 15 k = sh k 1 1 ∧ (∃ L, L ≤ 24 ∧ sh k 1 1 = nI L) := by
  have e := (h k hk).1
  have ne : ¬ sh k 1 0 = -1 := fun z => by rw [← e, h1] at z; rw [z] at hl; exact absurd hl (by decide)
  have r := (h k hk).2.2.resolve_left ne
  obtain ⟨L, _, hL, hLn⟩ := rng_n (a := 0) (b := 24) r.2.2.1 (h k hk).2.1 rfl rfl (by decide) (by decide)
  exact ⟨ne, e.symm.trans h1, r.2.1, L, hL, hLn⟩
theorem lk_0 {q : MS} {sh : SHS} {k W : Nat} {l i w : Int32} (h : SQ q sh) (hk : k < 4) (hl : 0 ≤ l) (hw : w = nI W) (hW : W ≤ 24) (h1 : q 14 k = l) (h2 : 0 ≤ i ∧ i ≤ q 15 k - w) : 0 = refS (sh k 1 0) (sh k 1 1) l i w := by
  obtain ⟨a, b, c, L, d, e⟩ := sq_on h hk hl h1
  rw [refS, if_neg a, if_pos b, if_pos ((has_iff e d hw hW).mp (by rw [← c]; exact h2))]
theorem lk_3 {q : MS} {sh : SHS} {k W : Nat} {l i w : Int32} (h : SQ q sh) (hk : k < 4) (hl : 0 ≤ l) (hw : w = nI W) (hW : W ≤ 24) (h1 : q 14 k = l) (h2 : ¬ (0 ≤ i ∧ i ≤ q 15 k - w)) : -13 = refS (sh k 1 0) (sh k 1 1) l i w := by
  obtain ⟨a, b, c, L, d, e⟩ := sq_on h hk hl h1
  rw [refS, if_neg a, if_pos b, if_neg (fun z => h2 (by rw [c]; exact (has_iff e d hw hW).mpr z))]
theorem ref_z {ln le l i w : Int32} (h : ¬ refS ln le l i w < 0) : refS ln le l i w = 0 := by
  revert h
  unfold refS
  split
  · intro h; exact absurd (by decide) h
  · split
    · split
      · intro _; rfl
      · intro h; exact absurd (by decide) h
    · intro h; exact absurd (by decide) h
theorem ref_nz {ln le l i w : Int32} (h : refS ln le l i w < 0) : ¬ refS ln le l i w = 0 := fun z => by rw [z] at h; exact absurd h (by decide)
theorem ref_has {ln le l i w : Int32} (h : refS ln le l i w = 0) : ¬ ln = -1 ∧ ln = l ∧ hasI le i w := by
  revert h
  unfold refS
  split
  · intro h; exact absurd h (by decide)
  · rename_i h0
    split
    · rename_i h1
      split
      · rename_i h2; intro _; exact ⟨h0, h1, h2⟩
      · intro h; exact absurd h (by decide)
    · intro h; exact absurd h (by decide)
theorem has_nat {le i w : Int32} {W : Nat} (h : hasI le i w) (hl : le ≤ 24) (hw : w = nI W) (hW : W < 2 ^ 31) : ∃ j, j + W ≤ 24 ∧ i = nI j := by
  have b := cp_b h hl
  obtain ⟨j, j1, j2, j3⟩ := nat_of_le (b := 24) (x := i) (y := 24) ⟨h.1, Int32.le_trans h.2.1 hl⟩ rfl (by decide)
  rw [hw, nI_clamp hW] at b
  rw [← j3] at b
  exact ⟨j, b, j2⟩
theorem SQ_item {q st : MS} {sh : SHS} {k i : Nat} {v ln le : Int32} (h : SQ q sh) (hk : k < 4) (hi : i < 24) (hn : ¬ sh k 1 0 = -1) (e4 : st 14 = q 14) (e5 : st 15 = q 15) (e6 : st 16 = upd (q 16) (24 * k + i) v) (e7 : ln = sh k 1 0) (e8 : le = sh k 1 1) : SQ st (pA sh k (shT (upd (sh k 0) i v) ln le)) := by
  intro j hj
  rw [e4, e5, e6, e7, e8]
  by_cases e : j = k
  · subst e
    rw [pq_at]
    refine ⟨(h j hj).1, (h j hj).2.1, Or.inr ?_⟩
    have r := (h j hj).2.2.resolve_left hn
    refine ⟨r.1, r.2.1, r.2.2.1, fun p hp => ?_⟩
    show upd (q 16) (24 * j + i) v (24 * j + p) = upd (sh j 0) i v p
    by_cases c : p = i
    · subst c; rw [upd_at, upd_at]
    · rw [upd_o (by omega), upd_o c]; exact r.2.2.2 p hp
  · rw [pq_o e]
    refine ⟨(h j hj).1, (h j hj).2.1, ?_⟩
    rcases (h j hj).2.2 with r | r
    · exact Or.inl r
    · refine Or.inr ⟨r.1, r.2.1, r.2.2.1, fun p hp => ?_⟩
      rw [upd_o (by omega)]; exact r.2.2.2 p hp
theorem SQ_copy {q st : MS} {sh : SHS} {k k2 i j N : Nat} {ln le : Int32} (h : SQ q sh) (hk : k < 4) (hk2 : k2 < 4) (hi : i + N ≤ 24) (hj : j + N ≤ 24) (hn : ¬ sh k 1 0 = -1) (hn2 : ¬ sh k2 1 0 = -1) (e4 : st 14 = q 14) (e5 : st 15 = q 15) (e6 : ∀ r, st 16 r = if 24 * k2 + j ≤ r ∧ r < 24 * k2 + j + N then q 16 (24 * k + i + (r - (24 * k2 + j))) else q 16 r) (e7 : ln = sh k2 1 0) (e8 : le = sh k2 1 1) : SQ st (pA sh k2 (shT (va_cpy (sh k 0) (sh k2 0) i j N) ln le)) := by
  intro a ha
  rw [e4, e5, e7, e8]
  by_cases e : a = k2
  · subst e
    rw [pq_at]
    refine ⟨(h a ha).1, (h a ha).2.1, Or.inr ?_⟩
    have r := (h a ha).2.2.resolve_left hn2
    have r1 := (h k hk).2.2.resolve_left hn
    refine ⟨r.1, r.2.1, r.2.2.1, fun p hp => ?_⟩
    show st 16 (24 * a + p) = va_cpy (sh k 0) (sh a 0) i j N p
    rw [e6]
    by_cases c : j ≤ p ∧ p < j + N
    · rw [if_pos (by omega), pk_cpy_in c.1 c.2, show 24 * k + i + (24 * a + p - (24 * a + j)) = 24 * k + (i + (p - j)) by omega]
      exact r1.2.2.2 _ (by omega)
    · rw [if_neg (by omega), pk_cpy_out (by omega)]; exact r.2.2.2 p hp
  · rw [pq_o e]
    refine ⟨(h a ha).1, (h a ha).2.1, ?_⟩
    rcases (h a ha).2.2 with r | r
    · exact Or.inl r
    · refine Or.inr ⟨r.1, r.2.1, r.2.2.1, fun p hp => ?_⟩
      rw [e6, if_neg (by omega)]; exact r.2.2.2 p hp
theorem cp_s {f it : Nat → Int32} {b c p : Nat} {v : Int32} (h : ∀ r, it r = if b ≤ r ∧ r < b + p then f (c + (r - b)) else f r) (hv : v = f (c + p)) : ∀ r, upd it (b + p) v r = if b ≤ r ∧ r < b + (p + 1) then f (c + (r - b)) else f r := fun r => by
  show (if r = b + p then v else it r) = _
  by_cases e : r = b + p
  · rw [if_pos e, if_pos (by omega), hv, show r - b = p by omega]
  · rw [if_neg e, h r]
    by_cases d : b ≤ r ∧ r < b + p
    · rw [if_pos d, if_pos (by omega)]
    · rw [if_neg d, if_neg (by omega)]
set_option maxHeartbeats 4000000 in
set_option maxRecDepth 100000 in
theorem c_X5_isSheet (cI cS : ClassId) (x l : Int32) : CT cI cS yX5_isSheet cX5_isSheet 2 (some .boolean) 1 [.int x, .int l] (([] : va_W)) 0 0 (fun u : Int32 => u = if (0 ≤ x ∧ x ≤ 3) ∧ 0 ≤ l ∧ l ≤ 2 then 1 else 0) (fun u => some (.int u)) (fun u => (([] : va_W))) := by
  refine ct_intro (by decide) (Nat.le_of_ble_eq_true rfl) (fun E Q hE hQ hI => ?_)
  have hE : CxOk E cI cS RX5 cX5_isSheet 2 (some .boolean) 1 0 0 := hE
  show Go E Q 2 0 0 0 [(0, .int x), (1, .int l)] [] (([] : va_W))
  refine g_iload_n hE dX5_isSheet_0 0 rfl ?_
  refine g_i2l hE dX5_isSheet_1 ?_
  refine g_lconst hE dX5_isSheet_2 0 (by decide) ?_
  refine g_ldc2 hE dX5_isSheet_3 cl_X5_91 ?_
  refine g_callS hE (c_X5_in cI cS (Int32.toInt64 x) 0 3) mk_X5_in st_X5_in ml_X5_68 dX5_isSheet_6 (As := [.long (Int32.toInt64 x), .long 0, .long 3]) (rest := []) rfl rfl (by decide) (by decide) (Nat.le_of_ble_eq_true rfl) (by decide) (by decide) [] rfl (by decide) (fun u => Nat.le_of_ble_eq_true rfl) (ws' := fun u => ([] : va_W)) (fun u => rfl) (fun u hu => ?_)
  obtain ⟨r_1, rfl⟩ : ∃ z, z = u := ⟨_, rfl⟩
  have h2 : r_1 = if 0 ≤ x ∧ x ≤ 3 then 1 else 0 := (in_i (x := x) (lo := 0) (hi := 3) rfl rfl hu)
  by_cases c3 : 0 ≤ x ∧ x ≤ 3
  · rw [if_pos c3] at h2
    subst h2
    show Go E Q 2 0 0 9 [(0, .int x), (1, .int l)] [.int 1] (([] : va_W))
    refine g_if_eq hE 28 dX5_isSheet_9 (by decide) (fun c4 => absurd c4 (by decide)) (fun c4 => ?_)
    refine g_iload_n hE dX5_isSheet_12 1 rfl ?_
    refine g_i2l hE dX5_isSheet_13 ?_
    refine g_lconst hE dX5_isSheet_14 0 (by decide) ?_
    refine g_ldc2 hE dX5_isSheet_15 cl_X5_89 ?_
    refine g_callS hE (c_X5_in cI cS (Int32.toInt64 l) 0 2) mk_X5_in st_X5_in ml_X5_68 dX5_isSheet_18 (As := [.long (Int32.toInt64 l), .long 0, .long 2]) (rest := []) rfl rfl (by decide) (by decide) (Nat.le_of_ble_eq_true rfl) (by decide) (by decide) [] rfl (by decide) (fun u => Nat.le_of_ble_eq_true rfl) (ws' := fun u => ([] : va_W)) (fun u => rfl) (fun u hu => ?_)
    obtain ⟨r_5, rfl⟩ : ∃ z, z = u := ⟨_, rfl⟩
    have h6 : r_5 = if 0 ≤ l ∧ l ≤ 2 then 1 else 0 := (in_i (x := l) (lo := 0) (hi := 2) rfl rfl hu)
    by_cases c7 : 0 ≤ l ∧ l ≤ 2
    · rw [if_pos c7] at h6
      subst h6
      show Go E Q 2 0 0 21 [(0, .int x), (1, .int l)] [.int 1] (([] : va_W))
      refine g_if_eq hE 28 dX5_isSheet_21 (by decide) (fun c8 => absurd c8 (by decide)) (fun c8 => ?_)
      refine g_iconst hE dX5_isSheet_24 1 (by decide) ?_
      refine g_goto hE 29 dX5_isSheet_25 (by decide) ?_
      exact g_iret hE hQ dX5_isSheet_29 (by first | rfl | decide) 1 rfl rfl (if_pos ⟨c3, c7⟩).symm
    · rw [if_neg c7] at h6
      subst h6
      show Go E Q 2 0 0 21 [(0, .int x), (1, .int l)] [.int 0] (([] : va_W))
      refine g_if_eq hE 28 dX5_isSheet_21 (by decide) (fun c9 => ?_) (fun c9 => absurd (by decide) c9)
      refine g_iconst hE dX5_isSheet_28 0 (by decide) ?_
      exact g_iret hE hQ dX5_isSheet_29 (by first | rfl | decide) 0 rfl rfl (if_neg (fun q => c7 q.2)).symm
  · rw [if_neg c3] at h2
    subst h2
    show Go E Q 2 0 0 9 [(0, .int x), (1, .int l)] [.int 0] (([] : va_W))
    refine g_if_eq hE 28 dX5_isSheet_9 (by decide) (fun c10 => ?_) (fun c10 => absurd (by decide) c10)
    refine g_iconst hE dX5_isSheet_28 0 (by decide) ?_
    exact g_iret hE hQ dX5_isSheet_29 (by first | rfl | decide) 0 rfl rfl (if_neg (fun q => c3 q.1)).symm
set_option maxHeartbeats 4000000 in
set_option maxRecDepth 100000 in
theorem c_X5_asLane (cI cS : ClassId) (l v : Int32) : CT cI cS yX5_asLane cX5_asLane 2 (some .int) 0 [.int l, .int v] (([] : va_W)) 0 0 (fun u : Int32 => u = lnS l v) (fun u => some (.int u)) (fun u => (([] : va_W))) := by
  refine ct_intro (by decide) (Nat.le_of_ble_eq_true rfl) (fun E Q hE hQ hI => ?_)
  have hE : CxOk E cI cS RX5 cX5_asLane 2 (some .int) 0 0 0 := hE
  show Go E Q 2 0 0 0 [(0, .int l), (1, .int v)] [] (([] : va_W))
  refine g_iload_n hE dX5_asLane_0 0 rfl ?_
  refine g_if_ne hE 14 dX5_asLane_1 (by decide) (fun c1 => ?_) (fun c1 => ?_)
  · refine g_iload_n hE dX5_asLane_14 0 rfl ?_
    refine g_iconst hE dX5_asLane_15 1 (by decide) ?_
    refine g_icmp_ne hE 29 dX5_asLane_16 (by decide) (fun c2 => ?_) (fun c2 => ?_)
    · refine g_iload_n hE dX5_asLane_29 1 rfl ?_
      exact g_iret hE hQ dX5_asLane_30 rfl v rfl rfl (by rw [lnS, if_neg (show ¬ l = 0 from c1), if_neg (show ¬ l = 1 from c2)])
    · refine g_iload_n hE dX5_asLane_19 1 rfl ?_
      refine g_bipush hE dX5_asLane_20 16 (by decide) ?_
      refine g_ishl hE dX5_asLane_22 ?_
      refine g_bipush hE dX5_asLane_23 16 (by decide) ?_
      refine g_ishr hE dX5_asLane_25 ?_
      refine g_goto hE 30 dX5_asLane_26 (by decide) ?_
      exact g_iret hE hQ dX5_asLane_30 rfl ((v <<< (16 &&& 31)) >>> (16 &&& 31)) rfl rfl (by rw [lnS, if_neg (show ¬ l = 0 from c1), if_pos (show l = 1 from c2)]; exact ln_s v)
  · refine g_iload_n hE dX5_asLane_4 1 rfl ?_
    refine g_bipush hE dX5_asLane_5 24 (by decide) ?_
    refine g_ishl hE dX5_asLane_7 ?_
    refine g_bipush hE dX5_asLane_8 24 (by decide) ?_
    refine g_ishr hE dX5_asLane_10 ?_
    refine g_goto hE 30 dX5_asLane_11 (by decide) ?_
    exact g_iret hE hQ dX5_asLane_30 rfl ((v <<< (24 &&& 31)) >>> (24 &&& 31)) rfl rfl (by rw [lnS, if_pos (show l = 0 from c1)]; exact ln_b v)
set_option maxHeartbeats 4000000 in
set_option maxRecDepth 100000 in
theorem c_X5_sheet (cI cS : ClassId) (a : Nat → Nat) (q : Nat → Nat → Int32) {n sv pl : Nat} (m : MS) (hRQ : RQ q m n sv pl) (sh : SHS) (hSQ : SQ q sh) (x l n0 : Int32) (k : Nat) (hk : SK k x) : CT cI cS yX5_sheet cX5_sheet 5 (some .int) 2 [.ref (a 0), .int x, .int l, .int n0] (modelW cI a q) 0 0 (fun u : Int32 × (Nat → Nat → Int32) => u.1 = (fgSheet sh k l n0).1 ∧ TF u.2 q ∧ OS u.2 q ∧ SQ u.2 (fgSheet sh k l n0).2) (fun u => some (.int u.1)) (fun u => (modelW cI a u.2)) := by
  refine ct_intro (by decide) (Nat.le_of_ble_eq_true rfl) (fun E Q hE hQ hI => ?_)
  have hE : CxOk E cI cS RX5 cX5_sheet 5 (some .int) 2 0 0 := hE
  show Go E Q 5 0 0 0 [(0, .ref (a 0)), (1, .int x), (2, .int l), (3, .int n0)] [] (modelW cI a q)
  have hM := hRQ.1
  have hTQ := hRQ.2.1
  have hRG := hRQ.2.2
  have hgr := hTQ.2.2.2.1
  have hsv := hTQ.2.2.2.2.1
  have hpl := hTQ.2.2.2.2.2.1
  have hn6 := hM.2.1
  have hsv8 := hM.2.2.2.1
  have hpl6 := hM.2.2.2.2.2
  have hc0 : m 9 0 = q 18 0 := hM.1.trans hgr.symm
  have hc1 : m 9 1 = q 18 1 := hM.2.2.1.trans hsv.symm
  have hc2 : m 9 2 = q 18 2 := hM.2.2.2.2.1.trans hpl.symm
  refine g_iload_n hE dX5_sheet_0 1 rfl ?_
  refine g_iload_n hE dX5_sheet_1 2 rfl ?_
  refine g_callS hE (c_X5_isSheet cI cS x l) mk_X5_isSheet st_X5_isSheet ml_X5_254 dX5_sheet_2 (As := [.int x, .int l]) (rest := []) rfl rfl (by decide) (by decide) (Nat.le_of_ble_eq_true rfl) (by decide) (by decide) [] rfl (by decide) (fun u => Nat.le_of_ble_eq_true rfl) (ws' := fun u => modelW cI a q) (fun u => rfl) (fun u hu => ?_)
  obtain ⟨r_1, rfl⟩ : ∃ z, z = u := ⟨_, rfl⟩
  have h2 : r_1 = if (0 ≤ x ∧ x ≤ 3) ∧ 0 ≤ l ∧ l ≤ 2 then 1 else 0 := hu
  by_cases c3 : (0 ≤ x ∧ x ≤ 3) ∧ 0 ≤ l ∧ l ≤ 2
  · rw [if_pos c3] at h2
    subst h2
    show Go E Q 5 0 0 5 [(0, .ref (a 0)), (1, .int x), (2, .int l), (3, .int n0)] [.int 1] (modelW cI a q)
    refine g_if_eq hE 14 dX5_sheet_5 (by decide) (fun c4 => absurd c4 (by decide)) (fun c4 => ?_)
    refine g_iload_n hE dX5_sheet_8 3 rfl ?_
    refine g_bipush hE dX5_sheet_9 24 (by decide) ?_
    refine g_icmp_le hE 16 dX5_sheet_11 (by decide) (fun c5 => ?_) (fun c5 => ?_)
    · refine g_iload_n hE dX5_sheet_16 3 rfl ?_
      refine g_if_ge hE 23 dX5_sheet_17 (by decide) (fun c6 => ?_) (fun c6 => ?_)
      · obtain ⟨hk4, hkn⟩ := sk_good hk c3.1
        have hk4n : ¬ k = 4 := (by omega)
        refine g_aload_n hE dX5_sheet_23 0 rfl ?_
        refine g_get hE fl_X5_52 dX5_sheet_24 0 rfl rfl ?_
        refine g_iload_n hE dX5_sheet_27 1 rfl ?_
        refine g_iload_n hE dX5_sheet_28 2 rfl ?_
        refine g_iast_n hE dX5_sheet_29 15 rfl (show x = nI k from hkn) (by omega) (modelW cI a (pA q 14 (upd (q 14) k l))) rfl ?_
        refine g_aload_n hE dX5_sheet_30 0 rfl ?_
        refine g_get hE fl_X5_55 dX5_sheet_31 0 rfl rfl ?_
        refine g_iload_n hE dX5_sheet_34 1 rfl ?_
        refine g_iload_n hE dX5_sheet_35 3 rfl ?_
        refine g_iast_n hE dX5_sheet_36 16 rfl (show x = nI k from hkn) (by omega) (modelW cI a (pA (pA q 14 (upd (q 14) k l)) 15 (upd (q 15) k n0))) rfl ?_
        refine g_iconst hE dX5_sheet_37 0 (by decide) ?_
        refine g_istore hE dX5_sheet_38 [(4, .int 0), (0, .ref (a 0)), (1, .int x), (2, .int l), (3, .int n0)] (by decide) rfl ?_
        have L40 : ∀ (n_40 : Nat) (j : Nat) (it : Nat → Int32), (j ≤ 24) → (∀ p, it p = if 24 * k ≤ p ∧ p < 24 * k + j then 0 else q 16 p) → (24 - j < n_40) → Go E Q 5 0 0 40 [(0, .ref (a 0)), (1, .int x), (2, .int l), (3, .int n0), (4, .int (nI j))] [] (modelW cI a (pA (pA (pA q 14 (upd (q 14) k l)) 15 (upd (q 15) k n0)) 16 it)) := by
          intro n_40
          induction n_40 with
          | zero => intro j it hj hit hm_40; exact absurd hm_40 (Nat.not_lt_zero _)
          | succ n_40 ih_40 =>
            intro j it hj hit hm_40
            refine g_iload hE dX5_sheet_40 4 rfl ?_
            refine g_bipush hE dX5_sheet_42 24 (by decide) ?_
            refine g_icmp_ge hE 66 dX5_sheet_44 (by decide) (fun c7 => ?_) (fun c7 => ?_)
            · have kc7 := nat_le_t (show 24 = nI 24 from rfl) (show (nI j) = nI j from rfl) (by omega) (by omega) c7
              refine g_iload_n hE dX5_sheet_66 3 rfl ?_
              exact g_iret hE hQ dX5_sheet_67 rfl (n0, (pA (pA (pA q 14 (upd (q 14) k l)) 15 (upd (q 15) k n0)) 16 it)) rfl rfl ⟨(by simp only [fgSheet, if_neg hk4n, if_pos c3.2, if_neg (show ¬ 24 < n0 from (Int32.not_lt.mpr c5)), if_neg (show ¬ n0 < 0 from (Int32.not_lt.mpr c6)), if_pos trivial]), ⟨rfl, rfl, rfl, rfl, rfl, rfl, rfl, rfl, rfl⟩, ⟨rfl, rfl, rfl, rfl⟩, (by rw [fgSheet, if_neg hk4n, if_pos c3.2, if_neg (show ¬ 24 < n0 from (Int32.not_lt.mpr c5)), if_neg (show ¬ n0 < 0 from (Int32.not_lt.mpr c6))]; exact SQ_sheet hSQ hk4 c3.2 (show ¬ 24 < n0 from (Int32.not_lt.mpr c5)) (show ¬ n0 < 0 from (Int32.not_lt.mpr c6)) rfl rfl (by have e : j = 24 := (by omega); rw [e] at hit; exact hit))⟩
            · have kc7 := nat_le_f (show 24 = nI 24 from rfl) (show (nI j) = nI j from rfl) (by omega) (by omega) c7
              refine g_aload_n hE dX5_sheet_47 0 rfl ?_
              refine g_get hE fl_X5_58 dX5_sheet_48 0 rfl rfl ?_
              refine g_bipush hE dX5_sheet_51 24 (by decide) ?_
              refine g_iload_n hE dX5_sheet_53 1 rfl ?_
              refine g_imul_n hE dX5_sheet_54 (show 24 = nI 24 from rfl) (show x = nI k from hkn) ?_
              refine g_iload hE dX5_sheet_55 4 rfl ?_
              refine g_iadd_n hE dX5_sheet_57 (show (nI (24 * k)) = nI (24 * k) from rfl) (show (nI j) = nI j from rfl) ?_
              refine g_iconst hE dX5_sheet_58 0 (by decide) ?_
              refine g_iast_n hE dX5_sheet_59 17 rfl (show (nI ((24 * k) + j)) = nI ((24 * k) + j) from rfl) (by omega) (modelW cI a (pA (pA (pA (pA q 14 (upd (q 14) k l)) 15 (upd (q 15) k n0)) 16 it) 16 (upd it ((24 * k) + j) 0))) rfl ?_
              refine g_iinc hE dX5_sheet_60 4 (nI (j + 1)) [(4, .int (nI (j + 1))), (0, .ref (a 0)), (1, .int x), (2, .int l), (3, .int n0)] rfl (nI_1 _) (by decide) rfl ?_
              refine g_goto hE 40 dX5_sheet_63 (by decide) ?_
              refine g_locals [1, 2, 3, 4, 0] [(0, .ref (a 0)), (1, .int x), (2, .int l), (3, .int n0), (4, .int (nI (j + 1)))] rfl ?_
              exact ih_40 (j + 1) (upd it ((24 * k) + j) 0) (by first | assumption | omega) (it_s hit) (by omega)
        refine g_locals [1, 2, 3, 4, 0] [(0, .ref (a 0)), (1, .int x), (2, .int l), (3, .int n0), (4, .int 0)] rfl ?_
        exact L40 _ 0 (q 16) (Nat.zero_le _) (fun p => (if_neg (by omega)).symm) (Nat.lt_succ_self _)
      · refine g_bipush hE dX5_sheet_20 (-14) (by decide) ?_
        exact g_iret hE hQ dX5_sheet_22 rfl ((-14), q) rfl rfl ⟨(by have hk4n : ¬ k = 4 := (by have := (sk_good hk c3.1).1; omega); simp only [fgSheet, if_neg hk4n, if_pos c3.2, if_neg (show ¬ 24 < n0 from (Int32.not_lt.mpr c5)), if_pos (show n0 < 0 from (Int32.not_le.mp c6)), if_pos trivial]), ⟨rfl, rfl, rfl, rfl, rfl, rfl, rfl, rfl, rfl⟩, ⟨rfl, rfl, rfl, rfl⟩, (by have hk4n : ¬ k = 4 := (by have := (sk_good hk c3.1).1; omega); simp only [fgSheet, if_neg hk4n, if_pos c3.2, if_neg (show ¬ 24 < n0 from (Int32.not_lt.mpr c5)), if_pos (show n0 < 0 from (Int32.not_le.mp c6)), if_pos trivial]; exact hSQ)⟩
    · refine g_iconst hE dX5_sheet_14 (-1) (by decide) ?_
      exact g_iret hE hQ dX5_sheet_15 rfl ((-1), q) rfl rfl ⟨(by have hk4n : ¬ k = 4 := (by have := (sk_good hk c3.1).1; omega); simp only [fgSheet, if_neg hk4n, if_pos c3.2, if_pos (show 24 < n0 from (Int32.not_le.mp c5)), if_pos trivial]), ⟨rfl, rfl, rfl, rfl, rfl, rfl, rfl, rfl, rfl⟩, ⟨rfl, rfl, rfl, rfl⟩, (by have hk4n : ¬ k = 4 := (by have := (sk_good hk c3.1).1; omega); simp only [fgSheet, if_neg hk4n, if_pos c3.2, if_pos (show 24 < n0 from (Int32.not_le.mp c5)), if_pos trivial]; exact hSQ)⟩
  · rw [if_neg c3] at h2
    subst h2
    show Go E Q 5 0 0 5 [(0, .ref (a 0)), (1, .int x), (2, .int l), (3, .int n0)] [.int 0] (modelW cI a q)
    refine g_if_eq hE 14 dX5_sheet_5 (by decide) (fun c8 => ?_) (fun c8 => absurd (by decide) c8)
    refine g_iconst hE dX5_sheet_14 (-1) (by decide) ?_
    exact g_iret hE hQ dX5_sheet_15 rfl ((-1), q) rfl rfl ⟨(by rw [(show fgSheet sh k l n0 = (-1, sh) by unfold fgSheet; exact sb_ite (sk_bad hk c3))]), ⟨rfl, rfl, rfl, rfl, rfl, rfl, rfl, rfl, rfl⟩, ⟨rfl, rfl, rfl, rfl⟩, (by rw [(show fgSheet sh k l n0 = (-1, sh) by unfold fgSheet; exact sb_ite (sk_bad hk c3))]; exact hSQ)⟩
set_option maxHeartbeats 4000000 in
set_option maxRecDepth 100000 in
theorem c_X5_drop (cI cS : ClassId) (a : Nat → Nat) (q : Nat → Nat → Int32) {n sv pl : Nat} (m : MS) (hRQ : RQ q m n sv pl) (sh : SHS) (hSQ : SQ q sh) (x : Int32) (k : Nat) (hk : SK k x) : CT cI cS yX5_drop cX5_drop 2 (some .int) 1 [.ref (a 0), .int x] (modelW cI a q) 0 0 (fun u : Int32 × (Nat → Nat → Int32) => u.1 = (fgDrop sh k).1 ∧ TF u.2 q ∧ OS u.2 q ∧ SQ u.2 (fgDrop sh k).2) (fun u => some (.int u.1)) (fun u => (modelW cI a u.2)) := by
  refine ct_intro (by decide) (Nat.le_of_ble_eq_true rfl) (fun E Q hE hQ hI => ?_)
  have hE : CxOk E cI cS RX5 cX5_drop 2 (some .int) 1 0 0 := hE
  show Go E Q 2 0 0 0 [(0, .ref (a 0)), (1, .int x)] [] (modelW cI a q)
  have hM := hRQ.1
  have hTQ := hRQ.2.1
  have hRG := hRQ.2.2
  have hgr := hTQ.2.2.2.1
  have hsv := hTQ.2.2.2.2.1
  have hpl := hTQ.2.2.2.2.2.1
  have hn6 := hM.2.1
  have hsv8 := hM.2.2.2.1
  have hpl6 := hM.2.2.2.2.2
  have hc0 : m 9 0 = q 18 0 := hM.1.trans hgr.symm
  have hc1 : m 9 1 = q 18 1 := hM.2.2.1.trans hsv.symm
  have hc2 : m 9 2 = q 18 2 := hM.2.2.2.2.1.trans hpl.symm
  refine g_iload_n hE dX5_drop_0 1 rfl ?_
  refine g_i2l hE dX5_drop_1 ?_
  refine g_lconst hE dX5_drop_2 0 (by decide) ?_
  refine g_ldc2 hE dX5_drop_3 cl_X5_91 ?_
  refine g_callS hE (c_X5_in cI cS (Int32.toInt64 x) 0 3) mk_X5_in st_X5_in ml_X5_68 dX5_drop_6 (As := [.long (Int32.toInt64 x), .long 0, .long 3]) (rest := []) rfl rfl (by decide) (by decide) (Nat.le_of_ble_eq_true rfl) (by decide) (by decide) [] rfl (by decide) (fun u => Nat.le_of_ble_eq_true rfl) (ws' := fun u => modelW cI a q) (fun u => rfl) (fun u hu => ?_)
  obtain ⟨r_1, rfl⟩ : ∃ z, z = u := ⟨_, rfl⟩
  have h2 : r_1 = if 0 ≤ x ∧ x ≤ 3 then 1 else 0 := (in_i (x := x) (lo := 0) (hi := 3) rfl rfl hu)
  by_cases c3 : 0 ≤ x ∧ x ≤ 3
  · rw [if_pos c3] at h2
    subst h2
    show Go E Q 2 0 0 9 [(0, .ref (a 0)), (1, .int x)] [.int 1] (modelW cI a q)
    refine g_if_ne hE 14 dX5_drop_9 (by decide) (fun c4 => ?_) (fun c4 => absurd c4 (by decide))
    obtain ⟨hk4, hkn⟩ := sk_good hk c3
    have hk4n : ¬ k = 4 := (by omega)
    refine g_aload_n hE dX5_drop_14 0 rfl ?_
    refine g_get hE fl_X5_52 dX5_drop_15 0 rfl rfl ?_
    refine g_iload_n hE dX5_drop_18 1 rfl ?_
    refine g_iald_n hE dX5_drop_19 15 rfl (show x = nI k from hkn) (by omega) ?_
    refine g_if_ge hE 26 dX5_drop_20 (by decide) (fun c5 => ?_) (fun c5 => ?_)
    · refine g_aload_n hE dX5_drop_26 0 rfl ?_
      refine g_get hE fl_X5_52 dX5_drop_27 0 rfl rfl ?_
      refine g_iload_n hE dX5_drop_30 1 rfl ?_
      refine g_iconst hE dX5_drop_31 (-1) (by decide) ?_
      refine g_iast_n hE dX5_drop_32 15 rfl (show x = nI k from hkn) (by omega) (modelW cI a (pA q 14 (upd (q 14) k (-1)))) rfl ?_
      refine g_aload_n hE dX5_drop_33 0 rfl ?_
      refine g_get hE fl_X5_55 dX5_drop_34 0 rfl rfl ?_
      refine g_iload_n hE dX5_drop_37 1 rfl ?_
      refine g_iald_n hE dX5_drop_38 16 rfl (show x = nI k from hkn) (by omega) ?_
      exact g_iret hE hQ dX5_drop_39 rfl (((q 15) k), (pA q 14 (upd (q 14) k (-1)))) rfl rfl (have hne : ¬ sh k 1 0 = -1 := fun z => (show ¬ ((q 14) k) < 0 from (Int32.not_lt.mpr c5)) ((sq_neg hSQ hk4).mpr z); ⟨(by rw [fgDrop, if_neg hk4n, if_neg hne]; exact ((hSQ k hk4).2.2.resolve_left hne).2.1), ⟨rfl, rfl, rfl, rfl, rfl, rfl, rfl, rfl, rfl⟩, ⟨rfl, rfl, rfl, rfl⟩, (by rw [fgDrop, if_neg hk4n, if_neg hne]; exact SQ_drop hSQ hk4 rfl rfl rfl)⟩)
    · refine g_bipush hE dX5_drop_23 (-11) (by decide) ?_
      exact g_iret hE hQ dX5_drop_25 rfl ((-11), q) rfl rfl ⟨(by rw [(show fgDrop sh k = (-11, sh) by rw [fgDrop, if_neg hk4n, if_pos ((sq_neg hSQ hk4).mp (show ((q 14) k) < 0 from (Int32.not_le.mp c5)))])]), ⟨rfl, rfl, rfl, rfl, rfl, rfl, rfl, rfl, rfl⟩, ⟨rfl, rfl, rfl, rfl⟩, (by rw [(show fgDrop sh k = (-11, sh) by rw [fgDrop, if_neg hk4n, if_pos ((sq_neg hSQ hk4).mp (show ((q 14) k) < 0 from (Int32.not_le.mp c5)))])]; exact hSQ)⟩
  · rw [if_neg c3] at h2
    subst h2
    show Go E Q 2 0 0 9 [(0, .ref (a 0)), (1, .int x)] [.int 0] (modelW cI a q)
    refine g_if_ne hE 14 dX5_drop_9 (by decide) (fun c6 => absurd (by decide) c6) (fun c6 => ?_)
    refine g_iconst hE dX5_drop_12 (-1) (by decide) ?_
    exact g_iret hE hQ dX5_drop_13 rfl ((-1), q) rfl rfl ⟨(by rw [(show fgDrop sh k = (-1, sh) from if_pos (sk_no hk c3))]), ⟨rfl, rfl, rfl, rfl, rfl, rfl, rfl, rfl, rfl⟩, ⟨rfl, rfl, rfl, rfl⟩, (by rw [(show fgDrop sh k = (-1, sh) from if_pos (sk_no hk c3))]; exact hSQ)⟩
set_option maxHeartbeats 4000000 in
set_option maxRecDepth 100000 in
theorem c_X5_lacksRow (cI cS : ClassId) (a : Nat → Nat) (q : Nat → Nat → Int32) (sh : SHS) (hSQ : SQ q sh) (x : Int32) (k : Nat) (hk4 : k < 4) (hkn : x = nI k) (l i w : Int32) (W : Nat) (hl : 0 ≤ l) (hw : w = nI W) (hW : W ≤ 24) : CT cI cS yX5_lacksRow cX5_lacksRow 5 (some .int) 1 [.ref (a 0), .int x, .int l, .int i, .int w] (modelW cI a q) 0 0 (fun u : Int32 => u = refS (sh k 1 0) (sh k 1 1) l i w) (fun u => some (.int u)) (fun u => (modelW cI a q)) := by
  refine ct_intro (by decide) (Nat.le_of_ble_eq_true rfl) (fun E Q hE hQ hI => ?_)
  have hE : CxOk E cI cS RX5 cX5_lacksRow 5 (some .int) 1 0 0 := hE
  show Go E Q 5 0 0 0 [(0, .ref (a 0)), (1, .int x), (2, .int l), (3, .int i), (4, .int w)] [] (modelW cI a q)
  refine g_aload_n hE dX5_lacksRow_0 0 rfl ?_
  refine g_get hE fl_X5_52 dX5_lacksRow_1 0 rfl rfl ?_
  refine g_iload_n hE dX5_lacksRow_4 1 rfl ?_
  refine g_iald_n hE dX5_lacksRow_5 15 rfl (show x = nI k from hkn) (by omega) ?_
  refine g_iload_n hE dX5_lacksRow_6 2 rfl ?_
  refine g_icmp_eq hE 27 dX5_lacksRow_7 (by decide) (fun c1 => ?_) (fun c1 => ?_)
  · refine g_iload_n hE dX5_lacksRow_27 3 rfl ?_
    refine g_i2l hE dX5_lacksRow_28 ?_
    refine g_lconst hE dX5_lacksRow_29 0 (by decide) ?_
    refine g_aload_n hE dX5_lacksRow_30 0 rfl ?_
    refine g_get hE fl_X5_55 dX5_lacksRow_31 0 rfl rfl ?_
    refine g_iload_n hE dX5_lacksRow_34 1 rfl ?_
    refine g_iald_n hE dX5_lacksRow_35 16 rfl (show x = nI k from hkn) (by omega) ?_
    refine g_iload hE dX5_lacksRow_36 4 rfl ?_
    refine g_isub hE dX5_lacksRow_38 ?_
    refine g_i2l hE dX5_lacksRow_39 ?_
    refine g_callS hE (c_X5_in cI cS (Int32.toInt64 i) 0 (Int32.toInt64 (((q 15) k) - w))) mk_X5_in st_X5_in ml_X5_68 dX5_lacksRow_40 (As := [.long (Int32.toInt64 i), .long 0, .long (Int32.toInt64 (((q 15) k) - w))]) (rest := []) rfl rfl (by decide) (by decide) (Nat.le_of_ble_eq_true rfl) (by decide) (by decide) [] rfl (by decide) (fun u => Nat.le_of_ble_eq_true rfl) (ws' := fun u => modelW cI a q) (fun u => rfl) (fun u hu => ?_)
    obtain ⟨r_2, rfl⟩ : ∃ z, z = u := ⟨_, rfl⟩
    have h3 : r_2 = if 0 ≤ i ∧ i ≤ (((q 15) k) - w) then 1 else 0 := (in_i (x := i) (lo := 0) (hi := (((q 15) k) - w)) rfl rfl hu)
    by_cases c4 : 0 ≤ i ∧ i ≤ (((q 15) k) - w)
    · rw [if_pos c4] at h3
      subst h3
      show Go E Q 5 0 0 43 [(0, .ref (a 0)), (1, .int x), (2, .int l), (3, .int i), (4, .int w)] [.int 1] (modelW cI a q)
      refine g_if_eq hE 50 dX5_lacksRow_43 (by decide) (fun c5 => absurd c5 (by decide)) (fun c5 => ?_)
      refine g_iconst hE dX5_lacksRow_46 0 (by decide) ?_
      refine g_goto hE 52 dX5_lacksRow_47 (by decide) ?_
      exact g_iret hE hQ dX5_lacksRow_52 rfl 0 rfl rfl (lk_0 hSQ hk4 hl hw hW (show ((q 14) k) = l from c1) c4)
    · rw [if_neg c4] at h3
      subst h3
      show Go E Q 5 0 0 43 [(0, .ref (a 0)), (1, .int x), (2, .int l), (3, .int i), (4, .int w)] [.int 0] (modelW cI a q)
      refine g_if_eq hE 50 dX5_lacksRow_43 (by decide) (fun c6 => ?_) (fun c6 => absurd (by decide) c6)
      refine g_bipush hE dX5_lacksRow_50 (-13) (by decide) ?_
      exact g_iret hE hQ dX5_lacksRow_52 rfl (-13) rfl rfl (lk_3 hSQ hk4 hl hw hW (show ((q 14) k) = l from c1) c4)
  · refine g_aload_n hE dX5_lacksRow_10 0 rfl ?_
    refine g_get hE fl_X5_52 dX5_lacksRow_11 0 rfl rfl ?_
    refine g_iload_n hE dX5_lacksRow_14 1 rfl ?_
    refine g_iald_n hE dX5_lacksRow_15 15 rfl (show x = nI k from hkn) (by omega) ?_
    refine g_if_ge hE 24 dX5_lacksRow_16 (by decide) (fun c7 => ?_) (fun c7 => ?_)
    · refine g_bipush hE dX5_lacksRow_24 (-12) (by decide) ?_
      exact g_iret hE hQ dX5_lacksRow_26 rfl (-12) rfl rfl (lk_2 hSQ hk4 (show ¬ ((q 14) k) = l from c1) (show ¬ ((q 14) k) < 0 from (Int32.not_lt.mpr c7)))
    · refine g_bipush hE dX5_lacksRow_19 (-11) (by decide) ?_
      refine g_goto hE 26 dX5_lacksRow_21 (by decide) ?_
      exact g_iret hE hQ dX5_lacksRow_26 rfl (-11) rfl rfl (lk_1 hSQ hk4 (show ((q 14) k) < 0 from (Int32.not_le.mp c7)))
set_option maxHeartbeats 4000000 in
set_option maxRecDepth 100000 in
theorem c_X5_item (cI cS : ClassId) (a : Nat → Nat) (q : Nat → Nat → Int32) {n sv pl : Nat} (m : MS) (hRQ : RQ q m n sv pl) (sh : SHS) (hSQ : SQ q sh) (x l i v0 : Int32) (k : Nat) (hk : SK k x) : CT cI cS yX5_item cX5_item 6 (some .int) 2 [.ref (a 0), .int x, .int l, .int i, .int v0] (modelW cI a q) 0 0 (fun u : Int32 × (Nat → Nat → Int32) => u.1 = (fgItem sh k l i v0).1 ∧ TF u.2 q ∧ OS u.2 q ∧ SQ u.2 (fgItem sh k l i v0).2) (fun u => some (.int u.1)) (fun u => (modelW cI a u.2)) := by
  refine ct_intro (by decide) (Nat.le_of_ble_eq_true rfl) (fun E Q hE hQ hI => ?_)
  have hE : CxOk E cI cS RX5 cX5_item 6 (some .int) 2 0 0 := hE
  show Go E Q 6 0 0 0 [(0, .ref (a 0)), (1, .int x), (2, .int l), (3, .int i), (4, .int v0)] [] (modelW cI a q)
  have hM := hRQ.1
  have hTQ := hRQ.2.1
  have hRG := hRQ.2.2
  have hgr := hTQ.2.2.2.1
  have hsv := hTQ.2.2.2.2.1
  have hpl := hTQ.2.2.2.2.2.1
  have hn6 := hM.2.1
  have hsv8 := hM.2.2.2.1
  have hpl6 := hM.2.2.2.2.2
  have hc0 : m 9 0 = q 18 0 := hM.1.trans hgr.symm
  have hc1 : m 9 1 = q 18 1 := hM.2.2.1.trans hsv.symm
  have hc2 : m 9 2 = q 18 2 := hM.2.2.2.2.1.trans hpl.symm
  refine g_iload_n hE dX5_item_0 1 rfl ?_
  refine g_iload_n hE dX5_item_1 2 rfl ?_
  refine g_callS hE (c_X5_isSheet cI cS x l) mk_X5_isSheet st_X5_isSheet ml_X5_254 dX5_item_2 (As := [.int x, .int l]) (rest := []) rfl rfl (by decide) (by decide) (Nat.le_of_ble_eq_true rfl) (by decide) (by decide) [] rfl (by decide) (fun u => Nat.le_of_ble_eq_true rfl) (ws' := fun u => modelW cI a q) (fun u => rfl) (fun u hu => ?_)
  obtain ⟨r_1, rfl⟩ : ∃ z, z = u := ⟨_, rfl⟩
  have h2 : r_1 = if (0 ≤ x ∧ x ≤ 3) ∧ 0 ≤ l ∧ l ≤ 2 then 1 else 0 := hu
  by_cases c3 : (0 ≤ x ∧ x ≤ 3) ∧ 0 ≤ l ∧ l ≤ 2
  · rw [if_pos c3] at h2
    subst h2
    show Go E Q 6 0 0 5 [(0, .ref (a 0)), (1, .int x), (2, .int l), (3, .int i), (4, .int v0)] [.int 1] (modelW cI a q)
    refine g_if_ne hE 10 dX5_item_5 (by decide) (fun c4 => ?_) (fun c4 => absurd c4 (by decide))
    obtain ⟨hk4, hkn⟩ := sk_good hk c3.1
    have hk4n : ¬ k = 4 := (by omega)
    refine g_aload_n hE dX5_item_10 0 rfl ?_
    refine g_iload_n hE dX5_item_11 1 rfl ?_
    refine g_iload_n hE dX5_item_12 2 rfl ?_
    refine g_iload_n hE dX5_item_13 3 rfl ?_
    refine g_iconst hE dX5_item_14 1 (by decide) ?_
    refine g_callV hE (c_X5_lacksRow cI cS a q sh hSQ x k hk4 hkn l i 1 1 c3.2.1 (show 1 = nI 1 from rfl) (by omega)) mk_X5_lacksRow mv_X5_lacksRow ml_X5_257 dX5_item_15 (As := [.int x, .int l, .int i, .int 1]) (rest := []) rfl rfl 0 rfl (show vwCl[5]? = some (RX5, TX5, 32) from rfl) (by decide) (by decide) (Nat.le_of_ble_eq_true rfl) (by decide) (by decide) [0, 1, 2, 3, 4, 5, 6, 7, 8, 9, 10, 11, 12, 13, 14, 15, 16, 17, 18] rfl (by decide) (fun u => Nat.le_of_ble_eq_true rfl) (ws' := fun u => modelW cI a q) (fun u => rfl) (fun u hu => ?_)
    obtain ⟨r_5, rfl⟩ : ∃ z, z = u := ⟨_, rfl⟩
    have h6 : r_5 = (refS (sh k 1 0) (sh k 1 1) l i 1) := hu
    subst h6
    show Go E Q 6 0 0 18 [(0, .ref (a 0)), (1, .int x), (2, .int l), (3, .int i), (4, .int v0)] [.int (refS (sh k 1 0) (sh k 1 1) l i 1)] (modelW cI a q)
    refine g_istore hE dX5_item_18 [(5, .int (refS (sh k 1 0) (sh k 1 1) l i 1)), (0, .ref (a 0)), (1, .int x), (2, .int l), (3, .int i), (4, .int v0)] (by decide) rfl ?_
    refine g_iload hE dX5_item_20 0 rfl ?_
    refine g_if_ge hE 28 dX5_item_22 (by decide) (fun c7 => ?_) (fun c7 => ?_)
    · have hrz := ref_z (show ¬ (refS (sh k 1 0) (sh k 1 1) l i 1) < 0 from (Int32.not_lt.mpr c7))
      obtain ⟨hon, hln, hhas⟩ := ref_has hrz
      obtain ⟨ij, hij, hijn⟩ := has_nat hhas (hSQ k hk4).2.1 (W := 1) rfl (by omega)
      refine g_aload_n hE dX5_item_28 1 rfl ?_
      refine g_get hE fl_X5_58 dX5_item_29 0 rfl rfl ?_
      refine g_bipush hE dX5_item_32 24 (by decide) ?_
      refine g_iload_n hE dX5_item_34 2 rfl ?_
      refine g_imul_n hE dX5_item_35 (show 24 = nI 24 from rfl) (show x = nI k from hkn) ?_
      refine g_iload_n hE dX5_item_36 4 rfl ?_
      refine g_iadd_n hE dX5_item_37 (show (nI (24 * k)) = nI (24 * k) from rfl) (show i = nI ij from hijn) ?_
      refine g_iload_n hE dX5_item_38 3 rfl ?_
      refine g_iload hE dX5_item_39 5 rfl ?_
      refine g_callS hE (c_X5_asLane cI cS l v0) mk_X5_asLane st_X5_asLane ml_X5_261 dX5_item_41 (As := [.int l, .int v0]) (rest := [.int (nI ((24 * k) + ij)), .ref (a 17)]) rfl rfl (by decide) (by decide) (Nat.le_of_ble_eq_true rfl) (by decide) (by decide) [] rfl (by decide) (fun u => Nat.le_of_ble_eq_true rfl) (ws' := fun u => modelW cI a q) (fun u => rfl) (fun u hu => ?_)
      obtain ⟨r_8, rfl⟩ : ∃ z, z = u := ⟨_, rfl⟩
      have h9 : r_8 = (lnS l v0) := hu
      subst h9
      show Go E Q 6 0 0 44 [(5, .int (refS (sh k 1 0) (sh k 1 1) l i 1)), (0, .ref (a 0)), (1, .int x), (2, .int l), (3, .int i), (4, .int v0)] [.int (lnS l v0), .int (nI ((24 * k) + ij)), .ref (a 17)] (modelW cI a q)
      refine g_iast_n hE dX5_item_44 17 rfl (show (nI ((24 * k) + ij)) = nI ((24 * k) + ij) from rfl) (by omega) (modelW cI a (pA q 16 (upd (q 16) ((24 * k) + ij) (lnS l v0)))) rfl ?_
      refine g_iconst hE dX5_item_45 1 (by decide) ?_
      exact g_iret hE hQ dX5_item_46 rfl (1, (pA q 16 (upd (q 16) ((24 * k) + ij) (lnS l v0)))) rfl rfl ⟨(by rw [fgItem, if_neg hk4n, if_pos c3.2, if_pos hrz]), ⟨rfl, rfl, rfl, rfl, rfl, rfl, rfl, rfl, rfl⟩, ⟨rfl, rfl, rfl, rfl⟩, (by rw [fgItem, if_neg hk4n, if_pos c3.2, if_pos hrz]; show SQ _ (pA sh k (shT (putv (sh k 0) 24 i (lnS (sh k 1 0) v0)) (sh k 1 0) (sh k 1 1))); rw [show i = nI ij from hijn, putv_n (by omega) (by decide), hln]; exact SQ_item hSQ hk4 (by omega) hon rfl rfl rfl hln.symm rfl)⟩
    · refine g_iload hE dX5_item_25 0 rfl ?_
      exact g_iret hE hQ dX5_item_27 rfl ((refS (sh k 1 0) (sh k 1 1) l i 1), q) rfl rfl ⟨(by rw [(show fgItem sh k l i v0 = ((refS (sh k 1 0) (sh k 1 1) l i 1), sh) by rw [fgItem, if_neg hk4n, if_pos c3.2, if_neg (ref_nz (show (refS (sh k 1 0) (sh k 1 1) l i 1) < 0 from (Int32.not_le.mp c7)))])]), ⟨rfl, rfl, rfl, rfl, rfl, rfl, rfl, rfl, rfl⟩, ⟨rfl, rfl, rfl, rfl⟩, (by rw [(show fgItem sh k l i v0 = ((refS (sh k 1 0) (sh k 1 1) l i 1), sh) by rw [fgItem, if_neg hk4n, if_pos c3.2, if_neg (ref_nz (show (refS (sh k 1 0) (sh k 1 1) l i 1) < 0 from (Int32.not_le.mp c7)))])]; exact hSQ)⟩
  · rw [if_neg c3] at h2
    subst h2
    show Go E Q 6 0 0 5 [(0, .ref (a 0)), (1, .int x), (2, .int l), (3, .int i), (4, .int v0)] [.int 0] (modelW cI a q)
    refine g_if_ne hE 10 dX5_item_5 (by decide) (fun c10 => absurd (by decide) c10) (fun c10 => ?_)
    refine g_iconst hE dX5_item_8 (-1) (by decide) ?_
    exact g_iret hE hQ dX5_item_9 rfl ((-1), q) rfl rfl ⟨(by rw [(show fgItem sh k l i v0 = (-1, sh) by unfold fgItem; exact sb_ite (sk_bad hk c3))]), ⟨rfl, rfl, rfl, rfl, rfl, rfl, rfl, rfl, rfl⟩, ⟨rfl, rfl, rfl, rfl⟩, (by rw [(show fgItem sh k l i v0 = (-1, sh) by unfold fgItem; exact sb_ite (sk_bad hk c3))]; exact hSQ)⟩
