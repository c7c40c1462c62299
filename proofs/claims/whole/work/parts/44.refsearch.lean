/-! the reference's search: rows one behind another, what parts -/
def IR (t : Nat → Nat) (k S : Nat) (z y : Int32) : Prop := (z = nI S ∧ S < 256 ∧ ∀ s, s < 8 → (S.testBit s = true ↔ ∃ i, i < k ∧ t i = s)) ∧ ((y = 1 ∧ NdF t k) ∨ (y = 0 ∧ ¬ NdF t k))
theorem IR_z {t : Nat → Nat} : IR t 0 0 0 1 := ⟨⟨rfl, by decide, fun s _ => ⟨fun h => absurd h (by simp), fun ⟨i, hi, _⟩ => absurd hi (Nat.not_lt_zero _)⟩⟩, Or.inl ⟨rfl, fun _ j _ hj => absurd hj (Nat.not_lt_zero _)⟩⟩
theorem IR_set {t : Nat → Nat} {k S sv : Nat} {z x : Int32} (h : z = nI S ∧ S < 256 ∧ ∀ s, s < 8 → (S.testBit s = true ↔ ∃ i, i < k ∧ t i = s)) (e : x = nI (t k)) (hl : t k < sv) (hsv : sv ≤ 8) : (z ||| ((1 : Int32) <<< (x &&& 31))) = nI (S ||| 2 ^ t k) ∧ (S ||| 2 ^ t k) < 256 ∧ ∀ s, s < 8 → ((S ||| 2 ^ t k).testBit s = true ↔ ∃ i, i < k + 1 ∧ t i = s) := by
  obtain ⟨h1, h2, h3⟩ := h
  subst h1; subst e
  refine ⟨by rw [bit1_n _ (by omega), i_or], ?_, ?_⟩
  · have : 2 ^ t k < 2 ^ 8 := Nat.pow_lt_pow_right (by decide) (by omega)
    exact Nat.or_lt_two_pow (n := 8) h2 this
  · intro s hs
    rw [Nat.testBit_or, Nat.testBit_two_pow]
    constructor
    · intro h
      rcases Bool.or_eq_true _ _ |>.mp h with h | h
      · obtain ⟨i, a, b⟩ := (h3 s hs).mp h
        exact ⟨i, by omega, b⟩
      · exact ⟨k, by omega, of_decide_eq_true h⟩
    · rintro ⟨i, a, b⟩
      by_cases e : i = k
      · subst e
        rw [decide_eq_true b, Bool.or_true]
      · rw [(h3 s hs).mpr ⟨i, by omega, b⟩, Bool.true_or]
theorem IR_0 {t : Nat → Nat} {k S sv : Nat} {z y x : Int32} (h : IR t k S z y) (e : x = nI (t k)) (hl : t k < sv) (hsv : sv ≤ 8) (h0 : y = 0) : IR t (k + 1) (S ||| 2 ^ t k) (z ||| ((1 : Int32) <<< (x &&& 31))) 0 := by
  refine ⟨IR_set h.1 e hl hsv, Or.inr ⟨rfl, ?_⟩⟩
  rcases h.2 with ⟨a, _⟩ | ⟨_, a⟩
  · rw [h0] at a; exact absurd a (by decide)
  · exact fun q => a (fun i j hij hj => q i j hij (by omega))
theorem IR_h {t : Nat → Nat} {k S sv : Nat} {z y x : Int32} (h : IR t k S z y) (e : x = nI (t k)) (hl : t k < sv) (hsv : sv ≤ 8) (hh : ((z >>> (x &&& 31)) &&& 1) = 1) : IR t (k + 1) (S ||| 2 ^ t k) (z ||| ((1 : Int32) <<< (x &&& 31))) 0 := by
  refine ⟨IR_set h.1 e hl hsv, Or.inr ⟨rfl, ?_⟩⟩
  obtain ⟨h1, h2, h3⟩ := h.1
  rw [h1, e] at hh
  obtain ⟨i, a, b⟩ := (h3 (t k) (by omega)).mp ((has_b S h2 (t k) (by omega)).mp hh)
  exact fun q => q i k a (Nat.lt_succ_self _) b
theorem IR_n {t : Nat → Nat} {k S sv : Nat} {z y x : Int32} (h : IR t k S z y) (e : x = nI (t k)) (hl : t k < sv) (hsv : sv ≤ 8) (hy : ¬ y = 0) (hh : ¬ ((z >>> (x &&& 31)) &&& 1) = 1) : IR t (k + 1) (S ||| 2 ^ t k) (z ||| ((1 : Int32) <<< (x &&& 31))) 1 := by
  refine ⟨IR_set h.1 e hl hsv, Or.inl ⟨rfl, ?_⟩⟩
  obtain ⟨h1, h2, h3⟩ := h.1
  rw [h1, e] at hh
  rcases h.2 with ⟨_, a⟩ | ⟨a, _⟩
  · intro i j hij hj q
    by_cases w : j = k
    · subst w
      exact hh ((has_b S h2 (t j) (by omega)).mpr ((h3 (t j) (by omega)).mpr ⟨i, hij, q⟩))
    · exact a i j hij (by omega) q
  · exact absurd a hy
def NX (t : Nat → Nat) (l sv j : Nat) (tr : Nat → Int32) : Prop := (∀ i, i < l → tr i = if i < l - j then nI (t i) else 0) ∧ ∀ i, l - j ≤ i → i < l → t i + 1 = sv
theorem NX_0 {t : Nat → Nat} {l sv : Nat} {f : Nat → Int32} (ht : ∀ j, j < l → f j = nI (t j) ∧ t j < sv) : NX t l sv 0 f := ⟨fun i hi => by rw [if_pos (by omega)]; exact (ht i hi).1, fun i h1 h2 => absurd h2 (by omega)⟩
theorem NX_at {t : Nat → Nat} {l sv j x9 : Nat} {tr : Nat → Int32} (h : NX t l sv j tr) (hr : 1 ≤ l - j) (hx : x9 = t (l - j - 1)) : tr (l - j - 1) = nI x9 := by
  rw [h.1 _ (by omega), if_pos (by omega), hx]
theorem NX_s {t : Nat → Nat} {l sv j x9 : Nat} {tr : Nat → Int32} {v : Int32} (h : NX t l sv j tr) (hr : 1 ≤ l - j) (hx : x9 = t (l - j - 1)) (hm : x9 + 1 = sv) : NX t l sv (j + 1) (upd (upd tr (l - j - 1) v) (l - j - 1) 0) := by
  refine ⟨fun i hi => ?_, fun i h1 h2 => ?_⟩
  · by_cases e : i = l - j - 1
    · rw [if_neg (by omega), e]; exact upd_at _ _ _
    · show (if i = l - j - 1 then (0 : Int32) else if i = l - j - 1 then v else tr i) = _
      rw [if_neg e, if_neg e, h.1 i hi]
      by_cases q : i < l - j
      · rw [if_pos q, if_pos (by omega)]
      · rw [if_neg q, if_neg (by omega)]
  · by_cases e : i = l - j - 1
    · rw [e, ← hx]; exact hm
    · exact h.2 i (by omega) h2
theorem NX_y {t : Nat → Nat} {l sv j x9 : Nat} {tr : Nat → Int32} (h : NX t l sv j tr) (hr : 1 ≤ l - j) (hx : x9 = t (l - j - 1)) (hm : x9 + 1 < sv) (ht : ∀ i, i < l → t i < sv) : rkL sv (tup (fun i => if i = l - j - 1 then x9 + 1 else if i < l - j then t i else 0) 0 l) = rkL sv (tup t 0 l) + 1 ∧ ∀ i, i < l → upd tr (l - j - 1) (nI (x9 + 1)) i = nI ((fun i => if i = l - j - 1 then x9 + 1 else if i < l - j then t i else 0) i) ∧ (fun i => if i = l - j - 1 then x9 + 1 else if i < l - j then t i else 0) i < sv := by
  refine ⟨rk_next (k := l - j - 1) (by omega) (fun i hi => ?_) ?_ (fun i h1 h2 => ?_) (fun i h1 h2 => h.2 i (by omega) h2), fun i hi => ?_⟩
  · show (if i = l - j - 1 then x9 + 1 else if i < l - j then t i else 0) = t i
    rw [if_neg (by omega), if_pos (by omega)]
  · show (if l - j - 1 = l - j - 1 then x9 + 1 else _) = _
    rw [if_pos rfl, hx]
  · show (if i = l - j - 1 then x9 + 1 else if i < l - j then t i else 0) = 0
    rw [if_neg (by omega), if_neg (by omega)]
  · show (if i = l - j - 1 then nI (x9 + 1) else tr i) = nI (if i = l - j - 1 then x9 + 1 else if i < l - j then t i else 0) ∧ (if i = l - j - 1 then x9 + 1 else if i < l - j then t i else 0) < sv
    by_cases e : i = l - j - 1
    · rw [if_pos e, if_pos e]; exact ⟨rfl, hm⟩
    · rw [if_neg e, if_neg e, h.1 i hi]
      by_cases q : i < l - j
      · rw [if_pos q, if_pos q]; exact ⟨rfl, ht i hi⟩
      · rw [if_neg q, if_neg q]; exact ⟨rfl, by omega⟩
theorem NX_n {t : Nat → Nat} {l sv j : Nat} {tr : Nat → Int32} (h : NX t l sv j tr) (e : l = j) : rkL sv (tup t 0 l) + 1 = sv ^ l := rk_max l 0 (fun i _ h2 => h.2 i (by omega) (by omega))
theorem ap_set {x : Int32} {aps g : Nat} (hx : x = nI aps) (ha : aps < 64) (hg : g < 8) : ((x >>> (nI g &&& 31)) &&& 1) = 1 ↔ aps.testBit g = true := by
  rw [hx]; exact has_b aps (by omega) g hg
theorem ap_j {m : MS} {n l g : Nat} {row : Nat → Int32} {x : Int32} (h : x = hA m n row l l g) (hx : ¬ x < 0) : ∃ v, v ≤ l ∧ x = nI v := by
  rcases hA_lt (m := m) (n := n) (row := row) (l := l) (g := g) (k := l) (Nat.le_refl _) with e | ⟨j, j1, j2⟩
  · rw [h, e] at hx; exact absurd (by decide) hx
  · exact ⟨j, j1, h.trans j2⟩
def AP (m : MS) (n : Nat) (row : Nat → Int32) (l aps g S : Nat) (z y : Int32) : Prop := (z = nI S ∧ S < 128 ∧ ∀ j, j ≤ l → (S.testBit j = true ↔ ∃ g2, g2 < g ∧ aps.testBit g2 = true ∧ hA m n row l l g2 = nI j)) ∧ ((y = 1 ∧ PD m n row l aps g) ∨ (y = 0 ∧ ¬ PD m n row l aps g))
theorem AP_z {m : MS} {n l aps : Nat} {row : Nat → Int32} : AP m n row l aps 0 0 0 1 := ⟨⟨rfl, by decide, fun s _ => ⟨fun h => absurd h (by simp), fun ⟨i, hi, _⟩ => absurd hi (Nat.not_lt_zero _)⟩⟩, Or.inl ⟨rfl, fun _ j _ hj => absurd hj (Nat.not_lt_zero _)⟩⟩
theorem PD_s {m : MS} {n l aps g : Nat} {row : Nat → Int32} (h : ¬ aps.testBit g = true ∨ hA m n row l l g < 0) (hl : l ≤ 6) : PD m n row l aps (g + 1) ↔ PD m n row l aps g := by
  constructor
  · exact fun h a b ab bg => h a b ab (by omega)
  · intro q a b ab bg t1 t2 j hj e1 e2
    by_cases e : b = g
    · subst e
      rcases h with h | h
      · exact h t2
      · rw [e2] at h
        exact nI_nneg (by omega) h
    · exact q a b ab (by omega) t1 t2 j hj e1 e2
theorem AP_s {m : MS} {n l aps g S : Nat} {row : Nat → Int32} {z y : Int32} (h : AP m n row l aps g S z y) (hs : ¬ aps.testBit g = true ∨ hA m n row l l g < 0) (hl : l ≤ 6) : AP m n row l aps (g + 1) S z y := by
  obtain ⟨⟨h1, h2, h3⟩, h4⟩ := h
  refine ⟨⟨h1, h2, fun j hj => (h3 j hj).trans ⟨fun ⟨i, a, b⟩ => ⟨i, by omega, b⟩, fun ⟨i, a, b, c⟩ => ⟨i, ?_, b, c⟩⟩⟩, ?_⟩
  · by_cases e : i = g
    · subst e
      rcases hs with hs | hs
      · exact absurd b hs
      · rw [c] at hs; exact absurd hs (nI_nneg (by omega))
    · omega
  · rw [PD_s hs hl]; exact h4
theorem AP_set {m : MS} {n l aps g S v : Nat} {row : Nat → Int32} {z x : Int32} (h : z = nI S ∧ S < 128 ∧ ∀ j, j ≤ l → (S.testBit j = true ↔ ∃ g2, g2 < g ∧ aps.testBit g2 = true ∧ hA m n row l l g2 = nI j)) (hl : l ≤ 6) (hg : aps.testBit g = true) (hv : v ≤ l) (e1 : hA m n row l l g = nI v) (e : x = nI v) : (z ||| ((1 : Int32) <<< (x &&& 31))) = nI (S ||| 2 ^ v) ∧ (S ||| 2 ^ v) < 128 ∧ ∀ j, j ≤ l → ((S ||| 2 ^ v).testBit j = true ↔ ∃ g2, g2 < g + 1 ∧ aps.testBit g2 = true ∧ hA m n row l l g2 = nI j) := by
  obtain ⟨h1, h2, h3⟩ := h
  subst h1; subst e
  refine ⟨by rw [bit1_n _ (by omega), i_or], ?_, ?_⟩
  · have : 2 ^ v < 2 ^ 7 := Nat.pow_lt_pow_right (by decide) (by omega)
    exact Nat.or_lt_two_pow (n := 7) h2 this
  · intro s hs
    rw [Nat.testBit_or, Nat.testBit_two_pow]
    constructor
    · intro h
      rcases Bool.or_eq_true _ _ |>.mp h with h | h
      · obtain ⟨i, a, b⟩ := (h3 s hs).mp h
        exact ⟨i, by omega, b⟩
      · have h := of_decide_eq_true h
        subst h
        exact ⟨g, by omega, hg, e1⟩
    · rintro ⟨i, a, b, c⟩
      by_cases e : i = g
      · subst e
        have : v = s := (nI_eq (by omega) (by omega)).mp (e1.symm.trans c)
        rw [decide_eq_true this, Bool.or_true]
      · rw [(h3 s hs).mpr ⟨i, by omega, b, c⟩, Bool.true_or]
theorem AP_0 {m : MS} {n l aps g S v : Nat} {row : Nat → Int32} {z y x : Int32} (h : AP m n row l aps g S z y) (hl : l ≤ 6) (hg : aps.testBit g = true) (hv : v ≤ l) (e1 : hA m n row l l g = nI v) (e : x = nI v) (h0 : y = 0) : AP m n row l aps (g + 1) (S ||| 2 ^ v) (z ||| ((1 : Int32) <<< (x &&& 31))) 0 := by
  refine ⟨AP_set h.1 hl hg hv e1 e, Or.inr ⟨rfl, ?_⟩⟩
  rcases h.2 with ⟨a, _⟩ | ⟨_, a⟩
  · rw [h0] at a; exact absurd a (by decide)
  · exact fun q => a (fun i j hij hj => q i j hij (by omega))
theorem AP_h {m : MS} {n l aps g S v : Nat} {row : Nat → Int32} {z y x : Int32} (h : AP m n row l aps g S z y) (hl : l ≤ 6) (hg : aps.testBit g = true) (hv : v ≤ l) (e1 : hA m n row l l g = nI v) (e : x = nI v) (hh : ((z >>> (x &&& 31)) &&& 1) = 1) : AP m n row l aps (g + 1) (S ||| 2 ^ v) (z ||| ((1 : Int32) <<< (x &&& 31))) 0 := by
  refine ⟨AP_set h.1 hl hg hv e1 e, Or.inr ⟨rfl, ?_⟩⟩
  obtain ⟨h1, h2, h3⟩ := h.1
  rw [h1, e] at hh
  obtain ⟨i, a, b, c⟩ := (h3 v hv).mp ((has_b S (by omega) v (by omega)).mp hh)
  exact fun q => q i g a (Nat.lt_succ_self _) b hg v hv c e1
theorem AP_n {m : MS} {n l aps g S v : Nat} {row : Nat → Int32} {z y x : Int32} (h : AP m n row l aps g S z y) (hl : l ≤ 6) (hg : aps.testBit g = true) (hv : v ≤ l) (e1 : hA m n row l l g = nI v) (e : x = nI v) (hy : ¬ y = 0) (hh : ¬ ((z >>> (x &&& 31)) &&& 1) = 1) : AP m n row l aps (g + 1) (S ||| 2 ^ v) (z ||| ((1 : Int32) <<< (x &&& 31))) 1 := by
  refine ⟨AP_set h.1 hl hg hv e1 e, Or.inl ⟨rfl, ?_⟩⟩
  obtain ⟨h1, h2, h3⟩ := h.1
  rw [h1, e] at hh
  rcases h.2 with ⟨_, a⟩ | ⟨a, _⟩
  · intro i j hij hj t1 t2 w hw c1 c2
    by_cases q : j = g
    · subst q
      have : v = w := (nI_eq (by omega) (by omega)).mp (e1.symm.trans c2)
      subst this
      exact hh ((has_b S (by omega) v (by omega)).mpr ((h3 v hv).mpr ⟨i, hij, t1, c1⟩))
    · exact a i j hij (by omega) t1 t2 w hw c1 c2
  · exact absurd a hy
def IN (sv w R : Nat) (t : Nat → Nat) (tr : Nat → Int32) (mo : Int32) : Prop := (mo = 1 ∧ R < sv ^ w ∧ R = rkL sv (tup t 0 w) ∧ ∀ j, j < w → tr j = nI (t j) ∧ t j < sv) ∨ (mo = 0 ∧ R = sv ^ w)
theorem IN_1 {sv w R : Nat} {t : Nat → Nat} {tr : Nat → Int32} {mo : Int32} (h : IN sv w R t tr mo) (c : ¬ mo = 0) : R < sv ^ w ∧ R = rkL sv (tup t 0 w) ∧ ∀ j, j < w → tr j = nI (t j) ∧ t j < sv := (h.resolve_right (fun z => c z.1)).2
theorem IN_e {sv w R : Nat} {t : Nat → Nat} {tr : Nat → Int32} {mo : Int32} (h : IN sv w R t tr mo) (c : mo = 0) : R = sv ^ w := by
  rcases h with h | h
  · rw [c] at h; exact absurd h.1 (by decide)
  · exact h.2
theorem IN_le {sv w R : Nat} {t : Nat → Nat} {tr : Nat → Int32} {mo : Int32} (h : IN sv w R t tr mo) : R ≤ sv ^ w := by
  rcases h with h | h
  · omega
  · omega
theorem IN_0 {sv w : Nat} {tr : Nat → Int32} (hw : w ≤ sv) (h : ∀ j, j < w → tr j = 0) : IN sv w 0 (fun _ => 0) tr 1 := by
  refine Or.inl ⟨rfl, ?_, (rk_zero w 0 (fun _ _ _ => rfl)).symm, fun j hj => ⟨h j hj, (show 0 < sv by omega)⟩⟩
  by_cases e : w = 0
  · rw [e]; exact Nat.one_pos
  · exact Nat.pow_pos (by omega)
theorem IN_y {sv w R : Nat} {t t2 : Nat → Nat} {tr : Nat → Int32} (hR : R = rkL sv (tup t 0 w)) (hn : rkL sv (tup t2 0 w) = rkL sv (tup t 0 w) + 1) (hd : ∀ j, j < w → tr j = nI (t2 j) ∧ t2 j < sv) : IN sv w (R + 1) t2 tr 1 := by
  have hl := rk_lt (sv := sv) (tup t2 0 w) (tup_lt (fun j hj => by rw [Nat.zero_add]; exact (hd j hj).2))
  rw [tup_len] at hl
  exact Or.inl ⟨rfl, by omega, by omega, hd⟩
theorem GI_take2 {V : List Nat → Int32} {D D' : List Nat → Prop} {va le v le2 : Int32} {C C' : Nat → Int32} {c : List Nat} (h : GI V D va le C) (hc : c.length ≤ 4) (hvv : v = V c) (hv : va < v) (hle : le2 = nI c.length) (hC : ∀ j, j < c.length → C' j = nI (c.getD j 0)) (hD : ∀ r, D' r ↔ D r ∨ r = c) : GI V D' v le2 C' := by
  subst hvv; subst hle; exact GI_take h hc hv hC hD
theorem GI_skip2 {V : List Nat → Int32} {D D' : List Nat → Prop} {va le v : Int32} {C : Nat → Int32} {c : List Nat} (h : GI V D va le C) (hvv : v = V c) (hv : ¬ va < v) (hb : ∀ d, D d → BtP d c) (hD : ∀ r, D' r ↔ D r ∨ r = c) : GI V D' va le C := by
  subst hvv; exact GI_skip h hv hb hD
theorem vS_V {m : MS} {n : Nat} (t : Nat → Nat) (w : Nat) : vS m n (rowF (tup t 0 w)) w (w + 1) = VR m n (tup t 0 w) := by
  have := vS_VR (m := m) (n := n) (tup t 0 w)
  rw [tup_len] at this
  exact this
theorem PD_tup {m : MS} {n aps w : Nat} {t : Nat → Nat} (hn : n ≤ 6) (hw : w ≤ 6) (ha : aps < 64) : PD m n (rowF (tup t 0 w)) w aps n ↔ okR m n aps (ldS m n) (tup t 0 w) := by
  have := PD_ok (m := m) (n := n) (aps := aps) (c := tup t 0 w) hn (by rw [tup_len]; exact hw) ha
  rw [tup_len] at this
  exact this
theorem tC {t : Nat → Nat} {w sv : Nat} {C tr : Nat → Int32} (h : ∀ j, j < w → C j = tr j) (htd : ∀ j, j < w → tr j = nI (t j) ∧ t j < sv) : ∀ j, j < (tup t 0 w).length → C j = nI ((tup t 0 w).getD j 0) := by
  rw [tup_len]
  intro j hj
  rw [h j hj, (htd j hj).1, tup_at t w 0 j hj, Nat.zero_add]
theorem ra_tup {t : Nat → Nat} {w sv : Nat} {tr : Nat → Int32} (htd : ∀ j, j < w → tr j = nI (t j) ∧ t j < sv) : RA tr (rowF (tup t 0 w)) w sv := by
  intro k hk
  have e : rowF (tup t 0 w) k = nI (t k) := by unfold rowF; rw [tup_at t w 0 k hk, Nat.zero_add]
  exact ⟨(htd k hk).1.trans e.symm, t k, (htd k hk).2, e⟩
theorem i_nn {i : Int32} (h0 : -2 ≤ i) (n2 : ¬ i = -2) (n1 : ¬ i = -1) : 0 ≤ i := by
  rw [Int32.le_iff_toInt_le] at h0 ⊢
  have e2 : i.toInt ≠ -2 := fun q => n2 (Int32.toInt_inj.mp q)
  have e1 : i.toInt ≠ -1 := fun q => n1 (Int32.toInt_inj.mp q)
  have h0' : (-2 : Int) ≤ i.toInt := h0
  show (0 : Int) ≤ i.toInt
  omega
theorem i_m1 {i : Int32} (h0 : -1 ≤ i) (h : i < 0) : i = -1 := by
  rw [Int32.le_iff_toInt_le] at h0
  rw [Int32.lt_iff_toInt_lt] at h
  apply Int32.toInt_inj.mp
  have h0' : (-1 : Int) ≤ i.toInt := h0
  have h' : i.toInt < (0 : Int) := h
  show i.toInt = (-1 : Int)
  omega
theorem dr_best {q m : MS} {n sv pl L : Nat} {b : List Nat} (h : RQ q m n sv pl) (hb : BestOf m n sv L b) : DR (rowF b) b.length sv := by
  obtain ⟨hM, -, hG⟩ := h
  have hn6 := hM.2.1
  have hsv := hM.2.2.2.1
  have hnd := pr_nd hn6 (rg_hold hG hsv) (bs_lt64 _ hn6) (fun g q => ld_n q) hb.2.2.1
  have hd : ∀ j, j < b.length → b.getD j 0 < sv := fun j hj => hb.2.1 _ (getD_mem b j hj)
  refine ⟨fun i j hij hj e => ?_, fun k hk => ⟨b.getD k 0, hd k hk, rfl⟩⟩
  have h1 := hd i (by omega)
  have h2 := hd j hj
  have e2 : b.getD i 0 = b.getD j 0 := (nI_eq (by omega) (by omega)).mp e
  exact hnd i j hij hj e2
theorem sa_fb {q2 m st : MS} {n sv pl : Nat} (h : RQ q2 m n sv pl) (hS : ∀ s, s < sv → q2 8 s = m 3 s ∧ q2 9 s = m 4 s) (e0 : st 0 = q2 0) (e1 : st 1 = q2 1) (e3 : st 3 = q2 3) (e8 : st 8 = q2 8) (e9 : st 9 = q2 9) : SA st m n sv := by
  unfold SA
  rw [e0, e1, e3, e8, e9]
  exact ⟨fun g hg => ⟨(h.2.1.1 g hg).1, (h.2.1.1 g hg).2.1⟩, fun s hs => ⟨(hS s hs).1, (hS s hs).2, (h.2.1.2.1 s hs).2.2.1⟩⟩
theorem ra_b {b : List Nat} {bl sv : Nat} {tr C : Nat → Int32} (hbl : bl = b.length) (htr : ∀ j, j < bl → tr j = C j) (hb3 : ∀ j, j < b.length → C j = nI (b.getD j 0)) (hD : DR (rowF b) bl sv) : RA tr (rowF b) bl sv := fun k hk => ⟨(htr k hk).trans (hb3 k (by omega)), hD.2 k hk⟩
theorem hw_fb {q2 m st : MS} {n sv pl : Nat} (h : RQ q2 m n sv pl) (hS : ∀ s, s < sv → q2 8 s = m 3 s ∧ q2 9 s = m 4 s) (e3 : st 3 = q2 3) (e8 : st 8 = q2 8) (e9 : st 9 = q2 9) : ∀ s, s < sv → st 8 s = m 3 s ∧ st 9 s = m 4 s ∧ st 3 (4 * s + 3) = m 6 s ∧ 0 ≤ m 3 s := by
  rw [e3, e8, e9]
  exact fun s hs => ⟨(hS s hs).1, (hS s hs).2, (h.2.1.2.1 s hs).2.2.2, (h.2.2.2.1 s hs).1⟩
theorem OF_tr {a b c : MS} (h1 : OF a b) (h2 : OF b c) : OF a c := ⟨h1.1.trans h2.1, h1.2.1.trans h2.2.1, h1.2.2.1.trans h2.2.2.1, h1.2.2.2.1.trans h2.2.2.2.1, h1.2.2.2.2.1.trans h2.2.2.2.2.1, h1.2.2.2.2.2.1.trans h2.2.2.2.2.2.1, h1.2.2.2.2.2.2.trans h2.2.2.2.2.2.2⟩
theorem se_V {q m : MS} {n sv pl L : Nat} {b : List Nat} (h : RQ q m n sv pl) (hb : BestOf m n sv L b) : VR m n b = shV m n (rowF b) b.length := by
  rw [shV_vS (dr_best h hb) h.1.2.2.2.1, vS_VR]
set_option maxHeartbeats 4000000 in
set_option maxRecDepth 100000 in
theorem c_X5_isRow (cI cS : ClassId) (a : Nat → Nat) (q : Nat → Nat → Int32) {l : Nat} (htm : q 18 7 = nI l) (hl6 : l ≤ 6) (t : Nat → Nat) {sv : Nat} (hsv8 : sv ≤ 8) (ht : ∀ j, j < l → q 7 j = nI (t j) ∧ t j < sv) : CT cI cS yX5_isRow cX5_isRow 4 (some .boolean) 1 [.ref (a 0)] (modelW cI a q) 0 0 (fun u : Int32 => (u = 1 ∧ NdF t l) ∨ (u = 0 ∧ ¬ NdF t l)) (fun u => some (.int u)) (fun u => (modelW cI a q)) := by
  refine ct_intro (by decide) (Nat.le_of_ble_eq_true rfl) (fun E Q hE hQ hI => ?_)
  have hE : CxOk E cI cS RX5 cX5_isRow 4 (some .boolean) 1 0 0 := hE
  show Go E Q 4 0 0 0 [(0, .ref (a 0))] [] (modelW cI a q)
  refine g_iconst hE dX5_isRow_0 0 (by decide) ?_
  refine g_istore_n hE dX5_isRow_1 [(1, .int 0), (0, .ref (a 0))] rfl (by decide) rfl ?_
  refine g_iconst hE dX5_isRow_2 1 (by decide) ?_
  refine g_istore_n hE dX5_isRow_3 [(2, .int 1), (1, .int 0), (0, .ref (a 0))] rfl (by decide) rfl ?_
  refine g_iconst hE dX5_isRow_4 0 (by decide) ?_
  refine g_istore_n hE dX5_isRow_5 [(3, .int 0), (2, .int 1), (1, .int 0), (0, .ref (a 0))] rfl (by decide) rfl ?_
  have L6 : ∀ (n_6 : Nat) (k : Nat) (y : Int32) (S : Nat) (z : Int32), (k ≤ l) → (IR t k S z y) → (l - k < n_6) → Go E Q 4 0 0 6 [(0, .ref (a 0)), (1, .int z), (2, .int y), (3, .int (nI k))] [] (modelW cI a q) := by
    intro n_6
    induction n_6 with
    | zero => intro k y S z hk hIR hm_6; exact absurd hm_6 (Nat.not_lt_zero _)
    | succ n_6 ih_6 =>
      intro k y S z hk hIR hm_6
      refine g_iload_n hE dX5_isRow_6 3 rfl ?_
      refine g_aload_n hE dX5_isRow_7 0 rfl ?_
      refine g_get hE fl_X5_164 dX5_isRow_8 0 rfl rfl ?_
      refine g_icmp_ge hE 54 dX5_isRow_11 (by decide) (fun c1 => ?_) (fun c1 => ?_)
      · have kc1 := nat_le_t (show (q 18 7) = nI l from htm) (show (nI k) = nI k from rfl) (by omega) (by omega) c1
        refine g_iload_n hE dX5_isRow_54 2 rfl ?_
        exact g_iret hE hQ dX5_isRow_55 (by rcases hIR.2 with ⟨e, _⟩ | ⟨e, _⟩ <;> rw [e] <;> decide) y rfl rfl (by have e : k = l := (by omega); rw [e] at hIR; exact hIR.2)
      · have kc1 := nat_le_f (show (q 18 7) = nI l from htm) (show (nI k) = nI k from rfl) (by omega) (by omega) c1
        refine g_iload_n hE dX5_isRow_14 2 rfl ?_
        refine g_if_eq hE 35 dX5_isRow_15 (by decide) (fun c2 => ?_) (fun c2 => ?_)
        · refine g_iconst hE dX5_isRow_35 0 (by decide) ?_
          refine g_istore_n hE dX5_isRow_36 [(2, .int 0), (0, .ref (a 0)), (1, .int z), (3, .int (nI k))] rfl (by decide) rfl ?_
          refine g_iload_n hE dX5_isRow_37 2 rfl ?_
          refine g_iconst hE dX5_isRow_38 1 (by decide) ?_
          refine g_aload_n hE dX5_isRow_39 1 rfl ?_
          refine g_get hE fl_X5_31 dX5_isRow_40 0 rfl rfl ?_
          refine g_iload_n hE dX5_isRow_43 3 rfl ?_
          refine g_iald_n hE dX5_isRow_44 8 rfl (show (nI k) = nI k from rfl) (by omega) ?_
          refine g_ishl hE dX5_isRow_45 ?_
          refine g_ior hE dX5_isRow_46 ?_
          refine g_istore_n hE dX5_isRow_47 [(1, .int (z ||| (1 <<< (((q 7) k) &&& 31)))), (2, .int 0), (0, .ref (a 0)), (3, .int (nI k))] rfl (by decide) rfl ?_
          refine g_iinc hE dX5_isRow_48 3 (nI (k + 1)) [(3, .int (nI (k + 1))), (1, .int (z ||| (1 <<< (((q 7) k) &&& 31)))), (2, .int 0), (0, .ref (a 0))] rfl (nI_1 _) (by decide) rfl ?_
          refine g_goto hE 6 dX5_isRow_51 (by decide) ?_
          refine g_locals [3, 1, 2, 0] [(0, .ref (a 0)), (1, .int (z ||| (1 <<< (((q 7) k) &&& 31)))), (2, .int 0), (3, .int (nI (k + 1)))] rfl ?_
          exact ih_6 (k + 1) 0 (S ||| 2 ^ t k) (z ||| (1 <<< (((q 7) k) &&& 31))) (by first | assumption | omega) (IR_0 hIR (ht k (by omega)).1 (ht k (by omega)).2 hsv8 (show y = 0 from c2)) (by omega)
        · refine g_iload_n hE dX5_isRow_18 1 rfl ?_
          refine g_aload_n hE dX5_isRow_19 0 rfl ?_
          refine g_get hE fl_X5_31 dX5_isRow_20 0 rfl rfl ?_
          refine g_iload_n hE dX5_isRow_23 3 rfl ?_
          refine g_iald_n hE dX5_isRow_24 8 rfl (show (nI k) = nI k from rfl) (by omega) ?_
          refine g_callS hE (c_X5_has cI cS z ((q 7) k)) mk_X5_has st_X5_has ml_X5_156 dX5_isRow_25 (As := [.int z, .int ((q 7) k)]) (rest := []) rfl rfl (by decide) (by decide) (Nat.le_of_ble_eq_true rfl) (by decide) (by decide) [] rfl (by decide) (fun u => Nat.le_of_ble_eq_true rfl) (ws' := fun u => modelW cI a q) (fun u => rfl) (fun u hu => ?_)
          obtain ⟨r_3, rfl⟩ : ∃ z, z = u := ⟨_, rfl⟩
          have h4 : r_3 = if ((z >>> (((q 7) k) &&& 31)) &&& 1) = 1 then 1 else 0 := hu
          by_cases c5 : ((z >>> (((q 7) k) &&& 31)) &&& 1) = 1
          · rw [if_pos c5] at h4
            subst h4
            show Go E Q 4 0 0 28 [(0, .ref (a 0)), (1, .int z), (2, .int y), (3, .int (nI k))] [.int 1] (modelW cI a q)
            refine g_if_ne hE 35 dX5_isRow_28 (by decide) (fun c6 => ?_) (fun c6 => absurd c6 (by decide))
            refine g_iconst hE dX5_isRow_35 0 (by decide) ?_
            refine g_istore_n hE dX5_isRow_36 [(2, .int 0), (0, .ref (a 0)), (1, .int z), (3, .int (nI k))] rfl (by decide) rfl ?_
            refine g_iload_n hE dX5_isRow_37 2 rfl ?_
            refine g_iconst hE dX5_isRow_38 1 (by decide) ?_
            refine g_aload_n hE dX5_isRow_39 1 rfl ?_
            refine g_get hE fl_X5_31 dX5_isRow_40 0 rfl rfl ?_
            refine g_iload_n hE dX5_isRow_43 3 rfl ?_
            refine g_iald_n hE dX5_isRow_44 8 rfl (show (nI k) = nI k from rfl) (by omega) ?_
            refine g_ishl hE dX5_isRow_45 ?_
            refine g_ior hE dX5_isRow_46 ?_
            refine g_istore_n hE dX5_isRow_47 [(1, .int (z ||| (1 <<< (((q 7) k) &&& 31)))), (2, .int 0), (0, .ref (a 0)), (3, .int (nI k))] rfl (by decide) rfl ?_
            refine g_iinc hE dX5_isRow_48 3 (nI (k + 1)) [(3, .int (nI (k + 1))), (1, .int (z ||| (1 <<< (((q 7) k) &&& 31)))), (2, .int 0), (0, .ref (a 0))] rfl (nI_1 _) (by decide) rfl ?_
            refine g_goto hE 6 dX5_isRow_51 (by decide) ?_
            refine g_locals [3, 1, 2, 0] [(0, .ref (a 0)), (1, .int (z ||| (1 <<< (((q 7) k) &&& 31)))), (2, .int 0), (3, .int (nI (k + 1)))] rfl ?_
            exact ih_6 (k + 1) 0 (S ||| 2 ^ t k) (z ||| (1 <<< (((q 7) k) &&& 31))) (by first | assumption | omega) (IR_h hIR (ht k (by omega)).1 (ht k (by omega)).2 hsv8 c5) (by omega)
          · rw [if_neg c5] at h4
            subst h4
            show Go E Q 4 0 0 28 [(0, .ref (a 0)), (1, .int z), (2, .int y), (3, .int (nI k))] [.int 0] (modelW cI a q)
            refine g_if_ne hE 35 dX5_isRow_28 (by decide) (fun c7 => absurd (by decide) c7) (fun c7 => ?_)
            refine g_iconst hE dX5_isRow_31 1 (by decide) ?_
            refine g_goto hE 36 dX5_isRow_32 (by decide) ?_
            refine g_istore_n hE dX5_isRow_36 [(2, .int 1), (0, .ref (a 0)), (1, .int z), (3, .int (nI k))] rfl (by decide) rfl ?_
            refine g_iload_n hE dX5_isRow_37 2 rfl ?_
            refine g_iconst hE dX5_isRow_38 1 (by decide) ?_
            refine g_aload_n hE dX5_isRow_39 1 rfl ?_
            refine g_get hE fl_X5_31 dX5_isRow_40 0 rfl rfl ?_
            refine g_iload_n hE dX5_isRow_43 3 rfl ?_
            refine g_iald_n hE dX5_isRow_44 8 rfl (show (nI k) = nI k from rfl) (by omega) ?_
            refine g_ishl hE dX5_isRow_45 ?_
            refine g_ior hE dX5_isRow_46 ?_
            refine g_istore_n hE dX5_isRow_47 [(1, .int (z ||| (1 <<< (((q 7) k) &&& 31)))), (2, .int 1), (0, .ref (a 0)), (3, .int (nI k))] rfl (by decide) rfl ?_
            refine g_iinc hE dX5_isRow_48 3 (nI (k + 1)) [(3, .int (nI (k + 1))), (1, .int (z ||| (1 <<< (((q 7) k) &&& 31)))), (2, .int 1), (0, .ref (a 0))] rfl (nI_1 _) (by decide) rfl ?_
            refine g_goto hE 6 dX5_isRow_51 (by decide) ?_
            refine g_locals [3, 1, 2, 0] [(0, .ref (a 0)), (1, .int (z ||| (1 <<< (((q 7) k) &&& 31)))), (2, .int 1), (3, .int (nI (k + 1)))] rfl ?_
            exact ih_6 (k + 1) 1 (S ||| 2 ^ t k) (z ||| (1 <<< (((q 7) k) &&& 31))) (by first | assumption | omega) (IR_n hIR (ht k (by omega)).1 (ht k (by omega)).2 hsv8 (show ¬ y = 0 from c2) c5) (by omega)
  refine g_locals [3, 2, 1, 0] [(0, .ref (a 0)), (1, .int 0), (2, .int 1), (3, .int 0)] rfl ?_
  exact L6 _ 0 1 0 0 (Nat.zero_le _) IR_z (Nat.lt_succ_self _)
set_option maxHeartbeats 4000000 in
set_option maxRecDepth 100000 in
theorem c_X5_nextRow (cI cS : ClassId) (a : Nat → Nat) (q : Nat → Nat → Int32) {sv : Nat} (hsv : q 18 1 = nI sv) (hsv8 : sv ≤ 8) {l : Nat} (htm : q 18 7 = nI l) (hl6 : l ≤ 6) (t : Nat → Nat) (ht : ∀ j, j < l → q 7 j = nI (t j) ∧ t j < sv) : CT cI cS yX5_nextRow cX5_nextRow 2 (some .boolean) 0 [.ref (a 0)] (modelW cI a q) 0 0 (fun u : Int32 × (Nat → Int32) × (Nat → Nat) => (u.1 = 1 ∧ rkL sv (tup u.2.2 0 l) = rkL sv (tup t 0 l) + 1 ∧ ∀ j, j < l → u.2.1 j = nI (u.2.2 j) ∧ u.2.2 j < sv) ∨ (u.1 = 0 ∧ rkL sv (tup t 0 l) + 1 = sv ^ l)) (fun u => some (.int u.1)) (fun u => (modelW cI a (pA q 7 u.2.1))) := by
  refine ct_intro (by decide) (Nat.le_of_ble_eq_true rfl) (fun E Q hE hQ hI => ?_)
  have hE : CxOk E cI cS RX5 cX5_nextRow 2 (some .boolean) 0 0 0 := hE
  show Go E Q 2 0 0 0 [(0, .ref (a 0))] [] (modelW cI a q)
  refine g_aload_n hE dX5_nextRow_0 0 rfl ?_
  refine g_get hE fl_X5_164 dX5_nextRow_1 0 rfl rfl ?_
  refine g_iconst hE dX5_nextRow_4 1 (by decide) ?_
  refine g_isub hE dX5_nextRow_5 ?_
  refine g_istore_n hE dX5_nextRow_6 [(1, .int ((q 18 7) - 1)), (0, .ref (a 0))] rfl (by decide) rfl ?_
  have L7 : ∀ (n_7 : Nat) (j : Nat) (tr : Nat → Int32) (z : Int32), (j ≤ l) → (z = nI (l - j) - 1) → (NX t l sv j tr) → (l - j + 1 < n_7) → Go E Q 2 0 0 7 [(0, .ref (a 0)), (1, .int z)] [] (modelW cI a (pA q 7 tr)) := by
    intro n_7
    induction n_7 with
    | zero => intro j tr z hj hz htr hm_7; exact absurd hm_7 (Nat.not_lt_zero _)
    | succ n_7 ih_7 =>
      intro j tr z hj hz htr hm_7
      refine g_iload_n hE dX5_nextRow_7 1 rfl ?_
      refine g_if_lt hE 49 dX5_nextRow_8 (by decide) (fun c1 => ?_) (fun c1 => ?_)
      · refine g_iconst hE dX5_nextRow_49 0 (by decide) ?_
        exact g_iret hE hQ dX5_nextRow_50 (by first | rfl | decide) (0, tr, t) rfl rfl (Or.inr ⟨rfl, NX_n htr (ty_neg hz (by omega) (show z < 0 from c1))⟩)
      · have hr := ty_pos hz (by omega) (show ¬ z < 0 from c1)
        have hzn : z = nI (l - j - 1) := by rw [hz, show l - j = (l - j - 1) + 1 by omega, nI_pred]; rfl
        obtain ⟨x9, hx9⟩ : ∃ x9, x9 = t (l - j - 1) := ⟨_, rfl⟩
        have hx9l : x9 < sv := by rw [hx9]; exact (ht _ (by omega)).2
        refine g_aload_n hE dX5_nextRow_11 0 rfl ?_
        refine g_get hE fl_X5_31 dX5_nextRow_12 0 rfl rfl ?_
        refine g_iload_n hE dX5_nextRow_15 1 rfl ?_
        refine g_dup2 hE dX5_nextRow_16 rfl rfl ?_
        refine g_iald_n hE dX5_nextRow_17 8 rfl (show z = nI (l - j - 1) from hzn) (by omega) ?_
        show Go E Q 2 0 0 18 [(0, .ref (a 0)), (1, .int z)] [.int (tr (l - j - 1)), .int z, .ref (a 8)] (modelW cI a (pA q 7 tr))
        rw [show (tr (l - j - 1)) = (nI x9) from (NX_at htr hr hx9)]
        refine g_iconst hE dX5_nextRow_18 1 (by decide) ?_
        refine g_iadd_n hE dX5_nextRow_19 (show (nI x9) = nI x9 from rfl) (show 1 = nI 1 from rfl) ?_
        refine g_iast_n hE dX5_nextRow_20 8 rfl (show z = nI (l - j - 1) from hzn) (by omega) (modelW cI a (pA q 7 (upd tr (l - j - 1) (nI (x9 + 1))))) rfl ?_
        refine g_aload_n hE dX5_nextRow_21 0 rfl ?_
        refine g_get hE fl_X5_31 dX5_nextRow_22 0 rfl rfl ?_
        refine g_iload_n hE dX5_nextRow_25 1 rfl ?_
        refine g_iald_n hE dX5_nextRow_26 8 rfl (show z = nI (l - j - 1) from hzn) (by omega) ?_
        show Go E Q 2 0 0 27 [(0, .ref (a 0)), (1, .int z)] [.int ((upd tr (l - j - 1) (nI (x9 + 1))) (l - j - 1))] (modelW cI a (pA q 7 (upd tr (l - j - 1) (nI (x9 + 1)))))
        rw [show ((upd tr (l - j - 1) (nI (x9 + 1))) (l - j - 1)) = (nI (x9 + 1)) from upd_at _ _ _]
        refine g_aload_n hE dX5_nextRow_27 0 rfl ?_
        refine g_get hE fl_X5_72 dX5_nextRow_28 0 rfl rfl ?_
        refine g_icmp_ge hE 36 dX5_nextRow_31 (by decide) (fun c2 => ?_) (fun c2 => ?_)
        · have kc2 := nat_le_t (show (q 18 1) = nI sv from hsv) (show (nI (x9 + 1)) = nI (x9 + 1) from rfl) (by omega) (by omega) c2
          refine g_aload_n hE dX5_nextRow_36 0 rfl ?_
          refine g_get hE fl_X5_31 dX5_nextRow_37 0 rfl rfl ?_
          refine g_iload_n hE dX5_nextRow_40 1 rfl ?_
          refine g_iconst hE dX5_nextRow_41 0 (by decide) ?_
          refine g_iast_n hE dX5_nextRow_42 8 rfl (show z = nI (l - j - 1) from hzn) (by omega) (modelW cI a (pA q 7 (upd (upd tr (l - j - 1) (nI (x9 + 1))) (l - j - 1) 0))) rfl ?_
          refine g_iinc hE dX5_nextRow_43 1 (z + (-1)) [(1, .int (z + (-1))), (0, .ref (a 0))] rfl rfl (by decide) rfl ?_
          refine g_goto hE 7 dX5_nextRow_46 (by decide) ?_
          refine g_locals [1, 0] [(0, .ref (a 0)), (1, .int (z + (-1)))] rfl ?_
          exact ih_7 (j + 1) (upd (upd tr (l - j - 1) (nI (x9 + 1))) (l - j - 1) 0) (z + (-1)) (by omega) (ty_dec hz (by omega)) (NX_s htr hr hx9 (by omega)) (by omega)
        · have kc2 := nat_le_f (show (q 18 1) = nI sv from hsv) (show (nI (x9 + 1)) = nI (x9 + 1) from rfl) (by omega) (by omega) c2
          refine g_iconst hE dX5_nextRow_34 1 (by decide) ?_
          exact g_iret hE hQ dX5_nextRow_35 (by first | rfl | decide) (1, (upd tr (l - j - 1) (nI (x9 + 1))), (fun i => if i = l - j - 1 then x9 + 1 else if i < l - j then t i else 0)) rfl rfl (Or.inl ⟨rfl, NX_y htr hr hx9 (by omega) (fun i hi => (ht i hi).2)⟩)
  refine g_locals [1, 0] [(0, .ref (a 0)), (1, .int ((q 18 7) - 1))] rfl ?_
  exact L7 _ 0 (q 7) ((q 18 7) - 1) (Nat.zero_le _) (by rw [htm]; rfl) (NX_0 ht) (Nat.lt_succ_self _)
set_option maxHeartbeats 4000000 in
set_option maxRecDepth 100000 in
theorem c_X5_areParted (cI cS : ClassId) (a : Nat → Nat) (q : Nat → Nat → Int32) {n : Nat} (hgr : q 18 0 = nI n) (hn6 : n ≤ 6) {l : Nat} (hl6 : l ≤ 6) (m : MS) (row : Nat → Int32) (hh : ∀ g, g < n → q 10 g = hA m n row l l g) (aps : Nat) (hap : q 18 10 = nI aps) (haps : aps < 64) : CT cI cS yX5_areParted cX5_areParted 4 (some .boolean) 1 [.ref (a 0)] (modelW cI a q) 0 0 (fun u : Int32 => (u = 1 ∧ PD m n row l aps n) ∨ (u = 0 ∧ ¬ PD m n row l aps n)) (fun u => some (.int u)) (fun u => (modelW cI a q)) := by
  refine ct_intro (by decide) (Nat.le_of_ble_eq_true rfl) (fun E Q hE hQ hI => ?_)
  have hE : CxOk E cI cS RX5 cX5_areParted 4 (some .boolean) 1 0 0 := hE
  show Go E Q 4 0 0 0 [(0, .ref (a 0))] [] (modelW cI a q)
  refine g_iconst hE dX5_areParted_0 0 (by decide) ?_
  refine g_istore_n hE dX5_areParted_1 [(1, .int 0), (0, .ref (a 0))] rfl (by decide) rfl ?_
  refine g_iconst hE dX5_areParted_2 1 (by decide) ?_
  refine g_istore_n hE dX5_areParted_3 [(2, .int 1), (1, .int 0), (0, .ref (a 0))] rfl (by decide) rfl ?_
  refine g_iconst hE dX5_areParted_4 0 (by decide) ?_
  refine g_istore_n hE dX5_areParted_5 [(3, .int 0), (2, .int 1), (1, .int 0), (0, .ref (a 0))] rfl (by decide) rfl ?_
  have L6 : ∀ (n_6 : Nat) (g : Nat) (y : Int32) (S : Nat) (z : Int32), (g ≤ n) → (AP m n row l aps g S z y) → (n - g < n_6) → Go E Q 4 0 0 6 [(0, .ref (a 0)), (1, .int z), (2, .int y), (3, .int (nI g))] [] (modelW cI a q) := by
    intro n_6
    induction n_6 with
    | zero => intro g y S z hg hAP hm_6; exact absurd hm_6 (Nat.not_lt_zero _)
    | succ n_6 ih_6 =>
      intro g y S z hg hAP hm_6
      refine g_iload_n hE dX5_areParted_6 3 rfl ?_
      refine g_aload_n hE dX5_areParted_7 0 rfl ?_
      refine g_get hE fl_X5_64 dX5_areParted_8 0 rfl rfl ?_
      refine g_icmp_ge hE 74 dX5_areParted_11 (by decide) (fun c1 => ?_) (fun c1 => ?_)
      · have kc1 := nat_le_t (show (q 18 0) = nI n from hgr) (show (nI g) = nI g from rfl) (by omega) (by omega) c1
        refine g_iload_n hE dX5_areParted_74 2 rfl ?_
        exact g_iret hE hQ dX5_areParted_75 (by rcases hAP.2 with ⟨e, _⟩ | ⟨e, _⟩ <;> rw [e] <;> decide) y rfl rfl (by have e : g = n := (by omega); rw [e] at hAP; exact hAP.2)
      · have kc1 := nat_le_f (show (q 18 0) = nI n from hgr) (show (nI g) = nI g from rfl) (by omega) (by omega) c1
        refine g_aload_n hE dX5_areParted_14 0 rfl ?_
        refine g_get hE fl_X5_208 dX5_areParted_15 0 rfl rfl ?_
        refine g_iload_n hE dX5_areParted_18 3 rfl ?_
        refine g_callS hE (c_X5_has cI cS (q 18 10) (nI g)) mk_X5_has st_X5_has ml_X5_156 dX5_areParted_19 (As := [.int (q 18 10), .int (nI g)]) (rest := []) rfl rfl (by decide) (by decide) (Nat.le_of_ble_eq_true rfl) (by decide) (by decide) [] rfl (by decide) (fun u => Nat.le_of_ble_eq_true rfl) (ws' := fun u => modelW cI a q) (fun u => rfl) (fun u hu => ?_)
        obtain ⟨r_2, rfl⟩ : ∃ z, z = u := ⟨_, rfl⟩
        have h3 : r_2 = if (((q 18 10) >>> ((nI g) &&& 31)) &&& 1) = 1 then 1 else 0 := hu
        by_cases c4 : (((q 18 10) >>> ((nI g) &&& 31)) &&& 1) = 1
        · rw [if_pos c4] at h3
          subst h3
          show Go E Q 4 0 0 22 [(0, .ref (a 0)), (1, .int z), (2, .int y), (3, .int (nI g))] [.int 1] (modelW cI a q)
          refine g_if_eq hE 68 dX5_areParted_22 (by decide) (fun c5 => absurd c5 (by decide)) (fun c5 => ?_)
          refine g_aload_n hE dX5_areParted_25 0 rfl ?_
          refine g_get hE fl_X5_40 dX5_areParted_26 0 rfl rfl ?_
          refine g_iload_n hE dX5_areParted_29 3 rfl ?_
          refine g_iald_n hE dX5_areParted_30 11 rfl (show (nI g) = nI g from rfl) (by omega) ?_
          refine g_if_lt hE 68 dX5_areParted_31 (by decide) (fun c6 => ?_) (fun c6 => ?_)
          · refine g_iinc hE dX5_areParted_68 3 (nI (g + 1)) [(3, .int (nI (g + 1))), (0, .ref (a 0)), (1, .int z), (2, .int y)] rfl (nI_1 _) (by decide) rfl ?_
            refine g_goto hE 6 dX5_areParted_71 (by decide) ?_
            refine g_locals [1, 2, 3, 0] [(0, .ref (a 0)), (1, .int z), (2, .int y), (3, .int (nI (g + 1)))] rfl ?_
            exact ih_6 (g + 1) y _ z (by first | assumption | omega) (AP_s hAP (Or.inr (by rw [← hh g (by omega)]; exact (show ((q 10) g) < 0 from c6))) hl6) (by omega)
          · have hgs : aps.testBit g = true := (ap_set hap haps (show g < 8 by omega)).mp c4
            obtain ⟨hv, hvl, hvn⟩ := ap_j (hh g (by omega)) (show ¬ ((q 10) g) < 0 from c6)
            refine g_iload_n hE dX5_areParted_34 2 rfl ?_
            refine g_if_eq hE 55 dX5_areParted_35 (by decide) (fun c7 => ?_) (fun c7 => ?_)
            · refine g_iconst hE dX5_areParted_55 0 (by decide) ?_
              refine g_istore_n hE dX5_areParted_56 [(2, .int 0), (0, .ref (a 0)), (1, .int z), (3, .int (nI g))] rfl (by decide) rfl ?_
              refine g_iload_n hE dX5_areParted_57 2 rfl ?_
              refine g_iconst hE dX5_areParted_58 1 (by decide) ?_
              refine g_aload_n hE dX5_areParted_59 1 rfl ?_
              refine g_get hE fl_X5_40 dX5_areParted_60 0 rfl rfl ?_
              refine g_iload_n hE dX5_areParted_63 3 rfl ?_
              refine g_iald_n hE dX5_areParted_64 11 rfl (show (nI g) = nI g from rfl) (by omega) ?_
              refine g_ishl hE dX5_areParted_65 ?_
              refine g_ior hE dX5_areParted_66 ?_
              refine g_istore_n hE dX5_areParted_67 [(1, .int (z ||| (1 <<< (((q 10) g) &&& 31)))), (2, .int 0), (0, .ref (a 0)), (3, .int (nI g))] rfl (by decide) rfl ?_
              refine g_iinc hE dX5_areParted_68 3 (nI (g + 1)) [(3, .int (nI (g + 1))), (1, .int (z ||| (1 <<< (((q 10) g) &&& 31)))), (2, .int 0), (0, .ref (a 0))] rfl (nI_1 _) (by decide) rfl ?_
              refine g_goto hE 6 dX5_areParted_71 (by decide) ?_
              refine g_locals [3, 1, 2, 0] [(0, .ref (a 0)), (1, .int (z ||| (1 <<< (((q 10) g) &&& 31)))), (2, .int 0), (3, .int (nI (g + 1)))] rfl ?_
              exact ih_6 (g + 1) 0 (S ||| 2 ^ hv) (z ||| (1 <<< (((q 10) g) &&& 31))) (by first | assumption | omega) (AP_0 hAP hl6 hgs hvl ((hh g (by omega)).symm.trans hvn) hvn (show y = 0 from c7)) (by omega)
            · refine g_iload_n hE dX5_areParted_38 1 rfl ?_
              refine g_aload_n hE dX5_areParted_39 0 rfl ?_
              refine g_get hE fl_X5_40 dX5_areParted_40 0 rfl rfl ?_
              refine g_iload_n hE dX5_areParted_43 3 rfl ?_
              refine g_iald_n hE dX5_areParted_44 11 rfl (show (nI g) = nI g from rfl) (by omega) ?_
              refine g_callS hE (c_X5_has cI cS z ((q 10) g)) mk_X5_has st_X5_has ml_X5_156 dX5_areParted_45 (As := [.int z, .int ((q 10) g)]) (rest := []) rfl rfl (by decide) (by decide) (Nat.le_of_ble_eq_true rfl) (by decide) (by decide) [] rfl (by decide) (fun u => Nat.le_of_ble_eq_true rfl) (ws' := fun u => modelW cI a q) (fun u => rfl) (fun u hu => ?_)
              obtain ⟨r_8, rfl⟩ : ∃ z, z = u := ⟨_, rfl⟩
              have h9 : r_8 = if ((z >>> (((q 10) g) &&& 31)) &&& 1) = 1 then 1 else 0 := hu
              by_cases c10 : ((z >>> (((q 10) g) &&& 31)) &&& 1) = 1
              · rw [if_pos c10] at h9
                subst h9
                show Go E Q 4 0 0 48 [(0, .ref (a 0)), (1, .int z), (2, .int y), (3, .int (nI g))] [.int 1] (modelW cI a q)
                refine g_if_ne hE 55 dX5_areParted_48 (by decide) (fun c11 => ?_) (fun c11 => absurd c11 (by decide))
                refine g_iconst hE dX5_areParted_55 0 (by decide) ?_
                refine g_istore_n hE dX5_areParted_56 [(2, .int 0), (0, .ref (a 0)), (1, .int z), (3, .int (nI g))] rfl (by decide) rfl ?_
                refine g_iload_n hE dX5_areParted_57 2 rfl ?_
                refine g_iconst hE dX5_areParted_58 1 (by decide) ?_
                refine g_aload_n hE dX5_areParted_59 1 rfl ?_
                refine g_get hE fl_X5_40 dX5_areParted_60 0 rfl rfl ?_
                refine g_iload_n hE dX5_areParted_63 3 rfl ?_
                refine g_iald_n hE dX5_areParted_64 11 rfl (show (nI g) = nI g from rfl) (by omega) ?_
                refine g_ishl hE dX5_areParted_65 ?_
                refine g_ior hE dX5_areParted_66 ?_
                refine g_istore_n hE dX5_areParted_67 [(1, .int (z ||| (1 <<< (((q 10) g) &&& 31)))), (2, .int 0), (0, .ref (a 0)), (3, .int (nI g))] rfl (by decide) rfl ?_
                refine g_iinc hE dX5_areParted_68 3 (nI (g + 1)) [(3, .int (nI (g + 1))), (1, .int (z ||| (1 <<< (((q 10) g) &&& 31)))), (2, .int 0), (0, .ref (a 0))] rfl (nI_1 _) (by decide) rfl ?_
                refine g_goto hE 6 dX5_areParted_71 (by decide) ?_
                refine g_locals [3, 1, 2, 0] [(0, .ref (a 0)), (1, .int (z ||| (1 <<< (((q 10) g) &&& 31)))), (2, .int 0), (3, .int (nI (g + 1)))] rfl ?_
                exact ih_6 (g + 1) 0 (S ||| 2 ^ hv) (z ||| (1 <<< (((q 10) g) &&& 31))) (by first | assumption | omega) (AP_h hAP hl6 hgs hvl ((hh g (by omega)).symm.trans hvn) hvn c10) (by omega)
              · rw [if_neg c10] at h9
                subst h9
                show Go E Q 4 0 0 48 [(0, .ref (a 0)), (1, .int z), (2, .int y), (3, .int (nI g))] [.int 0] (modelW cI a q)
                refine g_if_ne hE 55 dX5_areParted_48 (by decide) (fun c12 => absurd (by decide) c12) (fun c12 => ?_)
                refine g_iconst hE dX5_areParted_51 1 (by decide) ?_
                refine g_goto hE 56 dX5_areParted_52 (by decide) ?_
                refine g_istore_n hE dX5_areParted_56 [(2, .int 1), (0, .ref (a 0)), (1, .int z), (3, .int (nI g))] rfl (by decide) rfl ?_
                refine g_iload_n hE dX5_areParted_57 2 rfl ?_
                refine g_iconst hE dX5_areParted_58 1 (by decide) ?_
                refine g_aload_n hE dX5_areParted_59 1 rfl ?_
                refine g_get hE fl_X5_40 dX5_areParted_60 0 rfl rfl ?_
                refine g_iload_n hE dX5_areParted_63 3 rfl ?_
                refine g_iald_n hE dX5_areParted_64 11 rfl (show (nI g) = nI g from rfl) (by omega) ?_
                refine g_ishl hE dX5_areParted_65 ?_
                refine g_ior hE dX5_areParted_66 ?_
                refine g_istore_n hE dX5_areParted_67 [(1, .int (z ||| (1 <<< (((q 10) g) &&& 31)))), (2, .int 1), (0, .ref (a 0)), (3, .int (nI g))] rfl (by decide) rfl ?_
                refine g_iinc hE dX5_areParted_68 3 (nI (g + 1)) [(3, .int (nI (g + 1))), (1, .int (z ||| (1 <<< (((q 10) g) &&& 31)))), (2, .int 1), (0, .ref (a 0))] rfl (nI_1 _) (by decide) rfl ?_
                refine g_goto hE 6 dX5_areParted_71 (by decide) ?_
                refine g_locals [3, 1, 2, 0] [(0, .ref (a 0)), (1, .int (z ||| (1 <<< (((q 10) g) &&& 31)))), (2, .int 1), (3, .int (nI (g + 1)))] rfl ?_
                exact ih_6 (g + 1) 1 (S ||| 2 ^ hv) (z ||| (1 <<< (((q 10) g) &&& 31))) (by first | assumption | omega) (AP_n hAP hl6 hgs hvl ((hh g (by omega)).symm.trans hvn) hvn (show ¬ y = 0 from c7) c10) (by omega)
        · rw [if_neg c4] at h3
          subst h3
          show Go E Q 4 0 0 22 [(0, .ref (a 0)), (1, .int z), (2, .int y), (3, .int (nI g))] [.int 0] (modelW cI a q)
          refine g_if_eq hE 68 dX5_areParted_22 (by decide) (fun c13 => ?_) (fun c13 => absurd (by decide) c13)
          refine g_iinc hE dX5_areParted_68 3 (nI (g + 1)) [(3, .int (nI (g + 1))), (0, .ref (a 0)), (1, .int z), (2, .int y)] rfl (nI_1 _) (by decide) rfl ?_
          refine g_goto hE 6 dX5_areParted_71 (by decide) ?_
          refine g_locals [1, 2, 3, 0] [(0, .ref (a 0)), (1, .int z), (2, .int y), (3, .int (nI (g + 1)))] rfl ?_
          exact ih_6 (g + 1) y _ z (by first | assumption | omega) (AP_s hAP (Or.inl (fun z => c4 ((ap_set hap haps (show g < 8 by omega)).mpr z))) hl6) (by omega)
  refine g_locals [3, 2, 1, 0] [(0, .ref (a 0)), (1, .int 0), (2, .int 1), (3, .int 0)] rfl ?_
  exact L6 _ 0 1 0 0 (Nat.zero_le _) AP_z (Nat.lt_succ_self _)
set_option maxHeartbeats 4000000 in
set_option maxRecDepth 100000 in
theorem c_X5_takeBest (cI cS : ClassId) (a : Nat → Nat) (q : Nat → Nat → Int32) {l : Nat} (htm : q 18 7 = nI l) (hl4 : l ≤ 4) (x : Int32) : CT cI cS yX5_takeBest cX5_takeBest 3 none 0 [.ref (a 0), .int x] (modelW cI a q) 0 0 (fun u : (Nat → Int32) => ∀ j, j < l → u j = q 7 j) (fun u => none) (fun u => (modelW cI a (pA (pA q 12 u) 18 (upd (upd (q 18) 11 x) 12 (q 18 7))))) := by
  refine ct_intro (by decide) (Nat.le_of_ble_eq_true rfl) (fun E Q hE hQ hI => ?_)
  have hE : CxOk E cI cS RX5 cX5_takeBest 3 none 0 0 0 := hE
  show Go E Q 3 0 0 0 [(0, .ref (a 0)), (1, .int x)] [] (modelW cI a q)
  refine g_aload_n hE dX5_takeBest_0 0 rfl ?_
  refine g_iload_n hE dX5_takeBest_1 1 rfl ?_
  refine g_put hE fl_X5_211 fp_5_23 dX5_takeBest_2 0 rfl rfl rfl (Nat.le_of_ble_eq_true rfl) (modelW cI a (pA q 18 (upd (q 18) 11 x))) (by rfl) ?_
  refine g_aload_n hE dX5_takeBest_5 0 rfl ?_
  refine g_aload_n hE dX5_takeBest_6 0 rfl ?_
  refine g_get hE fl_X5_164 dX5_takeBest_7 0 rfl rfl ?_
  refine g_put hE fl_X5_214 fp_5_24 dX5_takeBest_10 0 rfl rfl rfl (Nat.le_of_ble_eq_true rfl) (modelW cI a (pA q 18 (upd (upd (q 18) 11 x) 12 (q 18 7)))) (by rfl) ?_
  refine g_iconst hE dX5_takeBest_13 0 (by decide) ?_
  refine g_istore_n hE dX5_takeBest_14 [(2, .int 0), (0, .ref (a 0)), (1, .int x)] rfl (by decide) rfl ?_
  have L15 : ∀ (n_15 : Nat) (k : Nat) (C : Nat → Int32), (k ≤ l) → (∀ j, j < k → C j = q 7 j) → (l - k < n_15) → Go E Q 3 0 0 15 [(0, .ref (a 0)), (2, .int (nI k))] [] (modelW cI a (pA (pA q 12 C) 18 (upd (upd (q 18) 11 x) 12 (q 18 7)))) := by
    intro n_15
    induction n_15 with
    | zero => intro k C hk hC hm_15; exact absurd hm_15 (Nat.not_lt_zero _)
    | succ n_15 ih_15 =>
      intro k C hk hC hm_15
      refine g_iload_n hE dX5_takeBest_15 1 rfl ?_
      refine g_aload_n hE dX5_takeBest_16 0 rfl ?_
      refine g_get hE fl_X5_164 dX5_takeBest_17 0 rfl rfl ?_
      refine g_icmp_ge hE 41 dX5_takeBest_20 (by decide) (fun c1 => ?_) (fun c1 => ?_)
      · have kc1 := nat_le_t (show (q 18 7) = nI l from htm) (show (nI k) = nI k from rfl) (by omega) (by omega) c1
        exact g_vret hE hQ dX5_takeBest_41 C rfl rfl (fun j hj => hC j (by omega))
      · have kc1 := nat_le_f (show (q 18 7) = nI l from htm) (show (nI k) = nI k from rfl) (by omega) (by omega) c1
        refine g_aload_n hE dX5_takeBest_23 0 rfl ?_
        refine g_get hE fl_X5_46 dX5_takeBest_24 0 rfl rfl ?_
        refine g_iload_n hE dX5_takeBest_27 1 rfl ?_
        refine g_aload_n hE dX5_takeBest_28 0 rfl ?_
        refine g_get hE fl_X5_31 dX5_takeBest_29 0 rfl rfl ?_
        refine g_iload_n hE dX5_takeBest_32 1 rfl ?_
        refine g_iald_n hE dX5_takeBest_33 8 rfl (show (nI k) = nI k from rfl) (by omega) ?_
        refine g_iast_n hE dX5_takeBest_34 13 rfl (show (nI k) = nI k from rfl) (by omega) (modelW cI a (pA (pA q 12 (upd C k ((q 7) k))) 18 (upd (upd (q 18) 11 x) 12 (q 18 7)))) rfl ?_
        refine g_iinc hE dX5_takeBest_35 1 (nI (k + 1)) [(2, .int (nI (k + 1))), (0, .ref (a 0))] rfl (nI_1 _) (by decide) rfl ?_
        refine g_goto hE 15 dX5_takeBest_38 (by decide) ?_
        refine g_locals [1, 0] [(0, .ref (a 0)), (2, .int (nI (k + 1)))] rfl ?_
        exact ih_15 (k + 1) (upd C k ((q 7) k)) (by first | assumption | omega) (upd_pre hC rfl) (by omega)
  refine g_locals [1, 0] [(0, .ref (a 0)), (2, .int 0)] rfl ?_
  exact L15 _ 0 (q 12) (Nat.zero_le _) (fun j hj => absurd hj (Nat.not_lt_zero _)) (Nat.lt_succ_self _)
set_option maxHeartbeats 4000000 in
set_option maxRecDepth 100000 in
theorem c_X5_findBest0 (cI cS : ClassId) (a : Nat → Nat) (q : Nat → Nat → Int32) {n sv pl : Nat} (m : MS) (hRQ : RQ q m n sv pl) (x : Int32) (L : Nat) (hx : x = nI L) (hL : L ≤ 4) : CT cI cS yX5_findBest cX5_findBest 6 none 3 [.ref (a 0), .int x, .int 0] (modelW cI a q) 0 0 (fun u : (Nat → Nat → Int32) => (∃ b, BestOf m n sv L b ∧ u 18 11 = VR m n b ∧ u 18 12 = nI b.length ∧ ∀ j, j < b.length → u 12 j = nI (b.getD j 0)) ∧ (∀ s, s < sv → u 8 s = m 3 s ∧ u 9 s = m 4 s) ∧ TF u q ∧ OF u q) (fun u => none) (fun u => (modelW cI a u)) := by
  refine ct_intro (by decide) (Nat.le_of_ble_eq_true rfl) (fun E Q hE hQ hI => ?_)
  have hE : CxOk E cI cS RX5 cX5_findBest 6 none 3 0 0 := hE
  show Go E Q 6 0 0 0 [(0, .ref (a 0)), (1, .int x), (2, .int 0)] [] (modelW cI a q)
  have hM := hRQ.1
  have hTQ := hRQ.2.1
  have hRG := hRQ.2.2
  have hgr := hTQ.2.2.2.1
  have hsv := hTQ.2.2.2.2.1
  have hpl := hTQ.2.2.2.2.2.1
  have hn6 := hM.2.1
  have hsv8 := hM.2.2.2.1
  have hpl6 := hM.2.2.2.2.2
  have hc0 : m 9 0 = q 18 0 := hM.1.trans hgr.symm
  have hc1 : m 9 1 = q 18 1 := hM.2.2.1.trans hsv.symm
  have hc2 : m 9 2 = q 18 2 := hM.2.2.2.2.1.trans hpl.symm
  refine g_aload_n hE dX5_findBest_0 0 rfl ?_
  refine g_callV hE (c_X5_begin cI cS a q hsv hsv8) mk_X5_begin mv_X5_begin ml_X5_183 dX5_findBest_1 (As := []) (rest := []) rfl rfl 0 rfl (show vwCl[5]? = some (RX5, TX5, 32) from rfl) (by decide) (by decide) (Nat.le_of_ble_eq_true rfl) (by decide) (by decide) [0, 1, 2, 3, 4, 5, 6, 7, 8, 9, 10, 11, 12, 13, 14, 15, 16, 17, 18] rfl (by decide) (fun u => Nat.le_of_ble_eq_true rfl) (ws' := fun u => modelW cI a (pA (pA q 8 u.1) 9 u.2)) (fun u => rfl) (fun u hu => ?_)
  obtain ⟨tk_1, ms_2⟩ := u
  have h3 : ∀ s, s < sv → tk_1 s = (q 3) (4 * s) ∧ ms_2 s = (q 3) (4 * s + 1) := hu
  show Go E Q 6 0 0 4 [(0, .ref (a 0)), (1, .int x), (2, .int 0)] [] (modelW cI a (pA (pA q 8 tk_1) 9 ms_2))
  refine g_aload_n hE dX5_findBest_4 0 rfl ?_
  refine g_bipush hE dX5_findBest_5 (-4) (by decide) ?_
  refine g_put hE fl_X5_214 fp_5_24 dX5_findBest_7 0 rfl rfl rfl (Nat.le_of_ble_eq_true rfl) (modelW cI a (pA (pA (pA q 8 tk_1) 9 ms_2) 18 (upd (q 18) 12 (-4)))) (by rfl) ?_
  refine g_aload_n hE dX5_findBest_10 0 rfl ?_
  refine g_iconst hE dX5_findBest_11 (-1) (by decide) ?_
  refine g_put hE fl_X5_211 fp_5_23 dX5_findBest_12 0 rfl rfl rfl (Nat.le_of_ble_eq_true rfl) (modelW cI a (pA (pA (pA q 8 tk_1) 9 ms_2) 18 (upd (upd (q 18) 11 (-1)) 12 (-4)))) (by rfl) ?_
  refine g_world (modelW cI a (pA (pA (pA (pA (pA (pA q 7 (q 7)) 8 tk_1) 9 ms_2) 10 (q 10)) 12 (q 12)) 18 (upd (upd (upd (upd (upd (q 18) 7 (q 18 7)) 8 (q 18 8)) 9 (q 18 9)) 11 (-1)) 12 (-4)))) (by rfl) ?_
  refine g_iconst hE dX5_findBest_15 0 (by decide) ?_
  refine g_istore_n hE dX5_findBest_16 [(3, .int 0), (0, .ref (a 0)), (1, .int x), (2, .int 0)] rfl (by decide) rfl ?_
  have L17 : ∀ (n_17 : Nat) (w : Nat) (tr : Nat → Int32) (h : Nat → Int32) (C : Nat → Int32) (cho : Int32) (fal : Int32) (va : Int32) (le : Int32) (tm : Int32), (w ≤ L + 1) → (w ≤ sv + 1) → (GI (VR m n) (Dn sv w 0) va le C) → (L + 1 - w < n_17) → Go E Q 6 0 0 17 [(0, .ref (a 0)), (1, .int x), (2, .int 0), (3, .int (nI w))] [] (modelW cI a (pA (pA (pA (pA (pA (pA q 7 tr) 8 tk_1) 9 ms_2) 10 h) 12 C) 18 (upd (upd (upd (upd (upd (q 18) 7 tm) 8 cho) 9 fal) 11 va) 12 le))) := by
    intro n_17
    induction n_17 with
    | zero => intro w tr h C cho fal va le tm hw hws hGI hm_17; exact absurd hm_17 (Nat.not_lt_zero _)
    | succ n_17 ih_17 =>
      intro w tr h C cho fal va le tm hw hws hGI hm_17
      refine g_iload_n hE dX5_findBest_17 3 rfl ?_
      refine g_iload_n hE dX5_findBest_18 1 rfl ?_
      refine g_icmp_gt hE 132 dX5_findBest_19 (by decide) (fun c4 => ?_) (fun c4 => ?_)
      · have kc4 := nat_lt_t (show x = nI L from hx) (show (nI w) = nI w from rfl) (by omega) (by omega) c4
        exact g_vret hE hQ dX5_findBest_132 (pA (pA (pA (pA (pA (pA q 7 tr) 8 tk_1) 9 ms_2) 10 h) 12 C) 18 (upd (upd (upd (upd (upd (q 18) 7 tm) 8 cho) 9 fal) 11 va) 12 le)) rfl rfl ⟨fb_best hRG hn6 hsv8 hL hw (by omega) hGI, (fun s hs => ⟨(h3 s hs).1.trans (hTQ.2.1 s hs).1, (h3 s hs).2.trans (hTQ.2.1 s hs).2.1⟩), ⟨⟨rfl, rfl, rfl, rfl, rfl, rfl, rfl, rfl, rfl⟩, ⟨rfl, rfl, rfl, rfl, rfl, rfl, rfl⟩⟩⟩
      · have kc4 := nat_lt_f (show x = nI L from hx) (show (nI w) = nI w from rfl) (by omega) (by omega) c4
        refine g_iload_n hE dX5_findBest_22 3 rfl ?_
        refine g_aload_n hE dX5_findBest_23 0 rfl ?_
        refine g_get hE fl_X5_72 dX5_findBest_24 0 rfl rfl ?_
        refine g_icmp_gt hE 132 dX5_findBest_27 (by decide) (fun c5 => ?_) (fun c5 => ?_)
        · have kc5 := nat_lt_t (show (q 18 1) = nI sv from hsv) (show (nI w) = nI w from rfl) (by omega) (by omega) c5
          exact g_vret hE hQ dX5_findBest_132 (pA (pA (pA (pA (pA (pA q 7 tr) 8 tk_1) 9 ms_2) 10 h) 12 C) 18 (upd (upd (upd (upd (upd (q 18) 7 tm) 8 cho) 9 fal) 11 va) 12 le)) rfl rfl ⟨fb_best hRG hn6 hsv8 hL hw (by omega) hGI, (fun s hs => ⟨(h3 s hs).1.trans (hTQ.2.1 s hs).1, (h3 s hs).2.trans (hTQ.2.1 s hs).2.1⟩), ⟨⟨rfl, rfl, rfl, rfl, rfl, rfl, rfl, rfl, rfl⟩, ⟨rfl, rfl, rfl, rfl, rfl, rfl, rfl⟩⟩⟩
        · have kc5 := nat_lt_f (show (q 18 1) = nI sv from hsv) (show (nI w) = nI w from rfl) (by omega) (by omega) c5
          refine g_aload_n hE dX5_findBest_30 0 rfl ?_
          refine g_iload_n hE dX5_findBest_31 3 rfl ?_
          refine g_put hE fl_X5_164 fp_5_15 dX5_findBest_32 0 rfl rfl rfl (Nat.le_of_ble_eq_true rfl) (modelW cI a (pA (pA (pA (pA (pA (pA q 7 tr) 8 tk_1) 9 ms_2) 10 h) 12 C) 18 (upd (upd (upd (upd (upd (q 18) 7 (nI w)) 8 cho) 9 fal) 11 va) 12 le))) (by rfl) ?_
          refine g_iconst hE dX5_findBest_35 0 (by decide) ?_
          refine g_istore hE dX5_findBest_36 [(4, .int 0), (0, .ref (a 0)), (1, .int x), (2, .int 0), (3, .int (nI w))] (by decide) rfl ?_
          have L38 : ∀ (n_38 : Nat) (i : Nat) (tr2 : Nat → Int32), (i ≤ w) → (∀ j, j < i → tr2 j = 0) → (w - i < n_38) → Go E Q 6 0 0 38 [(0, .ref (a 0)), (1, .int x), (2, .int 0), (3, .int (nI w)), (4, .int (nI i))] [] (modelW cI a (pA (pA (pA (pA (pA (pA q 7 tr2) 8 tk_1) 9 ms_2) 10 h) 12 C) 18 (upd (upd (upd (upd (upd (q 18) 7 (nI w)) 8 cho) 9 fal) 11 va) 12 le))) := by
            intro n_38
            induction n_38 with
            | zero => intro i tr2 hi htr2 hm_38; exact absurd hm_38 (Nat.not_lt_zero _)
            | succ n_38 ih_38 =>
              intro i tr2 hi htr2 hm_38
              refine g_iload hE dX5_findBest_38 4 rfl ?_
              refine g_iload_n hE dX5_findBest_40 3 rfl ?_
              refine g_icmp_ge hE 58 dX5_findBest_41 (by decide) (fun c6 => ?_) (fun c6 => ?_)
              · have kc6 := nat_le_t (show (nI w) = nI w from rfl) (show (nI i) = nI i from rfl) (by omega) (by omega) c6
                refine g_iconst hE dX5_findBest_58 1 (by decide) ?_
                refine g_istore hE dX5_findBest_59 [(4, .int 1), (0, .ref (a 0)), (1, .int x), (2, .int 0), (3, .int (nI w))] (by decide) rfl ?_
                have L61 : ∀ (n_61 : Nat) (tr : Nat → Int32) (h : Nat → Int32) (C : Nat → Int32) (cho : Int32) (fal : Int32) (va : Int32) (le : Int32) (mo : Int32) (t : Nat → Nat) (R : Nat), (IN sv w R t tr mo) → (GI (VR m n) (Dn sv w R) va le C) → (sv ^ w + 1 - R < n_61) → Go E Q 6 0 0 61 [(0, .ref (a 0)), (1, .int x), (2, .int 0), (3, .int (nI w)), (4, .int mo)] [] (modelW cI a (pA (pA (pA (pA (pA (pA q 7 tr) 8 tk_1) 9 ms_2) 10 h) 12 C) 18 (upd (upd (upd (upd (upd (q 18) 7 (nI w)) 8 cho) 9 fal) 11 va) 12 le))) := by
                  intro n_61
                  induction n_61 with
                  | zero => intro tr h C cho fal va le mo t R hmo hGI hm_61; exact absurd hm_61 (Nat.not_lt_zero _)
                  | succ n_61 ih_61 =>
                    intro tr h C cho fal va le mo t R hmo hGI hm_61
                    refine g_iload hE dX5_findBest_61 4 rfl ?_
                    refine g_if_eq hE 126 dX5_findBest_63 (by decide) (fun c7 => ?_) (fun c7 => ?_)
                    · refine g_iinc hE dX5_findBest_126 3 (nI (w + 1)) [(3, .int (nI (w + 1))), (0, .ref (a 0)), (1, .int x), (2, .int 0), (4, .int mo)] rfl (nI_1 _) (by decide) rfl ?_
                      refine g_goto hE 17 dX5_findBest_129 (by decide) ?_
                      refine g_locals [1, 2, 3, 0] [(0, .ref (a 0)), (1, .int x), (2, .int 0), (3, .int (nI (w + 1)))] rfl ?_
                      exact ih_17 (w + 1) tr h C cho fal va le (nI w) (by omega) (by omega) (GI_same (IN_e hmo (show mo = 0 from c7) ▸ hGI) (fun r => (Dn_w r).symm)) (by omega)
                    · obtain ⟨hmR, hR, htd⟩ := IN_1 hmo (show ¬ mo = 0 from c7)
                      refine g_aload_n hE dX5_findBest_66 0 rfl ?_
                      refine g_callV hE (c_X5_isRow cI cS a (pA (pA (pA (pA (pA (pA q 7 tr) 8 tk_1) 9 ms_2) 10 h) 12 C) 18 (upd (upd (upd (upd (upd (q 18) 7 (nI w)) 8 cho) 9 fal) 11 va) 12 le)) rfl (by omega) t hsv8 htd) mk_X5_isRow mv_X5_isRow ml_X5_217 dX5_findBest_67 (As := []) (rest := []) rfl rfl 0 rfl (show vwCl[5]? = some (RX5, TX5, 32) from rfl) (by decide) (by decide) (Nat.le_of_ble_eq_true rfl) (by decide) (by decide) [0, 1, 2, 3, 4, 5, 6, 7, 8, 9, 10, 11, 12, 13, 14, 15, 16, 17, 18] rfl (by decide) (fun u => Nat.le_of_ble_eq_true rfl) (ws' := fun u => modelW cI a (pA (pA (pA (pA (pA (pA q 7 tr) 8 tk_1) 9 ms_2) 10 h) 12 C) 18 (upd (upd (upd (upd (upd (q 18) 7 (nI w)) 8 cho) 9 fal) 11 va) 12 le))) (fun u => rfl) (fun u hu => ?_)
                      obtain ⟨r_8, rfl⟩ : ∃ z, z = u := ⟨_, rfl⟩
                      have h9 : (r_8 = 1 ∧ NdF t w) ∨ (r_8 = 0 ∧ ¬ NdF t w) := hu
                      rcases h9 with ⟨hq1, hNd⟩ | ⟨hq0, hNd⟩
                      · subst hq1
                        show Go E Q 6 0 0 70 [(0, .ref (a 0)), (1, .int x), (2, .int 0), (3, .int (nI w)), (4, .int mo)] [.int 1] (modelW cI a (pA (pA (pA (pA (pA (pA q 7 tr) 8 tk_1) 9 ms_2) 10 h) 12 C) 18 (upd (upd (upd (upd (upd (q 18) 7 (nI w)) 8 cho) 9 fal) 11 va) 12 le)))
                        refine g_if_eq hE 117 dX5_findBest_70 (by decide) (fun c10 => absurd c10 (by decide)) (fun c10 => ?_)
                        refine g_aload_n hE dX5_findBest_73 0 rfl ?_
                        refine g_callV hE (c_X5_shakeOnce cI cS a (pA (pA (pA (pA (pA (pA q 7 tr) 8 tk_1) 9 ms_2) 10 h) 12 C) 18 (upd (upd (upd (upd (upd (q 18) 7 (nI w)) 8 cho) 9 fal) 11 va) 12 le)) hgr hn6 rfl (by omega) hsv8 m (rowF (tup t 0 w)) (sa_mk hTQ rfl rfl rfl h3) (ra_tup htd)) mk_X5_shakeOnce mv_X5_shakeOnce ml_X5_189 dX5_findBest_74 (As := []) (rest := []) rfl rfl 0 rfl (show vwCl[5]? = some (RX5, TX5, 32) from rfl) (by decide) (by decide) (Nat.le_of_ble_eq_true rfl) (by decide) (by decide) [0, 1, 2, 3, 4, 5, 6, 7, 8, 9, 10, 11, 12, 13, 14, 15, 16, 17, 18] rfl (by decide) (fun u => Nat.le_of_ble_eq_true rfl) (ws' := fun u => modelW cI a (pA (pA (pA (pA (pA (pA q 7 tr) 8 tk_1) 9 ms_2) 10 u) 12 C) 18 (upd (upd (upd (upd (upd (q 18) 7 (nI w)) 8 (chR m n (rowF (tup t 0 w)) w)) 9 (nI (flN m n (rowF (tup t 0 w)) w))) 11 va) 12 le))) (fun u => rfl) (fun u hu => ?_)
                        obtain ⟨h_11, rfl⟩ : ∃ z, z = u := ⟨_, rfl⟩
                        have h12 : ∀ g, g < n → h_11 g = hA m n (rowF (tup t 0 w)) w w g := hu
                        show Go E Q 6 0 0 77 [(0, .ref (a 0)), (1, .int x), (2, .int 0), (3, .int (nI w)), (4, .int mo)] [] (modelW cI a (pA (pA (pA (pA (pA (pA q 7 tr) 8 tk_1) 9 ms_2) 10 h_11) 12 C) 18 (upd (upd (upd (upd (upd (q 18) 7 (nI w)) 8 (chR m n (rowF (tup t 0 w)) w)) 9 (nI (flN m n (rowF (tup t 0 w)) w))) 11 va) 12 le)))
                        refine g_iload_n hE dX5_findBest_77 2 rfl ?_
                        refine g_if_eq hE 96 dX5_findBest_78 (by decide) (fun c13 => ?_) (fun c13 => absurd (by decide) c13)
                        refine g_aload_n hE dX5_findBest_96 0 rfl ?_
                        refine g_callV hE (c_X5_valueOf cI cS a (pA (pA (pA (pA (pA (pA q 7 tr) 8 tk_1) 9 ms_2) 10 h_11) 12 C) 18 (upd (upd (upd (upd (upd (q 18) 7 (nI w)) 8 (chR m n (rowF (tup t 0 w)) w)) 9 (nI (flN m n (rowF (tup t 0 w)) w))) 11 va) 12 le)) hgr hn6 rfl (by omega) m (rowF (tup t 0 w)) h12 (fun g hg => ⟨(hTQ.1 g hg).2.1, (hTQ.1 g hg).2.2, (hRG.1 g hg).2.2.2.2.2⟩)) mk_X5_valueOf mv_X5_valueOf ml_X5_202 dX5_findBest_97 (As := []) (rest := []) rfl rfl 0 rfl (show vwCl[5]? = some (RX5, TX5, 32) from rfl) (by decide) (by decide) (Nat.le_of_ble_eq_true rfl) (by decide) (by decide) [0, 1, 2, 3, 4, 5, 6, 7, 8, 9, 10, 11, 12, 13, 14, 15, 16, 17, 18] rfl (by decide) (fun u => Nat.le_of_ble_eq_true rfl) (ws' := fun u => modelW cI a (pA (pA (pA (pA (pA (pA q 7 tr) 8 tk_1) 9 ms_2) 10 h_11) 12 C) 18 (upd (upd (upd (upd (upd (q 18) 7 (nI w)) 8 (chR m n (rowF (tup t 0 w)) w)) 9 (nI (flN m n (rowF (tup t 0 w)) w))) 11 va) 12 le))) (fun u => rfl) (fun u hu => ?_)
                        obtain ⟨r_14, rfl⟩ : ∃ z, z = u := ⟨_, rfl⟩
                        have h15 : r_14 = (vS m n (rowF (tup t 0 w)) w (w + 1)) := hu
                        subst h15
                        show Go E Q 6 0 0 100 [(0, .ref (a 0)), (1, .int x), (2, .int 0), (3, .int (nI w)), (4, .int mo)] [.int (vS m n (rowF (tup t 0 w)) w (w + 1))] (modelW cI a (pA (pA (pA (pA (pA (pA q 7 tr) 8 tk_1) 9 ms_2) 10 h_11) 12 C) 18 (upd (upd (upd (upd (upd (q 18) 7 (nI w)) 8 (chR m n (rowF (tup t 0 w)) w)) 9 (nI (flN m n (rowF (tup t 0 w)) w))) 11 va) 12 le)))
                        refine g_istore hE dX5_findBest_100 [(5, .int (vS m n (rowF (tup t 0 w)) w (w + 1))), (0, .ref (a 0)), (1, .int x), (2, .int 0), (3, .int (nI w)), (4, .int mo)] (by decide) rfl ?_
                        refine g_iload hE dX5_findBest_102 0 rfl ?_
                        refine g_aload_n hE dX5_findBest_104 1 rfl ?_
                        refine g_get hE fl_X5_211 dX5_findBest_105 0 rfl rfl ?_
                        refine g_icmp_le hE 117 dX5_findBest_108 (by decide) (fun c16 => ?_) (fun c16 => ?_)
                        · refine g_aload_n hE dX5_findBest_117 1 rfl ?_
                          refine g_callV hE (c_X5_nextRow cI cS a (pA (pA (pA (pA (pA (pA q 7 tr) 8 tk_1) 9 ms_2) 10 h_11) 12 C) 18 (upd (upd (upd (upd (upd (q 18) 7 (nI w)) 8 (chR m n (rowF (tup t 0 w)) w)) 9 (nI (flN m n (rowF (tup t 0 w)) w))) 11 va) 12 le)) hsv hsv8 rfl (by omega) t htd) mk_X5_nextRow mv_X5_nextRow ml_X5_227 dX5_findBest_118 (As := []) (rest := []) rfl rfl 0 rfl (show vwCl[5]? = some (RX5, TX5, 32) from rfl) (by decide) (by decide) (Nat.le_of_ble_eq_true rfl) (by decide) (by decide) [0, 1, 2, 3, 4, 5, 6, 7, 8, 9, 10, 11, 12, 13, 14, 15, 16, 17, 18] rfl (by decide) (fun u => Nat.le_of_ble_eq_true rfl) (ws' := fun u => modelW cI a (pA (pA (pA (pA (pA (pA q 7 u.2.1) 8 tk_1) 9 ms_2) 10 h_11) 12 C) 18 (upd (upd (upd (upd (upd (q 18) 7 (nI w)) 8 (chR m n (rowF (tup t 0 w)) w)) 9 (nI (flN m n (rowF (tup t 0 w)) w))) 11 va) 12 le))) (fun u => rfl) (fun u hu => ?_)
                          obtain ⟨r_17, tr_18, t2_19⟩ := u
                          have h20 : (r_17 = 1 ∧ rkL sv (tup t2_19 0 w) = rkL sv (tup t 0 w) + 1 ∧ ∀ j, j < w → tr_18 j = nI (t2_19 j) ∧ t2_19 j < sv) ∨ (r_17 = 0 ∧ rkL sv (tup t 0 w) + 1 = sv ^ w) := hu
                          rcases h20 with ⟨hq1, hnr, hnd⟩ | ⟨hq0, hnr⟩
                          · subst hq1
                            show Go E Q 6 0 0 121 [(5, .int (vS m n (rowF (tup t 0 w)) w (w + 1))), (0, .ref (a 0)), (1, .int x), (2, .int 0), (3, .int (nI w)), (4, .int mo)] [.int 1] (modelW cI a (pA (pA (pA (pA (pA (pA q 7 tr_18) 8 tk_1) 9 ms_2) 10 h_11) 12 C) 18 (upd (upd (upd (upd (upd (q 18) 7 (nI w)) 8 (chR m n (rowF (tup t 0 w)) w)) 9 (nI (flN m n (rowF (tup t 0 w)) w))) 11 va) 12 le)))
                            refine g_istore hE dX5_findBest_121 [(4, .int 1), (5, .int (vS m n (rowF (tup t 0 w)) w (w + 1))), (0, .ref (a 0)), (1, .int x), (2, .int 0), (3, .int (nI w))] (by decide) rfl ?_
                            refine g_goto hE 61 dX5_findBest_123 (by decide) ?_
                            refine g_locals [2, 3, 4, 5, 0] [(0, .ref (a 0)), (1, .int x), (2, .int 0), (3, .int (nI w)), (4, .int 1)] rfl ?_
                            exact ih_61 tr_18 h_11 C (chR m n (rowF (tup t 0 w)) w) (nI (flN m n (rowF (tup t 0 w)) w)) va le 1 t2_19 (R + 1) (IN_y hR hnr hnd) (GI_skip2 hGI (vS_V t w) (show ¬ va < (vS m n (rowF (tup t 0 w)) w (w + 1)) from (Int32.not_lt.mpr c16)) (fun d hd => Dn_bef hR (fun j hj => (htd j hj).2) hd) (Dn_y hR (fun j hj => (htd j hj).2) hNd)) (by have := IN_le hmo; omega)
                          · subst hq0
                            show Go E Q 6 0 0 121 [(5, .int (vS m n (rowF (tup t 0 w)) w (w + 1))), (0, .ref (a 0)), (1, .int x), (2, .int 0), (3, .int (nI w)), (4, .int mo)] [.int 0] (modelW cI a (pA (pA (pA (pA (pA (pA q 7 tr_18) 8 tk_1) 9 ms_2) 10 h_11) 12 C) 18 (upd (upd (upd (upd (upd (q 18) 7 (nI w)) 8 (chR m n (rowF (tup t 0 w)) w)) 9 (nI (flN m n (rowF (tup t 0 w)) w))) 11 va) 12 le)))
                            refine g_istore hE dX5_findBest_121 [(4, .int 0), (5, .int (vS m n (rowF (tup t 0 w)) w (w + 1))), (0, .ref (a 0)), (1, .int x), (2, .int 0), (3, .int (nI w))] (by decide) rfl ?_
                            refine g_goto hE 61 dX5_findBest_123 (by decide) ?_
                            refine g_locals [2, 3, 4, 5, 0] [(0, .ref (a 0)), (1, .int x), (2, .int 0), (3, .int (nI w)), (4, .int 0)] rfl ?_
                            exact ih_61 tr_18 h_11 C (chR m n (rowF (tup t 0 w)) w) (nI (flN m n (rowF (tup t 0 w)) w)) va le 0 t (R + 1) (Or.inr ⟨rfl, by rw [hR]; exact hnr⟩) (GI_skip2 hGI (vS_V t w) (show ¬ va < (vS m n (rowF (tup t 0 w)) w (w + 1)) from (Int32.not_lt.mpr c16)) (fun d hd => Dn_bef hR (fun j hj => (htd j hj).2) hd) (Dn_y hR (fun j hj => (htd j hj).2) hNd)) (by have := IN_le hmo; omega)
                        · refine g_aload_n hE dX5_findBest_111 1 rfl ?_
                          refine g_iload hE dX5_findBest_112 0 rfl ?_
                          refine g_callV hE (c_X5_takeBest cI cS a (pA (pA (pA (pA (pA (pA q 7 tr) 8 tk_1) 9 ms_2) 10 h_11) 12 C) 18 (upd (upd (upd (upd (upd (q 18) 7 (nI w)) 8 (chR m n (rowF (tup t 0 w)) w)) 9 (nI (flN m n (rowF (tup t 0 w)) w))) 11 va) 12 le)) rfl (by omega) (vS m n (rowF (tup t 0 w)) w (w + 1))) mk_X5_takeBest mv_X5_takeBest ml_X5_223 dX5_findBest_114 (As := [.int (vS m n (rowF (tup t 0 w)) w (w + 1))]) (rest := []) rfl rfl 0 rfl (show vwCl[5]? = some (RX5, TX5, 32) from rfl) (by decide) (by decide) (Nat.le_of_ble_eq_true rfl) (by decide) (by decide) [0, 1, 2, 3, 4, 5, 6, 7, 8, 9, 10, 11, 12, 13, 14, 15, 16, 17, 18] rfl (by decide) (fun u => Nat.le_of_ble_eq_true rfl) (ws' := fun u => modelW cI a (pA (pA (pA (pA (pA (pA q 7 tr) 8 tk_1) 9 ms_2) 10 h_11) 12 u) 18 (upd (upd (upd (upd (upd (q 18) 7 (nI w)) 8 (chR m n (rowF (tup t 0 w)) w)) 9 (nI (flN m n (rowF (tup t 0 w)) w))) 11 (vS m n (rowF (tup t 0 w)) w (w + 1))) 12 (nI w)))) (fun u => rfl) (fun u hu => ?_)
                          obtain ⟨C_21, rfl⟩ : ∃ z, z = u := ⟨_, rfl⟩
                          have h22 : ∀ j, j < w → C_21 j = tr j := hu
                          show Go E Q 6 0 0 117 [(5, .int (vS m n (rowF (tup t 0 w)) w (w + 1))), (0, .ref (a 0)), (1, .int x), (2, .int 0), (3, .int (nI w)), (4, .int mo)] [] (modelW cI a (pA (pA (pA (pA (pA (pA q 7 tr) 8 tk_1) 9 ms_2) 10 h_11) 12 C_21) 18 (upd (upd (upd (upd (upd (q 18) 7 (nI w)) 8 (chR m n (rowF (tup t 0 w)) w)) 9 (nI (flN m n (rowF (tup t 0 w)) w))) 11 (vS m n (rowF (tup t 0 w)) w (w + 1))) 12 (nI w))))
                          refine g_aload_n hE dX5_findBest_117 1 rfl ?_
                          refine g_callV hE (c_X5_nextRow cI cS a (pA (pA (pA (pA (pA (pA q 7 tr) 8 tk_1) 9 ms_2) 10 h_11) 12 C_21) 18 (upd (upd (upd (upd (upd (q 18) 7 (nI w)) 8 (chR m n (rowF (tup t 0 w)) w)) 9 (nI (flN m n (rowF (tup t 0 w)) w))) 11 (vS m n (rowF (tup t 0 w)) w (w + 1))) 12 (nI w))) hsv hsv8 rfl (by omega) t htd) mk_X5_nextRow mv_X5_nextRow ml_X5_227 dX5_findBest_118 (As := []) (rest := []) rfl rfl 0 rfl (show vwCl[5]? = some (RX5, TX5, 32) from rfl) (by decide) (by decide) (Nat.le_of_ble_eq_true rfl) (by decide) (by decide) [0, 1, 2, 3, 4, 5, 6, 7, 8, 9, 10, 11, 12, 13, 14, 15, 16, 17, 18] rfl (by decide) (fun u => Nat.le_of_ble_eq_true rfl) (ws' := fun u => modelW cI a (pA (pA (pA (pA (pA (pA q 7 u.2.1) 8 tk_1) 9 ms_2) 10 h_11) 12 C_21) 18 (upd (upd (upd (upd (upd (q 18) 7 (nI w)) 8 (chR m n (rowF (tup t 0 w)) w)) 9 (nI (flN m n (rowF (tup t 0 w)) w))) 11 (vS m n (rowF (tup t 0 w)) w (w + 1))) 12 (nI w)))) (fun u => rfl) (fun u hu => ?_)
                          obtain ⟨r_23, tr_24, t2_25⟩ := u
                          have h26 : (r_23 = 1 ∧ rkL sv (tup t2_25 0 w) = rkL sv (tup t 0 w) + 1 ∧ ∀ j, j < w → tr_24 j = nI (t2_25 j) ∧ t2_25 j < sv) ∨ (r_23 = 0 ∧ rkL sv (tup t 0 w) + 1 = sv ^ w) := hu
                          rcases h26 with ⟨hq1, hnr, hnd⟩ | ⟨hq0, hnr⟩
                          · subst hq1
                            show Go E Q 6 0 0 121 [(5, .int (vS m n (rowF (tup t 0 w)) w (w + 1))), (0, .ref (a 0)), (1, .int x), (2, .int 0), (3, .int (nI w)), (4, .int mo)] [.int 1] (modelW cI a (pA (pA (pA (pA (pA (pA q 7 tr_24) 8 tk_1) 9 ms_2) 10 h_11) 12 C_21) 18 (upd (upd (upd (upd (upd (q 18) 7 (nI w)) 8 (chR m n (rowF (tup t 0 w)) w)) 9 (nI (flN m n (rowF (tup t 0 w)) w))) 11 (vS m n (rowF (tup t 0 w)) w (w + 1))) 12 (nI w))))
                            refine g_istore hE dX5_findBest_121 [(4, .int 1), (5, .int (vS m n (rowF (tup t 0 w)) w (w + 1))), (0, .ref (a 0)), (1, .int x), (2, .int 0), (3, .int (nI w))] (by decide) rfl ?_
                            refine g_goto hE 61 dX5_findBest_123 (by decide) ?_
                            refine g_locals [2, 3, 4, 5, 0] [(0, .ref (a 0)), (1, .int x), (2, .int 0), (3, .int (nI w)), (4, .int 1)] rfl ?_
                            exact ih_61 tr_24 h_11 C_21 (chR m n (rowF (tup t 0 w)) w) (nI (flN m n (rowF (tup t 0 w)) w)) (vS m n (rowF (tup t 0 w)) w (w + 1)) (nI w) 1 t2_25 (R + 1) (IN_y hR hnr hnd) (GI_take2 hGI (by rw [tup_len]; omega) (vS_V t w) (show va < (vS m n (rowF (tup t 0 w)) w (w + 1)) from (Int32.not_le.mp c16)) (by rw [tup_len]) (tC h22 htd) (Dn_y hR (fun j hj => (htd j hj).2) hNd)) (by have := IN_le hmo; omega)
                          · subst hq0
                            show Go E Q 6 0 0 121 [(5, .int (vS m n (rowF (tup t 0 w)) w (w + 1))), (0, .ref (a 0)), (1, .int x), (2, .int 0), (3, .int (nI w)), (4, .int mo)] [.int 0] (modelW cI a (pA (pA (pA (pA (pA (pA q 7 tr_24) 8 tk_1) 9 ms_2) 10 h_11) 12 C_21) 18 (upd (upd (upd (upd (upd (q 18) 7 (nI w)) 8 (chR m n (rowF (tup t 0 w)) w)) 9 (nI (flN m n (rowF (tup t 0 w)) w))) 11 (vS m n (rowF (tup t 0 w)) w (w + 1))) 12 (nI w))))
                            refine g_istore hE dX5_findBest_121 [(4, .int 0), (5, .int (vS m n (rowF (tup t 0 w)) w (w + 1))), (0, .ref (a 0)), (1, .int x), (2, .int 0), (3, .int (nI w))] (by decide) rfl ?_
                            refine g_goto hE 61 dX5_findBest_123 (by decide) ?_
                            refine g_locals [2, 3, 4, 5, 0] [(0, .ref (a 0)), (1, .int x), (2, .int 0), (3, .int (nI w)), (4, .int 0)] rfl ?_
                            exact ih_61 tr_24 h_11 C_21 (chR m n (rowF (tup t 0 w)) w) (nI (flN m n (rowF (tup t 0 w)) w)) (vS m n (rowF (tup t 0 w)) w (w + 1)) (nI w) 0 t (R + 1) (Or.inr ⟨rfl, by rw [hR]; exact hnr⟩) (GI_take2 hGI (by rw [tup_len]; omega) (vS_V t w) (show va < (vS m n (rowF (tup t 0 w)) w (w + 1)) from (Int32.not_le.mp c16)) (by rw [tup_len]) (tC h22 htd) (Dn_y hR (fun j hj => (htd j hj).2) hNd)) (by have := IN_le hmo; omega)
                      · subst hq0
                        show Go E Q 6 0 0 70 [(0, .ref (a 0)), (1, .int x), (2, .int 0), (3, .int (nI w)), (4, .int mo)] [.int 0] (modelW cI a (pA (pA (pA (pA (pA (pA q 7 tr) 8 tk_1) 9 ms_2) 10 h) 12 C) 18 (upd (upd (upd (upd (upd (q 18) 7 (nI w)) 8 cho) 9 fal) 11 va) 12 le)))
                        refine g_if_eq hE 117 dX5_findBest_70 (by decide) (fun c27 => ?_) (fun c27 => absurd (by decide) c27)
                        refine g_aload_n hE dX5_findBest_117 0 rfl ?_
                        refine g_callV hE (c_X5_nextRow cI cS a (pA (pA (pA (pA (pA (pA q 7 tr) 8 tk_1) 9 ms_2) 10 h) 12 C) 18 (upd (upd (upd (upd (upd (q 18) 7 (nI w)) 8 cho) 9 fal) 11 va) 12 le)) hsv hsv8 rfl (by omega) t htd) mk_X5_nextRow mv_X5_nextRow ml_X5_227 dX5_findBest_118 (As := []) (rest := []) rfl rfl 0 rfl (show vwCl[5]? = some (RX5, TX5, 32) from rfl) (by decide) (by decide) (Nat.le_of_ble_eq_true rfl) (by decide) (by decide) [0, 1, 2, 3, 4, 5, 6, 7, 8, 9, 10, 11, 12, 13, 14, 15, 16, 17, 18] rfl (by decide) (fun u => Nat.le_of_ble_eq_true rfl) (ws' := fun u => modelW cI a (pA (pA (pA (pA (pA (pA q 7 u.2.1) 8 tk_1) 9 ms_2) 10 h) 12 C) 18 (upd (upd (upd (upd (upd (q 18) 7 (nI w)) 8 cho) 9 fal) 11 va) 12 le))) (fun u => rfl) (fun u hu => ?_)
                        obtain ⟨r_28, tr_29, t2_30⟩ := u
                        have h31 : (r_28 = 1 ∧ rkL sv (tup t2_30 0 w) = rkL sv (tup t 0 w) + 1 ∧ ∀ j, j < w → tr_29 j = nI (t2_30 j) ∧ t2_30 j < sv) ∨ (r_28 = 0 ∧ rkL sv (tup t 0 w) + 1 = sv ^ w) := hu
                        rcases h31 with ⟨hq1, hnr, hnd⟩ | ⟨hq0, hnr⟩
                        · subst hq1
                          show Go E Q 6 0 0 121 [(0, .ref (a 0)), (1, .int x), (2, .int 0), (3, .int (nI w)), (4, .int mo)] [.int 1] (modelW cI a (pA (pA (pA (pA (pA (pA q 7 tr_29) 8 tk_1) 9 ms_2) 10 h) 12 C) 18 (upd (upd (upd (upd (upd (q 18) 7 (nI w)) 8 cho) 9 fal) 11 va) 12 le)))
                          refine g_istore hE dX5_findBest_121 [(4, .int 1), (0, .ref (a 0)), (1, .int x), (2, .int 0), (3, .int (nI w))] (by decide) rfl ?_
                          refine g_goto hE 61 dX5_findBest_123 (by decide) ?_
                          refine g_locals [1, 2, 3, 4, 0] [(0, .ref (a 0)), (1, .int x), (2, .int 0), (3, .int (nI w)), (4, .int 1)] rfl ?_
                          exact ih_61 tr_29 h C cho fal va le 1 t2_30 (R + 1) (IN_y hR hnr hnd) (GI_same hGI (Dn_n hR (fun j hj => (htd j hj).2) hNd)) (by have := IN_le hmo; omega)
                        · subst hq0
                          show Go E Q 6 0 0 121 [(0, .ref (a 0)), (1, .int x), (2, .int 0), (3, .int (nI w)), (4, .int mo)] [.int 0] (modelW cI a (pA (pA (pA (pA (pA (pA q 7 tr_29) 8 tk_1) 9 ms_2) 10 h) 12 C) 18 (upd (upd (upd (upd (upd (q 18) 7 (nI w)) 8 cho) 9 fal) 11 va) 12 le)))
                          refine g_istore hE dX5_findBest_121 [(4, .int 0), (0, .ref (a 0)), (1, .int x), (2, .int 0), (3, .int (nI w))] (by decide) rfl ?_
                          refine g_goto hE 61 dX5_findBest_123 (by decide) ?_
                          refine g_locals [1, 2, 3, 4, 0] [(0, .ref (a 0)), (1, .int x), (2, .int 0), (3, .int (nI w)), (4, .int 0)] rfl ?_
                          exact ih_61 tr_29 h C cho fal va le 0 t (R + 1) (Or.inr ⟨rfl, by rw [hR]; exact hnr⟩) (GI_same hGI (Dn_n hR (fun j hj => (htd j hj).2) hNd)) (by have := IN_le hmo; omega)
                refine g_locals [1, 2, 3, 4, 0] [(0, .ref (a 0)), (1, .int x), (2, .int 0), (3, .int (nI w)), (4, .int 1)] rfl ?_
                exact L61 _ tr2 h C cho fal va le 1 (fun _ => 0) 0 (IN_0 (show w ≤ sv by omega) (fun j hj => htr2 j (by omega))) hGI (Nat.lt_succ_self _)
              · have kc6 := nat_le_f (show (nI w) = nI w from rfl) (show (nI i) = nI i from rfl) (by omega) (by omega) c6
                refine g_aload_n hE dX5_findBest_44 0 rfl ?_
                refine g_get hE fl_X5_31 dX5_findBest_45 0 rfl rfl ?_
                refine g_iload hE dX5_findBest_48 4 rfl ?_
                refine g_iconst hE dX5_findBest_50 0 (by decide) ?_
                refine g_iast_n hE dX5_findBest_51 8 rfl (show (nI i) = nI i from rfl) (by omega) (modelW cI a (pA (pA (pA (pA (pA (pA q 7 (upd tr2 i 0)) 8 tk_1) 9 ms_2) 10 h) 12 C) 18 (upd (upd (upd (upd (upd (q 18) 7 (nI w)) 8 cho) 9 fal) 11 va) 12 le))) rfl ?_
                refine g_iinc hE dX5_findBest_52 4 (nI (i + 1)) [(4, .int (nI (i + 1))), (0, .ref (a 0)), (1, .int x), (2, .int 0), (3, .int (nI w))] rfl (nI_1 _) (by decide) rfl ?_
                refine g_goto hE 38 dX5_findBest_55 (by decide) ?_
                refine g_locals [1, 2, 3, 4, 0] [(0, .ref (a 0)), (1, .int x), (2, .int 0), (3, .int (nI w)), (4, .int (nI (i + 1)))] rfl ?_
                exact ih_38 (i + 1) (upd tr2 i 0) (by first | assumption | omega) (upd_pre (f := fun _ => 0) htr2 rfl) (by omega)
          refine g_locals [1, 2, 3, 4, 0] [(0, .ref (a 0)), (1, .int x), (2, .int 0), (3, .int (nI w)), (4, .int 0)] rfl ?_
          exact L38 _ 0 tr (Nat.zero_le _) (fun j hj => absurd hj (Nat.not_lt_zero _)) (Nat.lt_succ_self _)
  refine g_locals [1, 2, 3, 0] [(0, .ref (a 0)), (1, .int x), (2, .int 0), (3, .int 0)] rfl ?_
  exact L17 _ 0 (q 7) (q 10) (q 12) (q 18 8) (q 18 9) (-1) (-4) (q 18 7) (Nat.zero_le _) (Nat.zero_le _) GI_0 (Nat.lt_succ_self _)
set_option maxHeartbeats 4000000 in
set_option maxRecDepth 100000 in
theorem c_X5_findBest1 (cI cS : ClassId) (a : Nat → Nat) (q : Nat → Nat → Int32) {n sv pl : Nat} (m : MS) (hRQ : RQ q m n sv pl) (x : Int32) (L : Nat) (hx : x = nI L) (hL : L = 4) (aps : Nat) (hap : q 18 10 = nI aps) (haps : aps < 64) : CT cI cS yX5_findBest cX5_findBest 6 none 3 [.ref (a 0), .int x, .int 1] (modelW cI a q) 0 0 (fun u : (Nat → Nat → Int32) => ((NoPart m n sv aps ∧ u 18 12 = -4) ∨ ∃ b, PartOf m n sv aps b ∧ u 18 12 = nI b.length ∧ ∀ j, j < b.length → u 12 j = nI (b.getD j 0)) ∧ TF u q ∧ OF u q) (fun u => none) (fun u => (modelW cI a u)) := by
  refine ct_intro (by decide) (Nat.le_of_ble_eq_true rfl) (fun E Q hE hQ hI => ?_)
  have hE : CxOk E cI cS RX5 cX5_findBest 6 none 3 0 0 := hE
  show Go E Q 6 0 0 0 [(0, .ref (a 0)), (1, .int x), (2, .int 1)] [] (modelW cI a q)
  have hM := hRQ.1
  have hTQ := hRQ.2.1
  have hRG := hRQ.2.2
  have hgr := hTQ.2.2.2.1
  have hsv := hTQ.2.2.2.2.1
  have hpl := hTQ.2.2.2.2.2.1
  have hn6 := hM.2.1
  have hsv8 := hM.2.2.2.1
  have hpl6 := hM.2.2.2.2.2
  have hc0 : m 9 0 = q 18 0 := hM.1.trans hgr.symm
  have hc1 : m 9 1 = q 18 1 := hM.2.2.1.trans hsv.symm
  have hc2 : m 9 2 = q 18 2 := hM.2.2.2.2.1.trans hpl.symm
  refine g_aload_n hE dX5_findBest_0 0 rfl ?_
  refine g_callV hE (c_X5_begin cI cS a q hsv hsv8) mk_X5_begin mv_X5_begin ml_X5_183 dX5_findBest_1 (As := []) (rest := []) rfl rfl 0 rfl (show vwCl[5]? = some (RX5, TX5, 32) from rfl) (by decide) (by decide) (Nat.le_of_ble_eq_true rfl) (by decide) (by decide) [0, 1, 2, 3, 4, 5, 6, 7, 8, 9, 10, 11, 12, 13, 14, 15, 16, 17, 18] rfl (by decide) (fun u => Nat.le_of_ble_eq_true rfl) (ws' := fun u => modelW cI a (pA (pA q 8 u.1) 9 u.2)) (fun u => rfl) (fun u hu => ?_)
  obtain ⟨tk_1, ms_2⟩ := u
  have h3 : ∀ s, s < sv → tk_1 s = (q 3) (4 * s) ∧ ms_2 s = (q 3) (4 * s + 1) := hu
  show Go E Q 6 0 0 4 [(0, .ref (a 0)), (1, .int x), (2, .int 1)] [] (modelW cI a (pA (pA q 8 tk_1) 9 ms_2))
  refine g_aload_n hE dX5_findBest_4 0 rfl ?_
  refine g_bipush hE dX5_findBest_5 (-4) (by decide) ?_
  refine g_put hE fl_X5_214 fp_5_24 dX5_findBest_7 0 rfl rfl rfl (Nat.le_of_ble_eq_true rfl) (modelW cI a (pA (pA (pA q 8 tk_1) 9 ms_2) 18 (upd (q 18) 12 (-4)))) (by rfl) ?_
  refine g_aload_n hE dX5_findBest_10 0 rfl ?_
  refine g_iconst hE dX5_findBest_11 (-1) (by decide) ?_
  refine g_put hE fl_X5_211 fp_5_23 dX5_findBest_12 0 rfl rfl rfl (Nat.le_of_ble_eq_true rfl) (modelW cI a (pA (pA (pA q 8 tk_1) 9 ms_2) 18 (upd (upd (q 18) 11 (-1)) 12 (-4)))) (by rfl) ?_
  refine g_world (modelW cI a (pA (pA (pA (pA (pA (pA q 7 (q 7)) 8 tk_1) 9 ms_2) 10 (q 10)) 12 (q 12)) 18 (upd (upd (upd (upd (upd (q 18) 7 (q 18 7)) 8 (q 18 8)) 9 (q 18 9)) 11 (-1)) 12 (-4)))) (by rfl) ?_
  refine g_iconst hE dX5_findBest_15 0 (by decide) ?_
  refine g_istore_n hE dX5_findBest_16 [(3, .int 0), (0, .ref (a 0)), (1, .int x), (2, .int 1)] rfl (by decide) rfl ?_
  have L17 : ∀ (n_17 : Nat) (w : Nat) (tr : Nat → Int32) (h : Nat → Int32) (C : Nat → Int32) (cho : Int32) (fal : Int32) (va : Int32) (le : Int32) (tm : Int32), (w ≤ L + 1) → (w ≤ sv + 1) → (GI (V1 m n aps) (Dn sv w 0) va le C) → (L + 1 - w < n_17) → Go E Q 6 0 0 17 [(0, .ref (a 0)), (1, .int x), (2, .int 1), (3, .int (nI w))] [] (modelW cI a (pA (pA (pA (pA (pA (pA q 7 tr) 8 tk_1) 9 ms_2) 10 h) 12 C) 18 (upd (upd (upd (upd (upd (q 18) 7 tm) 8 cho) 9 fal) 11 va) 12 le))) := by
    intro n_17
    induction n_17 with
    | zero => intro w tr h C cho fal va le tm hw hws hGI hm_17; exact absurd hm_17 (Nat.not_lt_zero _)
    | succ n_17 ih_17 =>
      intro w tr h C cho fal va le tm hw hws hGI hm_17
      refine g_iload_n hE dX5_findBest_17 3 rfl ?_
      refine g_iload_n hE dX5_findBest_18 1 rfl ?_
      refine g_icmp_gt hE 132 dX5_findBest_19 (by decide) (fun c4 => ?_) (fun c4 => ?_)
      · have kc4 := nat_lt_t (show x = nI L from hx) (show (nI w) = nI w from rfl) (by omega) (by omega) c4
        exact g_vret hE hQ dX5_findBest_132 (pA (pA (pA (pA (pA (pA q 7 tr) 8 tk_1) 9 ms_2) 10 h) 12 C) 18 (upd (upd (upd (upd (upd (q 18) 7 tm) 8 cho) 9 fal) 11 va) 12 le)) rfl rfl ⟨fb_part hRG hn6 hsv8 (by omega) (by omega) hGI, ⟨⟨rfl, rfl, rfl, rfl, rfl, rfl, rfl, rfl, rfl⟩, ⟨rfl, rfl, rfl, rfl, rfl, rfl, rfl⟩⟩⟩
      · have kc4 := nat_lt_f (show x = nI L from hx) (show (nI w) = nI w from rfl) (by omega) (by omega) c4
        refine g_iload_n hE dX5_findBest_22 3 rfl ?_
        refine g_aload_n hE dX5_findBest_23 0 rfl ?_
        refine g_get hE fl_X5_72 dX5_findBest_24 0 rfl rfl ?_
        refine g_icmp_gt hE 132 dX5_findBest_27 (by decide) (fun c5 => ?_) (fun c5 => ?_)
        · have kc5 := nat_lt_t (show (q 18 1) = nI sv from hsv) (show (nI w) = nI w from rfl) (by omega) (by omega) c5
          exact g_vret hE hQ dX5_findBest_132 (pA (pA (pA (pA (pA (pA q 7 tr) 8 tk_1) 9 ms_2) 10 h) 12 C) 18 (upd (upd (upd (upd (upd (q 18) 7 tm) 8 cho) 9 fal) 11 va) 12 le)) rfl rfl ⟨fb_part hRG hn6 hsv8 (by omega) (by omega) hGI, ⟨⟨rfl, rfl, rfl, rfl, rfl, rfl, rfl, rfl, rfl⟩, ⟨rfl, rfl, rfl, rfl, rfl, rfl, rfl⟩⟩⟩
        · have kc5 := nat_lt_f (show (q 18 1) = nI sv from hsv) (show (nI w) = nI w from rfl) (by omega) (by omega) c5
          refine g_aload_n hE dX5_findBest_30 0 rfl ?_
          refine g_iload_n hE dX5_findBest_31 3 rfl ?_
          refine g_put hE fl_X5_164 fp_5_15 dX5_findBest_32 0 rfl rfl rfl (Nat.le_of_ble_eq_true rfl) (modelW cI a (pA (pA (pA (pA (pA (pA q 7 tr) 8 tk_1) 9 ms_2) 10 h) 12 C) 18 (upd (upd (upd (upd (upd (q 18) 7 (nI w)) 8 cho) 9 fal) 11 va) 12 le))) (by rfl) ?_
          refine g_iconst hE dX5_findBest_35 0 (by decide) ?_
          refine g_istore hE dX5_findBest_36 [(4, .int 0), (0, .ref (a 0)), (1, .int x), (2, .int 1), (3, .int (nI w))] (by decide) rfl ?_
          have L38 : ∀ (n_38 : Nat) (i : Nat) (tr2 : Nat → Int32), (i ≤ w) → (∀ j, j < i → tr2 j = 0) → (w - i < n_38) → Go E Q 6 0 0 38 [(0, .ref (a 0)), (1, .int x), (2, .int 1), (3, .int (nI w)), (4, .int (nI i))] [] (modelW cI a (pA (pA (pA (pA (pA (pA q 7 tr2) 8 tk_1) 9 ms_2) 10 h) 12 C) 18 (upd (upd (upd (upd (upd (q 18) 7 (nI w)) 8 cho) 9 fal) 11 va) 12 le))) := by
            intro n_38
            induction n_38 with
            | zero => intro i tr2 hi htr2 hm_38; exact absurd hm_38 (Nat.not_lt_zero _)
            | succ n_38 ih_38 =>
              intro i tr2 hi htr2 hm_38
              refine g_iload hE dX5_findBest_38 4 rfl ?_
              refine g_iload_n hE dX5_findBest_40 3 rfl ?_
              refine g_icmp_ge hE 58 dX5_findBest_41 (by decide) (fun c6 => ?_) (fun c6 => ?_)
              · have kc6 := nat_le_t (show (nI w) = nI w from rfl) (show (nI i) = nI i from rfl) (by omega) (by omega) c6
                refine g_iconst hE dX5_findBest_58 1 (by decide) ?_
                refine g_istore hE dX5_findBest_59 [(4, .int 1), (0, .ref (a 0)), (1, .int x), (2, .int 1), (3, .int (nI w))] (by decide) rfl ?_
                have L61 : ∀ (n_61 : Nat) (tr : Nat → Int32) (h : Nat → Int32) (C : Nat → Int32) (cho : Int32) (fal : Int32) (va : Int32) (le : Int32) (mo : Int32) (t : Nat → Nat) (R : Nat), (IN sv w R t tr mo) → (GI (V1 m n aps) (Dn sv w R) va le C) → (sv ^ w + 1 - R < n_61) → Go E Q 6 0 0 61 [(0, .ref (a 0)), (1, .int x), (2, .int 1), (3, .int (nI w)), (4, .int mo)] [] (modelW cI a (pA (pA (pA (pA (pA (pA q 7 tr) 8 tk_1) 9 ms_2) 10 h) 12 C) 18 (upd (upd (upd (upd (upd (q 18) 7 (nI w)) 8 cho) 9 fal) 11 va) 12 le))) := by
                  intro n_61
                  induction n_61 with
                  | zero => intro tr h C cho fal va le mo t R hmo hGI hm_61; exact absurd hm_61 (Nat.not_lt_zero _)
                  | succ n_61 ih_61 =>
                    intro tr h C cho fal va le mo t R hmo hGI hm_61
                    refine g_iload hE dX5_findBest_61 4 rfl ?_
                    refine g_if_eq hE 126 dX5_findBest_63 (by decide) (fun c7 => ?_) (fun c7 => ?_)
                    · refine g_iinc hE dX5_findBest_126 3 (nI (w + 1)) [(3, .int (nI (w + 1))), (0, .ref (a 0)), (1, .int x), (2, .int 1), (4, .int mo)] rfl (nI_1 _) (by decide) rfl ?_
                      refine g_goto hE 17 dX5_findBest_129 (by decide) ?_
                      refine g_locals [1, 2, 3, 0] [(0, .ref (a 0)), (1, .int x), (2, .int 1), (3, .int (nI (w + 1)))] rfl ?_
                      exact ih_17 (w + 1) tr h C cho fal va le (nI w) (by omega) (by omega) (GI_same (IN_e hmo (show mo = 0 from c7) ▸ hGI) (fun r => (Dn_w r).symm)) (by omega)
                    · obtain ⟨hmR, hR, htd⟩ := IN_1 hmo (show ¬ mo = 0 from c7)
                      refine g_aload_n hE dX5_findBest_66 0 rfl ?_
                      refine g_callV hE (c_X5_isRow cI cS a (pA (pA (pA (pA (pA (pA q 7 tr) 8 tk_1) 9 ms_2) 10 h) 12 C) 18 (upd (upd (upd (upd (upd (q 18) 7 (nI w)) 8 cho) 9 fal) 11 va) 12 le)) rfl (by omega) t hsv8 htd) mk_X5_isRow mv_X5_isRow ml_X5_217 dX5_findBest_67 (As := []) (rest := []) rfl rfl 0 rfl (show vwCl[5]? = some (RX5, TX5, 32) from rfl) (by decide) (by decide) (Nat.le_of_ble_eq_true rfl) (by decide) (by decide) [0, 1, 2, 3, 4, 5, 6, 7, 8, 9, 10, 11, 12, 13, 14, 15, 16, 17, 18] rfl (by decide) (fun u => Nat.le_of_ble_eq_true rfl) (ws' := fun u => modelW cI a (pA (pA (pA (pA (pA (pA q 7 tr) 8 tk_1) 9 ms_2) 10 h) 12 C) 18 (upd (upd (upd (upd (upd (q 18) 7 (nI w)) 8 cho) 9 fal) 11 va) 12 le))) (fun u => rfl) (fun u hu => ?_)
                      obtain ⟨r_8, rfl⟩ : ∃ z, z = u := ⟨_, rfl⟩
                      have h9 : (r_8 = 1 ∧ NdF t w) ∨ (r_8 = 0 ∧ ¬ NdF t w) := hu
                      rcases h9 with ⟨hq1, hNd⟩ | ⟨hq0, hNd⟩
                      · subst hq1
                        show Go E Q 6 0 0 70 [(0, .ref (a 0)), (1, .int x), (2, .int 1), (3, .int (nI w)), (4, .int mo)] [.int 1] (modelW cI a (pA (pA (pA (pA (pA (pA q 7 tr) 8 tk_1) 9 ms_2) 10 h) 12 C) 18 (upd (upd (upd (upd (upd (q 18) 7 (nI w)) 8 cho) 9 fal) 11 va) 12 le)))
                        refine g_if_eq hE 117 dX5_findBest_70 (by decide) (fun c10 => absurd c10 (by decide)) (fun c10 => ?_)
                        refine g_aload_n hE dX5_findBest_73 0 rfl ?_
                        refine g_callV hE (c_X5_shakeOnce cI cS a (pA (pA (pA (pA (pA (pA q 7 tr) 8 tk_1) 9 ms_2) 10 h) 12 C) 18 (upd (upd (upd (upd (upd (q 18) 7 (nI w)) 8 cho) 9 fal) 11 va) 12 le)) hgr hn6 rfl (by omega) hsv8 m (rowF (tup t 0 w)) (sa_mk hTQ rfl rfl rfl h3) (ra_tup htd)) mk_X5_shakeOnce mv_X5_shakeOnce ml_X5_189 dX5_findBest_74 (As := []) (rest := []) rfl rfl 0 rfl (show vwCl[5]? = some (RX5, TX5, 32) from rfl) (by decide) (by decide) (Nat.le_of_ble_eq_true rfl) (by decide) (by decide) [0, 1, 2, 3, 4, 5, 6, 7, 8, 9, 10, 11, 12, 13, 14, 15, 16, 17, 18] rfl (by decide) (fun u => Nat.le_of_ble_eq_true rfl) (ws' := fun u => modelW cI a (pA (pA (pA (pA (pA (pA q 7 tr) 8 tk_1) 9 ms_2) 10 u) 12 C) 18 (upd (upd (upd (upd (upd (q 18) 7 (nI w)) 8 (chR m n (rowF (tup t 0 w)) w)) 9 (nI (flN m n (rowF (tup t 0 w)) w))) 11 va) 12 le))) (fun u => rfl) (fun u hu => ?_)
                        obtain ⟨h_11, rfl⟩ : ∃ z, z = u := ⟨_, rfl⟩
                        have h12 : ∀ g, g < n → h_11 g = hA m n (rowF (tup t 0 w)) w w g := hu
                        show Go E Q 6 0 0 77 [(0, .ref (a 0)), (1, .int x), (2, .int 1), (3, .int (nI w)), (4, .int mo)] [] (modelW cI a (pA (pA (pA (pA (pA (pA q 7 tr) 8 tk_1) 9 ms_2) 10 h_11) 12 C) 18 (upd (upd (upd (upd (upd (q 18) 7 (nI w)) 8 (chR m n (rowF (tup t 0 w)) w)) 9 (nI (flN m n (rowF (tup t 0 w)) w))) 11 va) 12 le)))
                        refine g_iload_n hE dX5_findBest_77 2 rfl ?_
                        refine g_if_eq hE 96 dX5_findBest_78 (by decide) (fun c13 => absurd c13 (by decide)) (fun c13 => ?_)
                        refine g_aload_n hE dX5_findBest_81 0 rfl ?_
                        refine g_callV hE (c_X5_areParted cI cS a (pA (pA (pA (pA (pA (pA q 7 tr) 8 tk_1) 9 ms_2) 10 h_11) 12 C) 18 (upd (upd (upd (upd (upd (q 18) 7 (nI w)) 8 (chR m n (rowF (tup t 0 w)) w)) 9 (nI (flN m n (rowF (tup t 0 w)) w))) 11 va) 12 le)) hgr hn6 (by omega) m (rowF (tup t 0 w)) h12 aps hap haps) mk_X5_areParted mv_X5_areParted ml_X5_220 dX5_findBest_82 (As := []) (rest := []) rfl rfl 0 rfl (show vwCl[5]? = some (RX5, TX5, 32) from rfl) (by decide) (by decide) (Nat.le_of_ble_eq_true rfl) (by decide) (by decide) [0, 1, 2, 3, 4, 5, 6, 7, 8, 9, 10, 11, 12, 13, 14, 15, 16, 17, 18] rfl (by decide) (fun u => Nat.le_of_ble_eq_true rfl) (ws' := fun u => modelW cI a (pA (pA (pA (pA (pA (pA q 7 tr) 8 tk_1) 9 ms_2) 10 h_11) 12 C) 18 (upd (upd (upd (upd (upd (q 18) 7 (nI w)) 8 (chR m n (rowF (tup t 0 w)) w)) 9 (nI (flN m n (rowF (tup t 0 w)) w))) 11 va) 12 le))) (fun u => rfl) (fun u hu => ?_)
                        obtain ⟨r_14, rfl⟩ : ∃ z, z = u := ⟨_, rfl⟩
                        have h15 : (r_14 = 1 ∧ PD m n (rowF (tup t 0 w)) w aps n) ∨ (r_14 = 0 ∧ ¬ PD m n (rowF (tup t 0 w)) w aps n) := hu
                        rcases h15 with ⟨hq1, hPD⟩ | ⟨hq0, hPD⟩
                        · subst hq1
                          show Go E Q 6 0 0 85 [(0, .ref (a 0)), (1, .int x), (2, .int 1), (3, .int (nI w)), (4, .int mo)] [.int 1] (modelW cI a (pA (pA (pA (pA (pA (pA q 7 tr) 8 tk_1) 9 ms_2) 10 h_11) 12 C) 18 (upd (upd (upd (upd (upd (q 18) 7 (nI w)) 8 (chR m n (rowF (tup t 0 w)) w)) 9 (nI (flN m n (rowF (tup t 0 w)) w))) 11 va) 12 le)))
                          refine g_if_eq hE 92 dX5_findBest_85 (by decide) (fun c16 => absurd c16 (by decide)) (fun c16 => ?_)
                          refine g_iconst hE dX5_findBest_88 1 (by decide) ?_
                          refine g_goto hE 100 dX5_findBest_89 (by decide) ?_
                          refine g_istore hE dX5_findBest_100 [(5, .int 1), (0, .ref (a 0)), (1, .int x), (2, .int 1), (3, .int (nI w)), (4, .int mo)] (by decide) rfl ?_
                          refine g_iload hE dX5_findBest_102 0 rfl ?_
                          refine g_aload_n hE dX5_findBest_104 1 rfl ?_
                          refine g_get hE fl_X5_211 dX5_findBest_105 0 rfl rfl ?_
                          refine g_icmp_le hE 117 dX5_findBest_108 (by decide) (fun c17 => ?_) (fun c17 => ?_)
                          · refine g_aload_n hE dX5_findBest_117 1 rfl ?_
                            refine g_callV hE (c_X5_nextRow cI cS a (pA (pA (pA (pA (pA (pA q 7 tr) 8 tk_1) 9 ms_2) 10 h_11) 12 C) 18 (upd (upd (upd (upd (upd (q 18) 7 (nI w)) 8 (chR m n (rowF (tup t 0 w)) w)) 9 (nI (flN m n (rowF (tup t 0 w)) w))) 11 va) 12 le)) hsv hsv8 rfl (by omega) t htd) mk_X5_nextRow mv_X5_nextRow ml_X5_227 dX5_findBest_118 (As := []) (rest := []) rfl rfl 0 rfl (show vwCl[5]? = some (RX5, TX5, 32) from rfl) (by decide) (by decide) (Nat.le_of_ble_eq_true rfl) (by decide) (by decide) [0, 1, 2, 3, 4, 5, 6, 7, 8, 9, 10, 11, 12, 13, 14, 15, 16, 17, 18] rfl (by decide) (fun u => Nat.le_of_ble_eq_true rfl) (ws' := fun u => modelW cI a (pA (pA (pA (pA (pA (pA q 7 u.2.1) 8 tk_1) 9 ms_2) 10 h_11) 12 C) 18 (upd (upd (upd (upd (upd (q 18) 7 (nI w)) 8 (chR m n (rowF (tup t 0 w)) w)) 9 (nI (flN m n (rowF (tup t 0 w)) w))) 11 va) 12 le))) (fun u => rfl) (fun u hu => ?_)
                            obtain ⟨r_18, tr_19, t2_20⟩ := u
                            have h21 : (r_18 = 1 ∧ rkL sv (tup t2_20 0 w) = rkL sv (tup t 0 w) + 1 ∧ ∀ j, j < w → tr_19 j = nI (t2_20 j) ∧ t2_20 j < sv) ∨ (r_18 = 0 ∧ rkL sv (tup t 0 w) + 1 = sv ^ w) := hu
                            rcases h21 with ⟨hq1, hnr, hnd⟩ | ⟨hq0, hnr⟩
                            · subst hq1
                              show Go E Q 6 0 0 121 [(5, .int 1), (0, .ref (a 0)), (1, .int x), (2, .int 1), (3, .int (nI w)), (4, .int mo)] [.int 1] (modelW cI a (pA (pA (pA (pA (pA (pA q 7 tr_19) 8 tk_1) 9 ms_2) 10 h_11) 12 C) 18 (upd (upd (upd (upd (upd (q 18) 7 (nI w)) 8 (chR m n (rowF (tup t 0 w)) w)) 9 (nI (flN m n (rowF (tup t 0 w)) w))) 11 va) 12 le)))
                              refine g_istore hE dX5_findBest_121 [(4, .int 1), (5, .int 1), (0, .ref (a 0)), (1, .int x), (2, .int 1), (3, .int (nI w))] (by decide) rfl ?_
                              refine g_goto hE 61 dX5_findBest_123 (by decide) ?_
                              refine g_locals [2, 3, 4, 5, 0] [(0, .ref (a 0)), (1, .int x), (2, .int 1), (3, .int (nI w)), (4, .int 1)] rfl ?_
                              exact ih_61 tr_19 h_11 C (chR m n (rowF (tup t 0 w)) w) (nI (flN m n (rowF (tup t 0 w)) w)) va le 1 t2_20 (R + 1) (IN_y hR hnr hnd) (GI_skip2 hGI (V1_y ((PD_tup hn6 (by omega) haps).mp hPD)).symm (show ¬ va < 1 from (Int32.not_lt.mpr c17)) (fun d hd => Dn_bef hR (fun j hj => (htd j hj).2) hd) (Dn_y hR (fun j hj => (htd j hj).2) hNd)) (by have := IN_le hmo; omega)
                            · subst hq0
                              show Go E Q 6 0 0 121 [(5, .int 1), (0, .ref (a 0)), (1, .int x), (2, .int 1), (3, .int (nI w)), (4, .int mo)] [.int 0] (modelW cI a (pA (pA (pA (pA (pA (pA q 7 tr_19) 8 tk_1) 9 ms_2) 10 h_11) 12 C) 18 (upd (upd (upd (upd (upd (q 18) 7 (nI w)) 8 (chR m n (rowF (tup t 0 w)) w)) 9 (nI (flN m n (rowF (tup t 0 w)) w))) 11 va) 12 le)))
                              refine g_istore hE dX5_findBest_121 [(4, .int 0), (5, .int 1), (0, .ref (a 0)), (1, .int x), (2, .int 1), (3, .int (nI w))] (by decide) rfl ?_
                              refine g_goto hE 61 dX5_findBest_123 (by decide) ?_
                              refine g_locals [2, 3, 4, 5, 0] [(0, .ref (a 0)), (1, .int x), (2, .int 1), (3, .int (nI w)), (4, .int 0)] rfl ?_
                              exact ih_61 tr_19 h_11 C (chR m n (rowF (tup t 0 w)) w) (nI (flN m n (rowF (tup t 0 w)) w)) va le 0 t (R + 1) (Or.inr ⟨rfl, by rw [hR]; exact hnr⟩) (GI_skip2 hGI (V1_y ((PD_tup hn6 (by omega) haps).mp hPD)).symm (show ¬ va < 1 from (Int32.not_lt.mpr c17)) (fun d hd => Dn_bef hR (fun j hj => (htd j hj).2) hd) (Dn_y hR (fun j hj => (htd j hj).2) hNd)) (by have := IN_le hmo; omega)
                          · refine g_aload_n hE dX5_findBest_111 1 rfl ?_
                            refine g_iload hE dX5_findBest_112 0 rfl ?_
                            refine g_callV hE (c_X5_takeBest cI cS a (pA (pA (pA (pA (pA (pA q 7 tr) 8 tk_1) 9 ms_2) 10 h_11) 12 C) 18 (upd (upd (upd (upd (upd (q 18) 7 (nI w)) 8 (chR m n (rowF (tup t 0 w)) w)) 9 (nI (flN m n (rowF (tup t 0 w)) w))) 11 va) 12 le)) rfl (by omega) 1) mk_X5_takeBest mv_X5_takeBest ml_X5_223 dX5_findBest_114 (As := [.int 1]) (rest := []) rfl rfl 0 rfl (show vwCl[5]? = some (RX5, TX5, 32) from rfl) (by decide) (by decide) (Nat.le_of_ble_eq_true rfl) (by decide) (by decide) [0, 1, 2, 3, 4, 5, 6, 7, 8, 9, 10, 11, 12, 13, 14, 15, 16, 17, 18] rfl (by decide) (fun u => Nat.le_of_ble_eq_true rfl) (ws' := fun u => modelW cI a (pA (pA (pA (pA (pA (pA q 7 tr) 8 tk_1) 9 ms_2) 10 h_11) 12 u) 18 (upd (upd (upd (upd (upd (q 18) 7 (nI w)) 8 (chR m n (rowF (tup t 0 w)) w)) 9 (nI (flN m n (rowF (tup t 0 w)) w))) 11 1) 12 (nI w)))) (fun u => rfl) (fun u hu => ?_)
                            obtain ⟨C_22, rfl⟩ : ∃ z, z = u := ⟨_, rfl⟩
                            have h23 : ∀ j, j < w → C_22 j = tr j := hu
                            show Go E Q 6 0 0 117 [(5, .int 1), (0, .ref (a 0)), (1, .int x), (2, .int 1), (3, .int (nI w)), (4, .int mo)] [] (modelW cI a (pA (pA (pA (pA (pA (pA q 7 tr) 8 tk_1) 9 ms_2) 10 h_11) 12 C_22) 18 (upd (upd (upd (upd (upd (q 18) 7 (nI w)) 8 (chR m n (rowF (tup t 0 w)) w)) 9 (nI (flN m n (rowF (tup t 0 w)) w))) 11 1) 12 (nI w))))
                            refine g_aload_n hE dX5_findBest_117 1 rfl ?_
                            refine g_callV hE (c_X5_nextRow cI cS a (pA (pA (pA (pA (pA (pA q 7 tr) 8 tk_1) 9 ms_2) 10 h_11) 12 C_22) 18 (upd (upd (upd (upd (upd (q 18) 7 (nI w)) 8 (chR m n (rowF (tup t 0 w)) w)) 9 (nI (flN m n (rowF (tup t 0 w)) w))) 11 1) 12 (nI w))) hsv hsv8 rfl (by omega) t htd) mk_X5_nextRow mv_X5_nextRow ml_X5_227 dX5_findBest_118 (As := []) (rest := []) rfl rfl 0 rfl (show vwCl[5]? = some (RX5, TX5, 32) from rfl) (by decide) (by decide) (Nat.le_of_ble_eq_true rfl) (by decide) (by decide) [0, 1, 2, 3, 4, 5, 6, 7, 8, 9, 10, 11, 12, 13, 14, 15, 16, 17, 18] rfl (by decide) (fun u => Nat.le_of_ble_eq_true rfl) (ws' := fun u => modelW cI a (pA (pA (pA (pA (pA (pA q 7 u.2.1) 8 tk_1) 9 ms_2) 10 h_11) 12 C_22) 18 (upd (upd (upd (upd (upd (q 18) 7 (nI w)) 8 (chR m n (rowF (tup t 0 w)) w)) 9 (nI (flN m n (rowF (tup t 0 w)) w))) 11 1) 12 (nI w)))) (fun u => rfl) (fun u hu => ?_)
                            obtain ⟨r_24, tr_25, t2_26⟩ := u
                            have h27 : (r_24 = 1 ∧ rkL sv (tup t2_26 0 w) = rkL sv (tup t 0 w) + 1 ∧ ∀ j, j < w → tr_25 j = nI (t2_26 j) ∧ t2_26 j < sv) ∨ (r_24 = 0 ∧ rkL sv (tup t 0 w) + 1 = sv ^ w) := hu
                            rcases h27 with ⟨hq1, hnr, hnd⟩ | ⟨hq0, hnr⟩
                            · subst hq1
                              show Go E Q 6 0 0 121 [(5, .int 1), (0, .ref (a 0)), (1, .int x), (2, .int 1), (3, .int (nI w)), (4, .int mo)] [.int 1] (modelW cI a (pA (pA (pA (pA (pA (pA q 7 tr_25) 8 tk_1) 9 ms_2) 10 h_11) 12 C_22) 18 (upd (upd (upd (upd (upd (q 18) 7 (nI w)) 8 (chR m n (rowF (tup t 0 w)) w)) 9 (nI (flN m n (rowF (tup t 0 w)) w))) 11 1) 12 (nI w))))
                              refine g_istore hE dX5_findBest_121 [(4, .int 1), (5, .int 1), (0, .ref (a 0)), (1, .int x), (2, .int 1), (3, .int (nI w))] (by decide) rfl ?_
                              refine g_goto hE 61 dX5_findBest_123 (by decide) ?_
                              refine g_locals [2, 3, 4, 5, 0] [(0, .ref (a 0)), (1, .int x), (2, .int 1), (3, .int (nI w)), (4, .int 1)] rfl ?_
                              exact ih_61 tr_25 h_11 C_22 (chR m n (rowF (tup t 0 w)) w) (nI (flN m n (rowF (tup t 0 w)) w)) 1 (nI w) 1 t2_26 (R + 1) (IN_y hR hnr hnd) (GI_take2 hGI (by rw [tup_len]; omega) (V1_y ((PD_tup hn6 (by omega) haps).mp hPD)).symm (show va < 1 from (Int32.not_le.mp c17)) (by rw [tup_len]) (tC h23 htd) (Dn_y hR (fun j hj => (htd j hj).2) hNd)) (by have := IN_le hmo; omega)
                            · subst hq0
                              show Go E Q 6 0 0 121 [(5, .int 1), (0, .ref (a 0)), (1, .int x), (2, .int 1), (3, .int (nI w)), (4, .int mo)] [.int 0] (modelW cI a (pA (pA (pA (pA (pA (pA q 7 tr_25) 8 tk_1) 9 ms_2) 10 h_11) 12 C_22) 18 (upd (upd (upd (upd (upd (q 18) 7 (nI w)) 8 (chR m n (rowF (tup t 0 w)) w)) 9 (nI (flN m n (rowF (tup t 0 w)) w))) 11 1) 12 (nI w))))
                              refine g_istore hE dX5_findBest_121 [(4, .int 0), (5, .int 1), (0, .ref (a 0)), (1, .int x), (2, .int 1), (3, .int (nI w))] (by decide) rfl ?_
                              refine g_goto hE 61 dX5_findBest_123 (by decide) ?_
                              refine g_locals [2, 3, 4, 5, 0] [(0, .ref (a 0)), (1, .int x), (2, .int 1), (3, .int (nI w)), (4, .int 0)] rfl ?_
                              exact ih_61 tr_25 h_11 C_22 (chR m n (rowF (tup t 0 w)) w) (nI (flN m n (rowF (tup t 0 w)) w)) 1 (nI w) 0 t (R + 1) (Or.inr ⟨rfl, by rw [hR]; exact hnr⟩) (GI_take2 hGI (by rw [tup_len]; omega) (V1_y ((PD_tup hn6 (by omega) haps).mp hPD)).symm (show va < 1 from (Int32.not_le.mp c17)) (by rw [tup_len]) (tC h23 htd) (Dn_y hR (fun j hj => (htd j hj).2) hNd)) (by have := IN_le hmo; omega)
                        · subst hq0
                          show Go E Q 6 0 0 85 [(0, .ref (a 0)), (1, .int x), (2, .int 1), (3, .int (nI w)), (4, .int mo)] [.int 0] (modelW cI a (pA (pA (pA (pA (pA (pA q 7 tr) 8 tk_1) 9 ms_2) 10 h_11) 12 C) 18 (upd (upd (upd (upd (upd (q 18) 7 (nI w)) 8 (chR m n (rowF (tup t 0 w)) w)) 9 (nI (flN m n (rowF (tup t 0 w)) w))) 11 va) 12 le)))
                          refine g_if_eq hE 92 dX5_findBest_85 (by decide) (fun c28 => ?_) (fun c28 => absurd (by decide) c28)
                          refine g_iconst hE dX5_findBest_92 (-1) (by decide) ?_
                          refine g_goto hE 100 dX5_findBest_93 (by decide) ?_
                          refine g_istore hE dX5_findBest_100 [(5, .int (-1)), (0, .ref (a 0)), (1, .int x), (2, .int 1), (3, .int (nI w)), (4, .int mo)] (by decide) rfl ?_
                          refine g_iload hE dX5_findBest_102 0 rfl ?_
                          refine g_aload_n hE dX5_findBest_104 1 rfl ?_
                          refine g_get hE fl_X5_211 dX5_findBest_105 0 rfl rfl ?_
                          refine g_icmp_le hE 117 dX5_findBest_108 (by decide) (fun c29 => ?_) (fun c29 => ?_)
                          · refine g_aload_n hE dX5_findBest_117 1 rfl ?_
                            refine g_callV hE (c_X5_nextRow cI cS a (pA (pA (pA (pA (pA (pA q 7 tr) 8 tk_1) 9 ms_2) 10 h_11) 12 C) 18 (upd (upd (upd (upd (upd (q 18) 7 (nI w)) 8 (chR m n (rowF (tup t 0 w)) w)) 9 (nI (flN m n (rowF (tup t 0 w)) w))) 11 va) 12 le)) hsv hsv8 rfl (by omega) t htd) mk_X5_nextRow mv_X5_nextRow ml_X5_227 dX5_findBest_118 (As := []) (rest := []) rfl rfl 0 rfl (show vwCl[5]? = some (RX5, TX5, 32) from rfl) (by decide) (by decide) (Nat.le_of_ble_eq_true rfl) (by decide) (by decide) [0, 1, 2, 3, 4, 5, 6, 7, 8, 9, 10, 11, 12, 13, 14, 15, 16, 17, 18] rfl (by decide) (fun u => Nat.le_of_ble_eq_true rfl) (ws' := fun u => modelW cI a (pA (pA (pA (pA (pA (pA q 7 u.2.1) 8 tk_1) 9 ms_2) 10 h_11) 12 C) 18 (upd (upd (upd (upd (upd (q 18) 7 (nI w)) 8 (chR m n (rowF (tup t 0 w)) w)) 9 (nI (flN m n (rowF (tup t 0 w)) w))) 11 va) 12 le))) (fun u => rfl) (fun u hu => ?_)
                            obtain ⟨r_30, tr_31, t2_32⟩ := u
                            have h33 : (r_30 = 1 ∧ rkL sv (tup t2_32 0 w) = rkL sv (tup t 0 w) + 1 ∧ ∀ j, j < w → tr_31 j = nI (t2_32 j) ∧ t2_32 j < sv) ∨ (r_30 = 0 ∧ rkL sv (tup t 0 w) + 1 = sv ^ w) := hu
                            rcases h33 with ⟨hq1, hnr, hnd⟩ | ⟨hq0, hnr⟩
                            · subst hq1
                              show Go E Q 6 0 0 121 [(5, .int (-1)), (0, .ref (a 0)), (1, .int x), (2, .int 1), (3, .int (nI w)), (4, .int mo)] [.int 1] (modelW cI a (pA (pA (pA (pA (pA (pA q 7 tr_31) 8 tk_1) 9 ms_2) 10 h_11) 12 C) 18 (upd (upd (upd (upd (upd (q 18) 7 (nI w)) 8 (chR m n (rowF (tup t 0 w)) w)) 9 (nI (flN m n (rowF (tup t 0 w)) w))) 11 va) 12 le)))
                              refine g_istore hE dX5_findBest_121 [(4, .int 1), (5, .int (-1)), (0, .ref (a 0)), (1, .int x), (2, .int 1), (3, .int (nI w))] (by decide) rfl ?_
                              refine g_goto hE 61 dX5_findBest_123 (by decide) ?_
                              refine g_locals [2, 3, 4, 5, 0] [(0, .ref (a 0)), (1, .int x), (2, .int 1), (3, .int (nI w)), (4, .int 1)] rfl ?_
                              exact ih_61 tr_31 h_11 C (chR m n (rowF (tup t 0 w)) w) (nI (flN m n (rowF (tup t 0 w)) w)) va le 1 t2_32 (R + 1) (IN_y hR hnr hnd) (GI_skip2 hGI (V1_n (fun z => hPD ((PD_tup hn6 (by omega) haps).mpr z))).symm (show ¬ va < (-1) from (Int32.not_lt.mpr c29)) (fun d hd => Dn_bef hR (fun j hj => (htd j hj).2) hd) (Dn_y hR (fun j hj => (htd j hj).2) hNd)) (by have := IN_le hmo; omega)
                            · subst hq0
                              show Go E Q 6 0 0 121 [(5, .int (-1)), (0, .ref (a 0)), (1, .int x), (2, .int 1), (3, .int (nI w)), (4, .int mo)] [.int 0] (modelW cI a (pA (pA (pA (pA (pA (pA q 7 tr_31) 8 tk_1) 9 ms_2) 10 h_11) 12 C) 18 (upd (upd (upd (upd (upd (q 18) 7 (nI w)) 8 (chR m n (rowF (tup t 0 w)) w)) 9 (nI (flN m n (rowF (tup t 0 w)) w))) 11 va) 12 le)))
                              refine g_istore hE dX5_findBest_121 [(4, .int 0), (5, .int (-1)), (0, .ref (a 0)), (1, .int x), (2, .int 1), (3, .int (nI w))] (by decide) rfl ?_
                              refine g_goto hE 61 dX5_findBest_123 (by decide) ?_
                              refine g_locals [2, 3, 4, 5, 0] [(0, .ref (a 0)), (1, .int x), (2, .int 1), (3, .int (nI w)), (4, .int 0)] rfl ?_
                              exact ih_61 tr_31 h_11 C (chR m n (rowF (tup t 0 w)) w) (nI (flN m n (rowF (tup t 0 w)) w)) va le 0 t (R + 1) (Or.inr ⟨rfl, by rw [hR]; exact hnr⟩) (GI_skip2 hGI (V1_n (fun z => hPD ((PD_tup hn6 (by omega) haps).mpr z))).symm (show ¬ va < (-1) from (Int32.not_lt.mpr c29)) (fun d hd => Dn_bef hR (fun j hj => (htd j hj).2) hd) (Dn_y hR (fun j hj => (htd j hj).2) hNd)) (by have := IN_le hmo; omega)
                          · refine g_aload_n hE dX5_findBest_111 1 rfl ?_
                            refine g_iload hE dX5_findBest_112 0 rfl ?_
                            refine g_callV hE (c_X5_takeBest cI cS a (pA (pA (pA (pA (pA (pA q 7 tr) 8 tk_1) 9 ms_2) 10 h_11) 12 C) 18 (upd (upd (upd (upd (upd (q 18) 7 (nI w)) 8 (chR m n (rowF (tup t 0 w)) w)) 9 (nI (flN m n (rowF (tup t 0 w)) w))) 11 va) 12 le)) rfl (by omega) (-1)) mk_X5_takeBest mv_X5_takeBest ml_X5_223 dX5_findBest_114 (As := [.int (-1)]) (rest := []) rfl rfl 0 rfl (show vwCl[5]? = some (RX5, TX5, 32) from rfl) (by decide) (by decide) (Nat.le_of_ble_eq_true rfl) (by decide) (by decide) [0, 1, 2, 3, 4, 5, 6, 7, 8, 9, 10, 11, 12, 13, 14, 15, 16, 17, 18] rfl (by decide) (fun u => Nat.le_of_ble_eq_true rfl) (ws' := fun u => modelW cI a (pA (pA (pA (pA (pA (pA q 7 tr) 8 tk_1) 9 ms_2) 10 h_11) 12 u) 18 (upd (upd (upd (upd (upd (q 18) 7 (nI w)) 8 (chR m n (rowF (tup t 0 w)) w)) 9 (nI (flN m n (rowF (tup t 0 w)) w))) 11 (-1)) 12 (nI w)))) (fun u => rfl) (fun u hu => ?_)
                            obtain ⟨C_34, rfl⟩ : ∃ z, z = u := ⟨_, rfl⟩
                            have h35 : ∀ j, j < w → C_34 j = tr j := hu
                            show Go E Q 6 0 0 117 [(5, .int (-1)), (0, .ref (a 0)), (1, .int x), (2, .int 1), (3, .int (nI w)), (4, .int mo)] [] (modelW cI a (pA (pA (pA (pA (pA (pA q 7 tr) 8 tk_1) 9 ms_2) 10 h_11) 12 C_34) 18 (upd (upd (upd (upd (upd (q 18) 7 (nI w)) 8 (chR m n (rowF (tup t 0 w)) w)) 9 (nI (flN m n (rowF (tup t 0 w)) w))) 11 (-1)) 12 (nI w))))
                            refine g_aload_n hE dX5_findBest_117 1 rfl ?_
                            refine g_callV hE (c_X5_nextRow cI cS a (pA (pA (pA (pA (pA (pA q 7 tr) 8 tk_1) 9 ms_2) 10 h_11) 12 C_34) 18 (upd (upd (upd (upd (upd (q 18) 7 (nI w)) 8 (chR m n (rowF (tup t 0 w)) w)) 9 (nI (flN m n (rowF (tup t 0 w)) w))) 11 (-1)) 12 (nI w))) hsv hsv8 rfl (by omega) t htd) mk_X5_nextRow mv_X5_nextRow ml_X5_227 dX5_findBest_118 (As := []) (rest := []) rfl rfl 0 rfl (show vwCl[5]? = some (RX5, TX5, 32) from rfl) (by decide) (by decide) (Nat.le_of_ble_eq_true rfl) (by decide) (by decide) [0, 1, 2, 3, 4, 5, 6, 7, 8, 9, 10, 11, 12, 13, 14, 15, 16, 17, 18] rfl (by decide) (fun u => Nat.le_of_ble_eq_true rfl) (ws' := fun u => modelW cI a (pA (pA (pA (pA (pA (pA q 7 u.2.1) 8 tk_1) 9 ms_2) 10 h_11) 12 C_34) 18 (upd (upd (upd (upd (upd (q 18) 7 (nI w)) 8 (chR m n (rowF (tup t 0 w)) w)) 9 (nI (flN m n (rowF (tup t 0 w)) w))) 11 (-1)) 12 (nI w)))) (fun u => rfl) (fun u hu => ?_)
                            obtain ⟨r_36, tr_37, t2_38⟩ := u
                            have h39 : (r_36 = 1 ∧ rkL sv (tup t2_38 0 w) = rkL sv (tup t 0 w) + 1 ∧ ∀ j, j < w → tr_37 j = nI (t2_38 j) ∧ t2_38 j < sv) ∨ (r_36 = 0 ∧ rkL sv (tup t 0 w) + 1 = sv ^ w) := hu
                            rcases h39 with ⟨hq1, hnr, hnd⟩ | ⟨hq0, hnr⟩
                            · subst hq1
                              show Go E Q 6 0 0 121 [(5, .int (-1)), (0, .ref (a 0)), (1, .int x), (2, .int 1), (3, .int (nI w)), (4, .int mo)] [.int 1] (modelW cI a (pA (pA (pA (pA (pA (pA q 7 tr_37) 8 tk_1) 9 ms_2) 10 h_11) 12 C_34) 18 (upd (upd (upd (upd (upd (q 18) 7 (nI w)) 8 (chR m n (rowF (tup t 0 w)) w)) 9 (nI (flN m n (rowF (tup t 0 w)) w))) 11 (-1)) 12 (nI w))))
                              refine g_istore hE dX5_findBest_121 [(4, .int 1), (5, .int (-1)), (0, .ref (a 0)), (1, .int x), (2, .int 1), (3, .int (nI w))] (by decide) rfl ?_
                              refine g_goto hE 61 dX5_findBest_123 (by decide) ?_
                              refine g_locals [2, 3, 4, 5, 0] [(0, .ref (a 0)), (1, .int x), (2, .int 1), (3, .int (nI w)), (4, .int 1)] rfl ?_
                              exact ih_61 tr_37 h_11 C_34 (chR m n (rowF (tup t 0 w)) w) (nI (flN m n (rowF (tup t 0 w)) w)) (-1) (nI w) 1 t2_38 (R + 1) (IN_y hR hnr hnd) (GI_take2 hGI (by rw [tup_len]; omega) (V1_n (fun z => hPD ((PD_tup hn6 (by omega) haps).mpr z))).symm (show va < (-1) from (Int32.not_le.mp c29)) (by rw [tup_len]) (tC h35 htd) (Dn_y hR (fun j hj => (htd j hj).2) hNd)) (by have := IN_le hmo; omega)
                            · subst hq0
                              show Go E Q 6 0 0 121 [(5, .int (-1)), (0, .ref (a 0)), (1, .int x), (2, .int 1), (3, .int (nI w)), (4, .int mo)] [.int 0] (modelW cI a (pA (pA (pA (pA (pA (pA q 7 tr_37) 8 tk_1) 9 ms_2) 10 h_11) 12 C_34) 18 (upd (upd (upd (upd (upd (q 18) 7 (nI w)) 8 (chR m n (rowF (tup t 0 w)) w)) 9 (nI (flN m n (rowF (tup t 0 w)) w))) 11 (-1)) 12 (nI w))))
                              refine g_istore hE dX5_findBest_121 [(4, .int 0), (5, .int (-1)), (0, .ref (a 0)), (1, .int x), (2, .int 1), (3, .int (nI w))] (by decide) rfl ?_
                              refine g_goto hE 61 dX5_findBest_123 (by decide) ?_
                              refine g_locals [2, 3, 4, 5, 0] [(0, .ref (a 0)), (1, .int x), (2, .int 1), (3, .int (nI w)), (4, .int 0)] rfl ?_
                              exact ih_61 tr_37 h_11 C_34 (chR m n (rowF (tup t 0 w)) w) (nI (flN m n (rowF (tup t 0 w)) w)) (-1) (nI w) 0 t (R + 1) (Or.inr ⟨rfl, by rw [hR]; exact hnr⟩) (GI_take2 hGI (by rw [tup_len]; omega) (V1_n (fun z => hPD ((PD_tup hn6 (by omega) haps).mpr z))).symm (show va < (-1) from (Int32.not_le.mp c29)) (by rw [tup_len]) (tC h35 htd) (Dn_y hR (fun j hj => (htd j hj).2) hNd)) (by have := IN_le hmo; omega)
                      · subst hq0
                        show Go E Q 6 0 0 70 [(0, .ref (a 0)), (1, .int x), (2, .int 1), (3, .int (nI w)), (4, .int mo)] [.int 0] (modelW cI a (pA (pA (pA (pA (pA (pA q 7 tr) 8 tk_1) 9 ms_2) 10 h) 12 C) 18 (upd (upd (upd (upd (upd (q 18) 7 (nI w)) 8 cho) 9 fal) 11 va) 12 le)))
                        refine g_if_eq hE 117 dX5_findBest_70 (by decide) (fun c40 => ?_) (fun c40 => absurd (by decide) c40)
                        refine g_aload_n hE dX5_findBest_117 0 rfl ?_
                        refine g_callV hE (c_X5_nextRow cI cS a (pA (pA (pA (pA (pA (pA q 7 tr) 8 tk_1) 9 ms_2) 10 h) 12 C) 18 (upd (upd (upd (upd (upd (q 18) 7 (nI w)) 8 cho) 9 fal) 11 va) 12 le)) hsv hsv8 rfl (by omega) t htd) mk_X5_nextRow mv_X5_nextRow ml_X5_227 dX5_findBest_118 (As := []) (rest := []) rfl rfl 0 rfl (show vwCl[5]? = some (RX5, TX5, 32) from rfl) (by decide) (by decide) (Nat.le_of_ble_eq_true rfl) (by decide) (by decide) [0, 1, 2, 3, 4, 5, 6, 7, 8, 9, 10, 11, 12, 13, 14, 15, 16, 17, 18] rfl (by decide) (fun u => Nat.le_of_ble_eq_true rfl) (ws' := fun u => modelW cI a (pA (pA (pA (pA (pA (pA q 7 u.2.1) 8 tk_1) 9 ms_2) 10 h) 12 C) 18 (upd (upd (upd (upd (upd (q 18) 7 (nI w)) 8 cho) 9 fal) 11 va) 12 le))) (fun u => rfl) (fun u hu => ?_)
                        obtain ⟨r_41, tr_42, t2_43⟩ := u
                        have h44 : (r_41 = 1 ∧ rkL sv (tup t2_43 0 w) = rkL sv (tup t 0 w) + 1 ∧ ∀ j, j < w → tr_42 j = nI (t2_43 j) ∧ t2_43 j < sv) ∨ (r_41 = 0 ∧ rkL sv (tup t 0 w) + 1 = sv ^ w) := hu
                        rcases h44 with ⟨hq1, hnr, hnd⟩ | ⟨hq0, hnr⟩
                        · subst hq1
                          show Go E Q 6 0 0 121 [(0, .ref (a 0)), (1, .int x), (2, .int 1), (3, .int (nI w)), (4, .int mo)] [.int 1] (modelW cI a (pA (pA (pA (pA (pA (pA q 7 tr_42) 8 tk_1) 9 ms_2) 10 h) 12 C) 18 (upd (upd (upd (upd (upd (q 18) 7 (nI w)) 8 cho) 9 fal) 11 va) 12 le)))
                          refine g_istore hE dX5_findBest_121 [(4, .int 1), (0, .ref (a 0)), (1, .int x), (2, .int 1), (3, .int (nI w))] (by decide) rfl ?_
                          refine g_goto hE 61 dX5_findBest_123 (by decide) ?_
                          refine g_locals [1, 2, 3, 4, 0] [(0, .ref (a 0)), (1, .int x), (2, .int 1), (3, .int (nI w)), (4, .int 1)] rfl ?_
                          exact ih_61 tr_42 h C cho fal va le 1 t2_43 (R + 1) (IN_y hR hnr hnd) (GI_same hGI (Dn_n hR (fun j hj => (htd j hj).2) hNd)) (by have := IN_le hmo; omega)
                        · subst hq0
                          show Go E Q 6 0 0 121 [(0, .ref (a 0)), (1, .int x), (2, .int 1), (3, .int (nI w)), (4, .int mo)] [.int 0] (modelW cI a (pA (pA (pA (pA (pA (pA q 7 tr_42) 8 tk_1) 9 ms_2) 10 h) 12 C) 18 (upd (upd (upd (upd (upd (q 18) 7 (nI w)) 8 cho) 9 fal) 11 va) 12 le)))
                          refine g_istore hE dX5_findBest_121 [(4, .int 0), (0, .ref (a 0)), (1, .int x), (2, .int 1), (3, .int (nI w))] (by decide) rfl ?_
                          refine g_goto hE 61 dX5_findBest_123 (by decide) ?_
                          refine g_locals [1, 2, 3, 4, 0] [(0, .ref (a 0)), (1, .int x), (2, .int 1), (3, .int (nI w)), (4, .int 0)] rfl ?_
                          exact ih_61 tr_42 h C cho fal va le 0 t (R + 1) (Or.inr ⟨rfl, by rw [hR]; exact hnr⟩) (GI_same hGI (Dn_n hR (fun j hj => (htd j hj).2) hNd)) (by have := IN_le hmo; omega)
                refine g_locals [1, 2, 3, 4, 0] [(0, .ref (a 0)), (1, .int x), (2, .int 1), (3, .int (nI w)), (4, .int 1)] rfl ?_
                exact L61 _ tr2 h C cho fal va le 1 (fun _ => 0) 0 (IN_0 (show w ≤ sv by omega) (fun j hj => htr2 j (by omega))) hGI (Nat.lt_succ_self _)
              · have kc6 := nat_le_f (show (nI w) = nI w from rfl) (show (nI i) = nI i from rfl) (by omega) (by omega) c6
                refine g_aload_n hE dX5_findBest_44 0 rfl ?_
                refine g_get hE fl_X5_31 dX5_findBest_45 0 rfl rfl ?_
                refine g_iload hE dX5_findBest_48 4 rfl ?_
                refine g_iconst hE dX5_findBest_50 0 (by decide) ?_
                refine g_iast_n hE dX5_findBest_51 8 rfl (show (nI i) = nI i from rfl) (by omega) (modelW cI a (pA (pA (pA (pA (pA (pA q 7 (upd tr2 i 0)) 8 tk_1) 9 ms_2) 10 h) 12 C) 18 (upd (upd (upd (upd (upd (q 18) 7 (nI w)) 8 cho) 9 fal) 11 va) 12 le))) rfl ?_
                refine g_iinc hE dX5_findBest_52 4 (nI (i + 1)) [(4, .int (nI (i + 1))), (0, .ref (a 0)), (1, .int x), (2, .int 1), (3, .int (nI w))] rfl (nI_1 _) (by decide) rfl ?_
                refine g_goto hE 38 dX5_findBest_55 (by decide) ?_
                refine g_locals [1, 2, 3, 4, 0] [(0, .ref (a 0)), (1, .int x), (2, .int 1), (3, .int (nI w)), (4, .int (nI (i + 1)))] rfl ?_
                exact ih_38 (i + 1) (upd tr2 i 0) (by first | assumption | omega) (upd_pre (f := fun _ => 0) htr2 rfl) (by omega)
          refine g_locals [1, 2, 3, 4, 0] [(0, .ref (a 0)), (1, .int x), (2, .int 1), (3, .int (nI w)), (4, .int 0)] rfl ?_
          exact L38 _ 0 tr (Nat.zero_le _) (fun j hj => absurd hj (Nat.not_lt_zero _)) (Nat.lt_succ_self _)
  refine g_locals [1, 2, 3, 0] [(0, .ref (a 0)), (1, .int x), (2, .int 1), (3, .int 0)] rfl ?_
  exact L17 _ 0 (q 7) (q 10) (q 12) (q 18 8) (q 18 9) (-1) (-4) (q 18 7) (Nat.zero_le _) (Nat.zero_le _) GI_0 (Nat.lt_succ_self _)
set_option maxHeartbeats 4000000 in
set_option maxRecDepth 100000 in
theorem c_X5_best (cI cS : ClassId) (a : Nat → Nat) (q : Nat → Nat → Int32) {n sv pl : Nat} (m : MS) (hRQ : RQ q m n sv pl) (k i : Int32) : CT cI cS yX5_best cX5_best 3 (some .int) 4 [.ref (a 0), .int k, .int i] (modelW cI a q) 0 0 (fun u : Int32 × (Nat → Nat → Int32) => fBest m n sv k i u.1 ∧ TF u.2 q ∧ OF u.2 q) (fun u => some (.int u.1)) (fun u => (modelW cI a u.2)) := by
  refine ct_intro (by decide) (Nat.le_of_ble_eq_true rfl) (fun E Q hE hQ hI => ?_)
  have hE : CxOk E cI cS RX5 cX5_best 3 (some .int) 4 0 0 := hE
  show Go E Q 3 0 0 0 [(0, .ref (a 0)), (1, .int k), (2, .int i)] [] (modelW cI a q)
  have hM := hRQ.1
  have hTQ := hRQ.2.1
  have hRG := hRQ.2.2
  have hgr := hTQ.2.2.2.1
  have hsv := hTQ.2.2.2.2.1
  have hpl := hTQ.2.2.2.2.2.1
  have hn6 := hM.2.1
  have hsv8 := hM.2.2.2.1
  have hpl6 := hM.2.2.2.2.2
  have hc0 : m 9 0 = q 18 0 := hM.1.trans hgr.symm
  have hc1 : m 9 1 = q 18 1 := hM.2.2.1.trans hsv.symm
  have hc2 : m 9 2 = q 18 2 := hM.2.2.2.2.1.trans hpl.symm
  refine g_iload_n hE dX5_best_0 1 rfl ?_
  refine g_i2l hE dX5_best_1 ?_
  refine g_lconst hE dX5_best_2 0 (by decide) ?_
  refine g_ldc2 hE dX5_best_3 cl_X5_230 ?_
  refine g_callS hE (c_X5_in cI cS (Int32.toInt64 k) 0 4) mk_X5_in st_X5_in ml_X5_68 dX5_best_6 (As := [.long (Int32.toInt64 k), .long 0, .long 4]) (rest := []) rfl rfl (by decide) (by decide) (Nat.le_of_ble_eq_true rfl) (by decide) (by decide) [] rfl (by decide) (fun u => Nat.le_of_ble_eq_true rfl) (ws' := fun u => modelW cI a q) (fun u => rfl) (fun u hu => ?_)
  obtain ⟨r_1, rfl⟩ : ∃ z, z = u := ⟨_, rfl⟩
  have h2 : r_1 = if 0 ≤ k ∧ k ≤ 4 then 1 else 0 := (in_i (x := k) (lo := 0) (hi := 4) rfl rfl hu)
  by_cases c3 : 0 ≤ k ∧ k ≤ 4
  · rw [if_pos c3] at h2
    subst h2
    show Go E Q 3 0 0 9 [(0, .ref (a 0)), (1, .int k), (2, .int i)] [.int 1] (modelW cI a q)
    refine g_if_eq hE 26 dX5_best_9 (by decide) (fun c4 => absurd c4 (by decide)) (fun c4 => ?_)
    refine g_iload_n hE dX5_best_12 2 rfl ?_
    refine g_i2l hE dX5_best_13 ?_
    refine g_ldc2 hE dX5_best_14 cl_X5_232 ?_
    refine g_ldc2 hE dX5_best_17 cl_X5_91 ?_
    refine g_callS hE (c_X5_in cI cS (Int32.toInt64 i) (-2) 3) mk_X5_in st_X5_in ml_X5_68 dX5_best_20 (As := [.long (Int32.toInt64 i), .long (-2), .long 3]) (rest := []) rfl rfl (by decide) (by decide) (Nat.le_of_ble_eq_true rfl) (by decide) (by decide) [] rfl (by decide) (fun u => Nat.le_of_ble_eq_true rfl) (ws' := fun u => modelW cI a q) (fun u => rfl) (fun u hu => ?_)
    obtain ⟨r_5, rfl⟩ : ∃ z, z = u := ⟨_, rfl⟩
    have h6 : r_5 = if (-2) ≤ i ∧ i ≤ 3 then 1 else 0 := (in_i (x := i) (lo := (-2)) (hi := 3) rfl rfl hu)
    by_cases c7 : (-2) ≤ i ∧ i ≤ 3
    · rw [if_pos c7] at h6
      subst h6
      show Go E Q 3 0 0 23 [(0, .ref (a 0)), (1, .int k), (2, .int i)] [.int 1] (modelW cI a q)
      refine g_if_ne hE 28 dX5_best_23 (by decide) (fun c8 => ?_) (fun c8 => absurd c8 (by decide))
      obtain ⟨kn, hkn4, hkn, hknc⟩ := nat_of_le (b := 4) c3 rfl (by decide)
      refine g_aload_n hE dX5_best_28 0 rfl ?_
      refine g_iload_n hE dX5_best_29 1 rfl ?_
      refine g_iconst hE dX5_best_30 0 (by decide) ?_
      refine g_callV hE (c_X5_findBest0 cI cS a q m hRQ k kn (show k = nI kn from hkn) hkn4) mk_X5_findBest mv_X5_findBest ml_X5_234 dX5_best_31 (As := [.int k, .int 0]) (rest := []) rfl rfl 0 rfl (show vwCl[5]? = some (RX5, TX5, 32) from rfl) (by decide) (by decide) (Nat.le_of_ble_eq_true rfl) (by decide) (by decide) [0, 1, 2, 3, 4, 5, 6, 7, 8, 9, 10, 11, 12, 13, 14, 15, 16, 17, 18] rfl (by decide) (fun u => Nat.le_of_ble_eq_true rfl) (ws' := fun u => modelW cI a u) (fun u => rfl) (fun u hu => ?_)
      obtain ⟨q2_9, rfl⟩ : ∃ z, z = u := ⟨_, rfl⟩
      have h10 : (∃ b, BestOf m n sv kn b ∧ q2_9 18 11 = VR m n b ∧ q2_9 18 12 = nI b.length ∧ ∀ j, j < b.length → q2_9 12 j = nI (b.getD j 0)) ∧ (∀ s, s < sv → q2_9 8 s = m 3 s ∧ q2_9 9 s = m 4 s) ∧ TF q2_9 q ∧ OF q2_9 q := hu
      show Go E Q 3 0 0 34 [(0, .ref (a 0)), (1, .int k), (2, .int i)] [] (modelW cI a q2_9)
      obtain ⟨⟨b, hb, hb1, hb2, hb3⟩, hSBk, hTF, hOF⟩ := h10
      have hbl := hb.1
      refine g_iload_n hE dX5_best_34 2 rfl ?_
      refine g_bipush hE dX5_best_35 (-2) (by decide) ?_
      refine g_icmp_ne hE 47 dX5_best_37 (by decide) (fun c11 => ?_) (fun c11 => ?_)
      · refine g_iload_n hE dX5_best_47 2 rfl ?_
        refine g_iconst hE dX5_best_48 (-1) (by decide) ?_
        refine g_icmp_ne hE 59 dX5_best_49 (by decide) (fun c12 => ?_) (fun c12 => ?_)
        · refine g_iload_n hE dX5_best_59 2 rfl ?_
          refine g_aload_n hE dX5_best_60 0 rfl ?_
          refine g_get hE fl_X5_214 dX5_best_61 0 rfl rfl ?_
          refine g_icmp_ge hE 76 dX5_best_64 (by decide) (fun c13 => ?_) (fun c13 => ?_)
          · refine g_bipush hE dX5_best_76 (-4) (by decide) ?_
            exact g_iret hE hQ dX5_best_78 rfl ((-4), q2_9) rfl rfl ⟨Or.inr (Or.inr ⟨c3, c7, b, by rw [← hknc]; exact hb, by rw [bestR, if_neg (show ¬ i = (-2) from c11), if_neg (show ¬ i = (-1) from c12), if_neg (fun z => (show ¬ i < (q2_9 18 12) from (Int32.not_lt.mpr c13)) (by rw [hb2]; exact z))]⟩), hTF, hOF⟩
          · obtain ⟨ij, hijl, hijn, hijc⟩ := nat_of_lt (b := b.length) ⟨i_nn c7.1 (show ¬ i = (-2) from c11) (show ¬ i = (-1) from c12), (show i < (q2_9 18 12) from (Int32.not_le.mp c13))⟩ hb2 (by omega)
            refine g_aload_n hE dX5_best_67 0 rfl ?_
            refine g_get hE fl_X5_46 dX5_best_68 0 rfl rfl ?_
            refine g_iload_n hE dX5_best_71 2 rfl ?_
            refine g_iald_n hE dX5_best_72 13 rfl (show i = nI ij from hijn) (by omega) ?_
            refine g_goto hE 78 dX5_best_73 (by decide) ?_
            exact g_iret hE hQ dX5_best_78 rfl (((q2_9 12) ij), q2_9) rfl rfl ⟨Or.inr (Or.inr ⟨c3, c7, b, by rw [← hknc]; exact hb, by rw [bestR, if_neg (show ¬ i = (-2) from c11), if_neg (show ¬ i = (-1) from c12), if_pos (by rw [← hb2]; exact (show i < (q2_9 18 12) from (Int32.not_le.mp c13)))]; show _ = nI (b.getD i.toNatClampNeg 0); rw [← hijc]; exact hb3 ij hijl⟩), hTF, hOF⟩
        · refine g_aload_n hE dX5_best_52 0 rfl ?_
          refine g_get hE fl_X5_214 dX5_best_53 0 rfl rfl ?_
          refine g_goto hE 78 dX5_best_56 (by decide) ?_
          exact g_iret hE hQ dX5_best_78 rfl ((q2_9 18 12), q2_9) rfl rfl ⟨Or.inr (Or.inr ⟨c3, c7, b, by rw [← hknc]; exact hb, by rw [bestR, if_neg (show ¬ i = (-2) from c11), if_pos (show i = (-1) from c12)]; exact hb2⟩), hTF, hOF⟩
      · refine g_aload_n hE dX5_best_40 0 rfl ?_
        refine g_get hE fl_X5_211 dX5_best_41 0 rfl rfl ?_
        refine g_goto hE 78 dX5_best_44 (by decide) ?_
        exact g_iret hE hQ dX5_best_78 rfl ((q2_9 18 11), q2_9) rfl rfl ⟨Or.inr (Or.inr ⟨c3, c7, b, by rw [← hknc]; exact hb, by rw [bestR, if_pos (show i = (-2) from c11)]; exact hb1⟩), hTF, hOF⟩
    · rw [if_neg c7] at h6
      subst h6
      show Go E Q 3 0 0 23 [(0, .ref (a 0)), (1, .int k), (2, .int i)] [.int 0] (modelW cI a q)
      refine g_if_ne hE 28 dX5_best_23 (by decide) (fun c14 => absurd (by decide) c14) (fun c14 => ?_)
      refine g_iconst hE dX5_best_26 (-1) (by decide) ?_
      exact g_iret hE hQ dX5_best_27 rfl ((-1), q) rfl rfl ⟨Or.inr (Or.inl ⟨c7, rfl⟩), ⟨⟨rfl, rfl, rfl, rfl, rfl, rfl, rfl, rfl, rfl⟩, ⟨rfl, rfl, rfl, rfl, rfl, rfl, rfl⟩⟩⟩
  · rw [if_neg c3] at h2
    subst h2
    show Go E Q 3 0 0 9 [(0, .ref (a 0)), (1, .int k), (2, .int i)] [.int 0] (modelW cI a q)
    refine g_if_eq hE 26 dX5_best_9 (by decide) (fun c15 => ?_) (fun c15 => absurd (by decide) c15)
    refine g_iconst hE dX5_best_26 (-1) (by decide) ?_
    exact g_iret hE hQ dX5_best_27 rfl ((-1), q) rfl rfl ⟨Or.inl ⟨c3, rfl⟩, ⟨⟨rfl, rfl, rfl, rfl, rfl, rfl, rfl, rfl, rfl⟩, ⟨rfl, rfl, rfl, rfl, rfl, rfl, rfl⟩⟩⟩
set_option maxHeartbeats 4000000 in
set_option maxRecDepth 100000 in
theorem c_X5_parted (cI cS : ClassId) (a : Nat → Nat) (q : Nat → Nat → Int32) {n sv pl : Nat} (m : MS) (hRQ : RQ q m n sv pl) (x i : Int32) : CT cI cS yX5_parted cX5_parted 3 (some .int) 4 [.ref (a 0), .int x, .int i] (modelW cI a q) 0 0 (fun u : Int32 × (Nat → Nat → Int32) => fPart m n sv x i u.1 ∧ TF u.2 q ∧ OF u.2 q) (fun u => some (.int u.1)) (fun u => (modelW cI a u.2)) := by
  refine ct_intro (by decide) (Nat.le_of_ble_eq_true rfl) (fun E Q hE hQ hI => ?_)
  have hE : CxOk E cI cS RX5 cX5_parted 3 (some .int) 4 0 0 := hE
  show Go E Q 3 0 0 0 [(0, .ref (a 0)), (1, .int x), (2, .int i)] [] (modelW cI a q)
  have hM := hRQ.1
  have hTQ := hRQ.2.1
  have hRG := hRQ.2.2
  have hgr := hTQ.2.2.2.1
  have hsv := hTQ.2.2.2.2.1
  have hpl := hTQ.2.2.2.2.2.1
  have hn6 := hM.2.1
  have hsv8 := hM.2.2.2.1
  have hpl6 := hM.2.2.2.2.2
  have hc0 : m 9 0 = q 18 0 := hM.1.trans hgr.symm
  have hc1 : m 9 1 = q 18 1 := hM.2.2.1.trans hsv.symm
  have hc2 : m 9 2 = q 18 2 := hM.2.2.2.2.1.trans hpl.symm
  refine g_iload_n hE dX5_parted_0 1 rfl ?_
  refine g_i2l hE dX5_parted_1 ?_
  refine g_lconst hE dX5_parted_2 0 (by decide) ?_
  refine g_iconst hE dX5_parted_3 1 (by decide) ?_
  refine g_aload_n hE dX5_parted_4 0 rfl ?_
  refine g_get hE fl_X5_64 dX5_parted_5 0 rfl rfl ?_
  refine g_ishl hE dX5_parted_8 ?_
  refine g_iconst hE dX5_parted_9 1 (by decide) ?_
  refine g_isub hE dX5_parted_10 ?_
  refine g_i2l hE dX5_parted_11 ?_
  refine g_callS hE (c_X5_in cI cS (Int32.toInt64 x) 0 (Int32.toInt64 ((1 <<< ((q 18 0) &&& 31)) - 1))) mk_X5_in st_X5_in ml_X5_68 dX5_parted_12 (As := [.long (Int32.toInt64 x), .long 0, .long (Int32.toInt64 ((1 <<< ((q 18 0) &&& 31)) - 1))]) (rest := []) rfl rfl (by decide) (by decide) (Nat.le_of_ble_eq_true rfl) (by decide) (by decide) [] rfl (by decide) (fun u => Nat.le_of_ble_eq_true rfl) (ws' := fun u => modelW cI a q) (fun u => rfl) (fun u hu => ?_)
  obtain ⟨r_1, rfl⟩ : ∃ z, z = u := ⟨_, rfl⟩
  have h2 : r_1 = if 0 ≤ x ∧ x ≤ ((1 <<< ((q 18 0) &&& 31)) - 1) then 1 else 0 := (in_i (x := x) (lo := 0) (hi := ((1 <<< ((q 18 0) &&& 31)) - 1)) rfl rfl hu)
  by_cases c3 : 0 ≤ x ∧ x ≤ ((1 <<< ((q 18 0) &&& 31)) - 1)
  · rw [if_pos c3] at h2
    subst h2
    show Go E Q 3 0 0 15 [(0, .ref (a 0)), (1, .int x), (2, .int i)] [.int 1] (modelW cI a q)
    refine g_if_eq hE 32 dX5_parted_15 (by decide) (fun c4 => absurd c4 (by decide)) (fun c4 => ?_)
    refine g_iload_n hE dX5_parted_18 2 rfl ?_
    refine g_i2l hE dX5_parted_19 ?_
    refine g_ldc2 hE dX5_parted_20 cl_X5_238 ?_
    refine g_ldc2 hE dX5_parted_23 cl_X5_91 ?_
    refine g_callS hE (c_X5_in cI cS (Int32.toInt64 i) (-1) 3) mk_X5_in st_X5_in ml_X5_68 dX5_parted_26 (As := [.long (Int32.toInt64 i), .long (-1), .long 3]) (rest := []) rfl rfl (by decide) (by decide) (Nat.le_of_ble_eq_true rfl) (by decide) (by decide) [] rfl (by decide) (fun u => Nat.le_of_ble_eq_true rfl) (ws' := fun u => modelW cI a q) (fun u => rfl) (fun u hu => ?_)
    obtain ⟨r_5, rfl⟩ : ∃ z, z = u := ⟨_, rfl⟩
    have h6 : r_5 = if (-1) ≤ i ∧ i ≤ 3 then 1 else 0 := (in_i (x := i) (lo := (-1)) (hi := 3) rfl rfl hu)
    by_cases c7 : (-1) ≤ i ∧ i ≤ 3
    · rw [if_pos c7] at h6
      subst h6
      show Go E Q 3 0 0 29 [(0, .ref (a 0)), (1, .int x), (2, .int i)] [.int 1] (modelW cI a q)
      refine g_if_ne hE 34 dX5_parted_29 (by decide) (fun c8 => ?_) (fun c8 => absurd c8 (by decide))
      have hps : 0 ≤ x ∧ x ≤ ((1 <<< ((m 9 0) &&& 31)) - 1) := by rw [hc0]; exact c3
      obtain ⟨xn, hx64, hxn, hxnc⟩ := part_set hM.1 hn6 hps
      refine g_aload_n hE dX5_parted_34 0 rfl ?_
      refine g_iload_n hE dX5_parted_35 1 rfl ?_
      refine g_put hE fl_X5_208 fp_5_22 dX5_parted_36 0 rfl rfl rfl (Nat.le_of_ble_eq_true rfl) (modelW cI a (pA q 18 (upd (q 18) 10 x))) (by rfl) ?_
      refine g_aload_n hE dX5_parted_39 0 rfl ?_
      refine g_iconst hE dX5_parted_40 4 (by decide) ?_
      refine g_iconst hE dX5_parted_41 1 (by decide) ?_
      refine g_callV hE (c_X5_findBest1 cI cS a (pA q 18 (upd (q 18) 10 x)) m (TF_RQ ⟨rfl, rfl, rfl, rfl, rfl, rfl, rfl, rfl, rfl⟩ hRQ) 4 4 (show 4 = nI 4 from rfl) rfl xn hxn hx64) mk_X5_findBest mv_X5_findBest ml_X5_234 dX5_parted_42 (As := [.int 4, .int 1]) (rest := []) rfl rfl 0 rfl (show vwCl[5]? = some (RX5, TX5, 32) from rfl) (by decide) (by decide) (Nat.le_of_ble_eq_true rfl) (by decide) (by decide) [0, 1, 2, 3, 4, 5, 6, 7, 8, 9, 10, 11, 12, 13, 14, 15, 16, 17, 18] rfl (by decide) (fun u => Nat.le_of_ble_eq_true rfl) (ws' := fun u => modelW cI a u) (fun u => rfl) (fun u hu => ?_)
      obtain ⟨q2_9, rfl⟩ : ∃ z, z = u := ⟨_, rfl⟩
      have h10 : ((NoPart m n sv xn ∧ q2_9 18 12 = -4) ∨ ∃ b, PartOf m n sv xn b ∧ q2_9 18 12 = nI b.length ∧ ∀ j, j < b.length → q2_9 12 j = nI (b.getD j 0)) ∧ TF q2_9 (pA q 18 (upd (q 18) 10 x)) ∧ OF q2_9 (pA q 18 (upd (q 18) 10 x)) := hu
      show Go E Q 3 0 0 45 [(0, .ref (a 0)), (1, .int x), (2, .int i)] [] (modelW cI a q2_9)
      obtain ⟨hpo, hTF, hOF⟩ := h10
      refine g_aload_n hE dX5_parted_45 0 rfl ?_
      refine g_get hE fl_X5_214 dX5_parted_46 0 rfl rfl ?_
      refine g_if_ge hE 57 dX5_parted_49 (by decide) (fun c11 => ?_) (fun c11 => ?_)
      · refine g_iload_n hE dX5_parted_57 2 rfl ?_
        refine g_if_ge hE 68 dX5_parted_58 (by decide) (fun c12 => ?_) (fun c12 => ?_)
        · refine g_iload_n hE dX5_parted_68 2 rfl ?_
          refine g_aload_n hE dX5_parted_69 0 rfl ?_
          refine g_get hE fl_X5_214 dX5_parted_70 0 rfl rfl ?_
          refine g_icmp_ge hE 85 dX5_parted_73 (by decide) (fun c13 => ?_) (fun c13 => ?_)
          · refine g_bipush hE dX5_parted_85 (-4) (by decide) ?_
            exact g_iret hE hQ dX5_parted_87 rfl ((-4), q2_9) rfl rfl (by obtain ⟨b, hb, hb2, hb3⟩ := hpo.resolve_left (fun z => (show ¬ (q2_9 18 12) < 0 from (Int32.not_lt.mpr c11)) (by rw [z.2]; decide)); exact ⟨Or.inr (Or.inr (Or.inr ⟨hps, c7, b, by rw [← hxnc]; exact hb, by rw [partR, if_neg (fun z => (show ¬ i < 0 from (Int32.not_lt.mpr c12)) (by rw [z]; decide)), if_neg (fun z => (show ¬ i < (q2_9 18 12) from (Int32.not_lt.mpr c13)) (by rw [hb2]; exact z))]⟩)), hTF, hOF⟩)
          · obtain ⟨b, hb, hb2, hb3⟩ := hpo.resolve_left (fun z => (show ¬ (q2_9 18 12) < 0 from (Int32.not_lt.mpr c11)) (by rw [z.2]; decide))
            have hbl := hb.1
            obtain ⟨ij, hijl, hijn, hijc⟩ := nat_of_lt (b := b.length) ⟨Int32.not_lt.mp (show ¬ i < 0 from (Int32.not_lt.mpr c12)), (show i < (q2_9 18 12) from (Int32.not_le.mp c13))⟩ hb2 (by omega)
            refine g_aload_n hE dX5_parted_76 0 rfl ?_
            refine g_get hE fl_X5_46 dX5_parted_77 0 rfl rfl ?_
            refine g_iload_n hE dX5_parted_80 2 rfl ?_
            refine g_iald_n hE dX5_parted_81 13 rfl (show i = nI ij from hijn) (by omega) ?_
            refine g_goto hE 87 dX5_parted_82 (by decide) ?_
            exact g_iret hE hQ dX5_parted_87 rfl (((q2_9 12) ij), q2_9) rfl rfl ⟨Or.inr (Or.inr (Or.inr ⟨hps, c7, b, by rw [← hxnc]; exact hb, by rw [partR, if_neg (fun z => (show ¬ i < 0 from (Int32.not_lt.mpr c12)) (by rw [z]; decide)), if_pos (by rw [← hb2]; exact (show i < (q2_9 18 12) from (Int32.not_le.mp c13)))]; show _ = nI (b.getD i.toNatClampNeg 0); rw [← hijc]; exact hb3 ij hijl⟩)), hTF, hOF⟩
        · refine g_aload_n hE dX5_parted_61 0 rfl ?_
          refine g_get hE fl_X5_214 dX5_parted_62 0 rfl rfl ?_
          refine g_goto hE 87 dX5_parted_65 (by decide) ?_
          exact g_iret hE hQ dX5_parted_87 rfl ((q2_9 18 12), q2_9) rfl rfl (by obtain ⟨b, hb, hb2, hb3⟩ := hpo.resolve_left (fun z => (show ¬ (q2_9 18 12) < 0 from (Int32.not_lt.mpr c11)) (by rw [z.2]; decide)); exact ⟨Or.inr (Or.inr (Or.inr ⟨hps, c7, b, by rw [← hxnc]; exact hb, by rw [partR, if_pos (i_m1 c7.1 (show i < 0 from (Int32.not_le.mp c12)))]; exact hb2⟩)), hTF, hOF⟩)
      · refine g_bipush hE dX5_parted_52 (-4) (by decide) ?_
        refine g_goto hE 87 dX5_parted_54 (by decide) ?_
        exact g_iret hE hQ dX5_parted_87 rfl ((-4), q2_9) rfl rfl ⟨Or.inr (Or.inr (Or.inl ⟨hps, c7, by rw [← hxnc]; exact (hpo.resolve_right (fun ⟨b, hb, hb2, hb3⟩ => part_pos ⟨hb, hb2, hb3⟩ (show (q2_9 18 12) < 0 from (Int32.not_le.mp c11)))).1, rfl⟩)), hTF, hOF⟩
    · rw [if_neg c7] at h6
      subst h6
      show Go E Q 3 0 0 29 [(0, .ref (a 0)), (1, .int x), (2, .int i)] [.int 0] (modelW cI a q)
      refine g_if_ne hE 34 dX5_parted_29 (by decide) (fun c14 => absurd (by decide) c14) (fun c14 => ?_)
      refine g_iconst hE dX5_parted_32 (-1) (by decide) ?_
      exact g_iret hE hQ dX5_parted_33 rfl ((-1), q) rfl rfl ⟨Or.inr (Or.inl ⟨c7, rfl⟩), ⟨⟨rfl, rfl, rfl, rfl, rfl, rfl, rfl, rfl, rfl⟩, ⟨rfl, rfl, rfl, rfl, rfl, rfl, rfl⟩⟩⟩
  · rw [if_neg c3] at h2
    subst h2
    show Go E Q 3 0 0 15 [(0, .ref (a 0)), (1, .int x), (2, .int i)] [.int 0] (modelW cI a q)
    refine g_if_eq hE 32 dX5_parted_15 (by decide) (fun c15 => ?_) (fun c15 => absurd (by decide) c15)
    refine g_iconst hE dX5_parted_32 (-1) (by decide) ?_
    exact g_iret hE hQ dX5_parted_33 rfl ((-1), q) rfl rfl ⟨Or.inl ⟨(by rw [hc0]; exact c3), rfl⟩, ⟨⟨rfl, rfl, rfl, rfl, rfl, rfl, rfl, rfl, rfl⟩, ⟨rfl, rfl, rfl, rfl, rfl, rfl, rfl⟩⟩⟩
set_option maxHeartbeats 4000000 in
set_option maxRecDepth 100000 in
theorem c_X5_season (cI cS : ClassId) (a : Nat → Nat) (q : Nat → Nat → Int32) {n sv pl : Nat} (m : MS) (hRQ : RQ q m n sv pl) (x k : Int32) : CT cI cS yX5_season cX5_season 6 (some .int) 4 [.ref (a 0), .int x, .int k] (modelW cI a q) 0 0 (fun u : Int32 × (Nat → Nat → Int32) => (∃ mm, fSea m n sv x k u.1 mm ∧ RQ u.2 mm n sv pl) ∧ OF u.2 q) (fun u => some (.int u.1)) (fun u => (modelW cI a u.2)) := by
  refine ct_intro (by decide) (Nat.le_of_ble_eq_true rfl) (fun E Q hE hQ hI => ?_)
  have hE : CxOk E cI cS RX5 cX5_season 6 (some .int) 4 0 0 := hE
  show Go E Q 6 0 0 0 [(0, .ref (a 0)), (1, .int x), (2, .int k)] [] (modelW cI a q)
  have hM := hRQ.1
  have hTQ := hRQ.2.1
  have hRG := hRQ.2.2
  have hgr := hTQ.2.2.2.1
  have hsv := hTQ.2.2.2.2.1
  have hpl := hTQ.2.2.2.2.2.1
  have hn6 := hM.2.1
  have hsv8 := hM.2.2.2.1
  have hpl6 := hM.2.2.2.2.2
  have hc0 : m 9 0 = q 18 0 := hM.1.trans hgr.symm
  have hc1 : m 9 1 = q 18 1 := hM.2.2.1.trans hsv.symm
  have hc2 : m 9 2 = q 18 2 := hM.2.2.2.2.1.trans hpl.symm
  refine g_iload_n hE dX5_season_0 1 rfl ?_
  refine g_i2l hE dX5_season_1 ?_
  refine g_lconst hE dX5_season_2 1 (by decide) ?_
  refine g_ldc2 hE dX5_season_3 cl_X5_240 ?_
  refine g_callS hE (c_X5_in cI cS (Int32.toInt64 x) 1 20) mk_X5_in st_X5_in ml_X5_68 dX5_season_6 (As := [.long (Int32.toInt64 x), .long 1, .long 20]) (rest := []) rfl rfl (by decide) (by decide) (Nat.le_of_ble_eq_true rfl) (by decide) (by decide) [] rfl (by decide) (fun u => Nat.le_of_ble_eq_true rfl) (ws' := fun u => modelW cI a q) (fun u => rfl) (fun u hu => ?_)
  obtain ⟨r_1, rfl⟩ : ∃ z, z = u := ⟨_, rfl⟩
  have h2 : r_1 = if 1 ≤ x ∧ x ≤ 20 then 1 else 0 := (in_i (x := x) (lo := 1) (hi := 20) rfl rfl hu)
  by_cases c3 : 1 ≤ x ∧ x ≤ 20
  · rw [if_pos c3] at h2
    subst h2
    show Go E Q 6 0 0 9 [(0, .ref (a 0)), (1, .int x), (2, .int k)] [.int 1] (modelW cI a q)
    refine g_if_eq hE 24 dX5_season_9 (by decide) (fun c4 => absurd c4 (by decide)) (fun c4 => ?_)
    refine g_iload_n hE dX5_season_12 2 rfl ?_
    refine g_i2l hE dX5_season_13 ?_
    refine g_lconst hE dX5_season_14 0 (by decide) ?_
    refine g_ldc2 hE dX5_season_15 cl_X5_91 ?_
    refine g_callS hE (c_X5_in cI cS (Int32.toInt64 k) 0 3) mk_X5_in st_X5_in ml_X5_68 dX5_season_18 (As := [.long (Int32.toInt64 k), .long 0, .long 3]) (rest := []) rfl rfl (by decide) (by decide) (Nat.le_of_ble_eq_true rfl) (by decide) (by decide) [] rfl (by decide) (fun u => Nat.le_of_ble_eq_true rfl) (ws' := fun u => modelW cI a q) (fun u => rfl) (fun u hu => ?_)
    obtain ⟨r_5, rfl⟩ : ∃ z, z = u := ⟨_, rfl⟩
    have h6 : r_5 = if 0 ≤ k ∧ k ≤ 3 then 1 else 0 := (in_i (x := k) (lo := 0) (hi := 3) rfl rfl hu)
    by_cases c7 : 0 ≤ k ∧ k ≤ 3
    · rw [if_pos c7] at h6
      subst h6
      show Go E Q 6 0 0 21 [(0, .ref (a 0)), (1, .int x), (2, .int k)] [.int 1] (modelW cI a q)
      refine g_if_ne hE 26 dX5_season_21 (by decide) (fun c8 => ?_) (fun c8 => absurd c8 (by decide))
      have hk03 := c7
      have hx20 := c3
      obtain ⟨xn, hx1, hxn, hxnc⟩ := nat_of_le (b := 20) (x := x) ⟨Int32.le_trans (by decide) hx20.1, hx20.2⟩ rfl (by decide)
      obtain ⟨kn, hkn3, hkn, hknc⟩ := nat_of_le (b := 3) hk03 rfl (by decide)
      refine g_iconst hE dX5_season_26 0 (by decide) ?_
      refine g_istore_n hE dX5_season_27 [(3, .int 0), (0, .ref (a 0)), (1, .int x), (2, .int k)] rfl (by decide) rfl ?_
      refine g_iconst hE dX5_season_28 0 (by decide) ?_
      refine g_istore hE dX5_season_29 [(4, .int 0), (3, .int 0), (0, .ref (a 0)), (1, .int x), (2, .int k)] (by decide) rfl ?_
      have L31 : ∀ (n_31 : Nat) (d : Nat) (y : Int32) (qq : (Nat → Nat → Int32)) (mm : MS), (d ≤ xn) → (RQ qq mm n sv pl) → (OF qq q) → (seR m n sv kn d mm y) → (xn - d < n_31) → Go E Q 6 0 0 31 [(0, .ref (a 0)), (1, .int x), (2, .int k), (3, .int y), (4, .int (nI d))] [] (modelW cI a qq) := by
        intro n_31
        induction n_31 with
        | zero => intro d y qq mm hd hRQd hOFd hse hm_31; exact absurd hm_31 (Nat.not_lt_zero _)
        | succ n_31 ih_31 =>
          intro d y qq mm hd hRQd hOFd hse hm_31
          refine g_iload hE dX5_season_31 4 rfl ?_
          refine g_iload_n hE dX5_season_33 1 rfl ?_
          refine g_icmp_ge hE 104 dX5_season_34 (by decide) (fun c9 => ?_) (fun c9 => ?_)
          · have kc9 := nat_le_t (show x = nI xn from hxn) (show (nI d) = nI d from rfl) (by omega) (by omega) c9
            refine g_iload_n hE dX5_season_104 3 rfl ?_
            exact g_iret hE hQ dX5_season_105 rfl (y, qq) rfl rfl ⟨⟨mm, Or.inr (Or.inr ⟨hx20, hk03, by rw [← hxnc, ← hknc, show xn = d by omega]; exact hse⟩), hRQd⟩, hOFd⟩
          · have kc9 := nat_le_f (show x = nI xn from hxn) (show (nI d) = nI d from rfl) (by omega) (by omega) c9
            refine g_aload_n hE dX5_season_37 0 rfl ?_
            refine g_iload_n hE dX5_season_38 2 rfl ?_
            refine g_iconst hE dX5_season_39 0 (by decide) ?_
            refine g_callV hE (c_X5_findBest0 cI cS a qq mm hRQd k kn (show k = nI kn from hkn) (by omega)) mk_X5_findBest mv_X5_findBest ml_X5_234 dX5_season_40 (As := [.int k, .int 0]) (rest := []) rfl rfl 0 rfl (show vwCl[5]? = some (RX5, TX5, 32) from rfl) (by decide) (by decide) (Nat.le_of_ble_eq_true rfl) (by decide) (by decide) [0, 1, 2, 3, 4, 5, 6, 7, 8, 9, 10, 11, 12, 13, 14, 15, 16, 17, 18] rfl (by decide) (fun u => Nat.le_of_ble_eq_true rfl) (ws' := fun u => modelW cI a u) (fun u => rfl) (fun u hu => ?_)
            obtain ⟨q2_10, rfl⟩ : ∃ z, z = u := ⟨_, rfl⟩
            have h11 : (∃ b, BestOf mm n sv kn b ∧ q2_10 18 11 = VR mm n b ∧ q2_10 18 12 = nI b.length ∧ ∀ j, j < b.length → q2_10 12 j = nI (b.getD j 0)) ∧ (∀ s, s < sv → q2_10 8 s = mm 3 s ∧ q2_10 9 s = mm 4 s) ∧ TF q2_10 qq ∧ OF q2_10 qq := hu
            show Go E Q 6 0 0 43 [(0, .ref (a 0)), (1, .int x), (2, .int k), (3, .int y), (4, .int (nI d))] [] (modelW cI a q2_10)
            obtain ⟨⟨b, hb, hb1, hb2, hb3⟩, hSBk, hTF, hOF2⟩ := h11
            obtain ⟨bl, hbl⟩ : ∃ z, z = b.length := ⟨_, rfl⟩
            have hbl4 : bl ≤ 4 := by rw [hbl]; have := hb.1; omega
            have hb2n : q2_10 18 12 = nI bl := hb2.trans (congrArg nI hbl.symm)
            have hRQ2 : RQ q2_10 mm n sv pl := TF_RQ hTF hRQd
            have hgr : q2_10 18 0 = nI n := hRQ2.2.1.2.2.2.1
            have hsv : q2_10 18 1 = nI sv := hRQ2.2.1.2.2.2.2.1
            have hDb : DR (rowF b) bl sv := by rw [hbl]; exact dr_best hRQ2 hb
            refine g_iload_n hE dX5_season_43 3 rfl ?_
            refine g_aload_n hE dX5_season_44 0 rfl ?_
            refine g_get hE fl_X5_211 dX5_season_45 0 rfl rfl ?_
            refine g_iadd hE dX5_season_48 ?_
            refine g_istore_n hE dX5_season_49 [(3, .int (y + (q2_10 18 11))), (0, .ref (a 0)), (1, .int x), (2, .int k), (4, .int (nI d))] rfl (by decide) rfl ?_
            refine g_aload_n hE dX5_season_50 1 rfl ?_
            refine g_aload_n hE dX5_season_51 1 rfl ?_
            refine g_get hE fl_X5_214 dX5_season_52 0 rfl rfl ?_
            refine g_put hE fl_X5_164 fp_5_15 dX5_season_55 0 rfl rfl rfl (Nat.le_of_ble_eq_true rfl) (modelW cI a (pA q2_10 18 (upd (q2_10 18) 7 (q2_10 18 12)))) (by rfl) ?_
            refine g_iconst hE dX5_season_58 0 (by decide) ?_
            refine g_istore hE dX5_season_59 [(5, .int 0), (3, .int (y + (q2_10 18 11))), (0, .ref (a 0)), (1, .int x), (2, .int k), (4, .int (nI d))] (by decide) rfl ?_
            have L61 : ∀ (n_61 : Nat) (i : Nat) (tr : Nat → Int32), (i ≤ bl) → (∀ j, j < i → tr j = q2_10 12 j) → (bl - i < n_61) → Go E Q 6 0 0 61 [(0, .ref (a 0)), (1, .int x), (2, .int k), (3, .int (y + (q2_10 18 11))), (4, .int (nI d)), (5, .int (nI i))] [] (modelW cI a (pA (pA q2_10 7 tr) 18 (upd (q2_10 18) 7 (q2_10 18 12)))) := by
              intro n_61
              induction n_61 with
              | zero => intro i tr hi htr hm_61; exact absurd hm_61 (Nat.not_lt_zero _)
              | succ n_61 ih_61 =>
                intro i tr hi htr hm_61
                refine g_iload hE dX5_season_61 5 rfl ?_
                refine g_aload_n hE dX5_season_63 0 rfl ?_
                refine g_get hE fl_X5_214 dX5_season_64 0 rfl rfl ?_
                refine g_icmp_ge hE 90 dX5_season_67 (by decide) (fun c12 => ?_) (fun c12 => ?_)
                · have kc12 := nat_le_t (show (q2_10 18 12) = nI bl from hb2n) (show (nI i) = nI i from rfl) (by omega) (by omega) c12
                  refine g_aload_n hE dX5_season_90 0 rfl ?_
                  refine g_callV hE (c_X5_shakeOnce cI cS a (pA (pA q2_10 7 tr) 18 (upd (q2_10 18) 7 (q2_10 18 12))) hgr hn6 hb2n (by omega) hsv8 mm (rowF b) (sa_fb hRQ2 hSBk rfl rfl rfl rfl rfl) (ra_b hbl (fun j hj => htr j (by omega)) hb3 hDb)) mk_X5_shakeOnce mv_X5_shakeOnce ml_X5_189 dX5_season_91 (As := []) (rest := []) rfl rfl 0 rfl (show vwCl[5]? = some (RX5, TX5, 32) from rfl) (by decide) (by decide) (Nat.le_of_ble_eq_true rfl) (by decide) (by decide) [0, 1, 2, 3, 4, 5, 6, 7, 8, 9, 10, 11, 12, 13, 14, 15, 16, 17, 18] rfl (by decide) (fun u => Nat.le_of_ble_eq_true rfl) (ws' := fun u => modelW cI a (pA (pA (pA q2_10 7 tr) 10 u) 18 (upd (upd (upd (q2_10 18) 7 (q2_10 18 12)) 8 (chR mm n (rowF b) bl)) 9 (nI (flN mm n (rowF b) bl))))) (fun u => rfl) (fun u hu => ?_)
                  obtain ⟨h_13, rfl⟩ : ∃ z, z = u := ⟨_, rfl⟩
                  have h14 : ∀ g, g < n → h_13 g = hA mm n (rowF b) bl bl g := hu
                  show Go E Q 6 0 0 94 [(0, .ref (a 0)), (1, .int x), (2, .int k), (3, .int (y + (q2_10 18 11))), (4, .int (nI d)), (5, .int (nI i))] [] (modelW cI a (pA (pA (pA q2_10 7 tr) 10 h_13) 18 (upd (upd (upd (q2_10 18) 7 (q2_10 18 12)) 8 (chR mm n (rowF b) bl)) 9 (nI (flN mm n (rowF b) bl)))))
                  refine g_aload_n hE dX5_season_94 0 rfl ?_
                  refine g_callV hE (c_X5_keep cI cS a (pA (pA (pA q2_10 7 tr) 10 h_13) 18 (upd (upd (upd (q2_10 18) 7 (q2_10 18 12)) 8 (chR mm n (rowF b) bl)) 9 (nI (flN mm n (rowF b) bl)))) hb2n (by omega) hsv hsv8 mm (rowF b) (ra_b hbl (fun j hj => htr j (by omega)) hb3 hDb) (hw_fb hRQ2 hSBk rfl rfl rfl) rfl) mk_X5_keep mv_X5_keep ml_X5_205 dX5_season_95 (As := []) (rest := []) rfl rfl 0 rfl (show vwCl[5]? = some (RX5, TX5, 32) from rfl) (by decide) (by decide) (Nat.le_of_ble_eq_true rfl) (by decide) (by decide) [0, 1, 2, 3, 4, 5, 6, 7, 8, 9, 10, 11, 12, 13, 14, 15, 16, 17, 18] rfl (by decide) (fun u => Nat.le_of_ble_eq_true rfl) (ws' := fun u => modelW cI a (pA (pA (pA (pA (pA q2_10 3 (kpZ (q2_10 3) u sv)) 7 tr) 9 u) 10 h_13) 18 (upd (upd (upd (upd (q2_10 18) 3 (evS (q2_10 18 3))) 7 (q2_10 18 12)) 8 (chR mm n (rowF b) bl)) 9 (nI (flN mm n (rowF b) bl))))) (fun u => rfl) (fun u hu => ?_)
                  obtain ⟨mh_15, rfl⟩ : ∃ z, z = u := ⟨_, rfl⟩
                  have h16 : ∀ s, s < sv → mh_15 s = wrM mm n (rowF b) bl 4 s := hu
                  show Go E Q 6 0 0 98 [(0, .ref (a 0)), (1, .int x), (2, .int k), (3, .int (y + (q2_10 18 11))), (4, .int (nI d)), (5, .int (nI i))] [] (modelW cI a (pA (pA (pA (pA (pA q2_10 3 (kpZ (q2_10 3) mh_15 sv)) 7 tr) 9 mh_15) 10 h_13) 18 (upd (upd (upd (upd (q2_10 18) 3 (evS (q2_10 18 3))) 7 (q2_10 18 12)) 8 (chR mm n (rowF b) bl)) 9 (nI (flN mm n (rowF b) bl)))))
                  refine g_iinc hE dX5_season_98 4 (nI (d + 1)) [(4, .int (nI (d + 1))), (0, .ref (a 0)), (1, .int x), (2, .int k), (3, .int (y + (q2_10 18 11))), (5, .int (nI i))] rfl (nI_1 _) (by decide) rfl ?_
                  refine g_goto hE 31 dX5_season_101 (by decide) ?_
                  refine g_locals [1, 2, 3, 4, 0] [(0, .ref (a 0)), (1, .int x), (2, .int k), (3, .int (y + (q2_10 18 11))), (4, .int (nI (d + 1)))] rfl ?_
                  exact ih_31 (d + 1) (y + (q2_10 18 11)) (pA (pA (pA (pA (pA q2_10 3 (kpZ (q2_10 3) mh_15 sv)) 7 tr) 9 mh_15) 10 h_13) 18 (upd (upd (upd (upd (q2_10 18) 3 (evS (q2_10 18 3))) 7 (q2_10 18 12)) 8 (chR mm n (rowF b) bl)) 9 (nI (flN mm n (rowF b) bl)))) (shM mm n (rowF b) bl) (by first | assumption | omega) (RQ_keep hRQ2 hDb h16 rfl rfl rfl rfl rfl rfl rfl rfl rfl) (OF_tr (OF_tr ⟨rfl, rfl, rfl, rfl, rfl, rfl, rfl⟩ hOF2) hOFd) ⟨mm, y, b, hse, hb, by rw [hbl], by rw [hb1, se_V hRQ2 hb]⟩ (by omega)
                · have kc12 := nat_le_f (show (q2_10 18 12) = nI bl from hb2n) (show (nI i) = nI i from rfl) (by omega) (by omega) c12
                  refine g_aload_n hE dX5_season_70 0 rfl ?_
                  refine g_get hE fl_X5_31 dX5_season_71 0 rfl rfl ?_
                  refine g_iload hE dX5_season_74 5 rfl ?_
                  refine g_aload_n hE dX5_season_76 0 rfl ?_
                  refine g_get hE fl_X5_46 dX5_season_77 0 rfl rfl ?_
                  refine g_iload hE dX5_season_80 5 rfl ?_
                  refine g_iald_n hE dX5_season_82 13 rfl (show (nI i) = nI i from rfl) (by omega) ?_
                  refine g_iast_n hE dX5_season_83 8 rfl (show (nI i) = nI i from rfl) (by omega) (modelW cI a (pA (pA q2_10 7 (upd tr i ((q2_10 12) i))) 18 (upd (q2_10 18) 7 (q2_10 18 12)))) rfl ?_
                  refine g_iinc hE dX5_season_84 5 (nI (i + 1)) [(5, .int (nI (i + 1))), (0, .ref (a 0)), (1, .int x), (2, .int k), (3, .int (y + (q2_10 18 11))), (4, .int (nI d))] rfl (nI_1 _) (by decide) rfl ?_
                  refine g_goto hE 61 dX5_season_87 (by decide) ?_
                  refine g_locals [1, 2, 3, 4, 5, 0] [(0, .ref (a 0)), (1, .int x), (2, .int k), (3, .int (y + (q2_10 18 11))), (4, .int (nI d)), (5, .int (nI (i + 1)))] rfl ?_
                  exact ih_61 (i + 1) (upd tr i ((q2_10 12) i)) (by first | assumption | omega) (upd_pre htr rfl) (by omega)
            refine g_locals [2, 3, 4, 1, 5, 0] [(0, .ref (a 0)), (1, .int x), (2, .int k), (3, .int (y + (q2_10 18 11))), (4, .int (nI d)), (5, .int 0)] rfl ?_
            exact L61 _ 0 (q2_10 7) (Nat.zero_le _) (fun j hj => absurd hj (Nat.not_lt_zero _)) (Nat.lt_succ_self _)
      refine g_locals [2, 3, 4, 1, 0] [(0, .ref (a 0)), (1, .int x), (2, .int k), (3, .int 0), (4, .int 0)] rfl ?_
      exact L31 _ 0 0 q m (Nat.zero_le _) hRQ ⟨rfl, rfl, rfl, rfl, rfl, rfl, rfl⟩ ⟨rfl, rfl⟩ (Nat.lt_succ_self _)
    · rw [if_neg c7] at h6
      subst h6
      show Go E Q 6 0 0 21 [(0, .ref (a 0)), (1, .int x), (2, .int k)] [.int 0] (modelW cI a q)
      refine g_if_ne hE 26 dX5_season_21 (by decide) (fun c17 => absurd (by decide) c17) (fun c17 => ?_)
      refine g_iconst hE dX5_season_24 (-1) (by decide) ?_
      exact g_iret hE hQ dX5_season_25 rfl ((-1), q) rfl rfl ⟨⟨m, Or.inr (Or.inl ⟨c7, rfl, rfl⟩), hRQ⟩, ⟨rfl, rfl, rfl, rfl, rfl, rfl, rfl⟩⟩
  · rw [if_neg c3] at h2
    subst h2
    show Go E Q 6 0 0 9 [(0, .ref (a 0)), (1, .int x), (2, .int k)] [.int 0] (modelW cI a q)
    refine g_if_eq hE 24 dX5_season_9 (by decide) (fun c18 => ?_) (fun c18 => absurd (by decide) c18)
    refine g_iconst hE dX5_season_24 (-1) (by decide) ?_
    exact g_iret hE hQ dX5_season_25 rfl ((-1), q) rfl rfl ⟨⟨m, Or.inl ⟨c3, rfl, rfl⟩, hRQ⟩, ⟨rfl, rfl, rfl, rfl, rfl, rfl, rfl⟩⟩
