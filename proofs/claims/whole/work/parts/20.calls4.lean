/-! the loft's calls: type, lasts -/
theorem nat_of_1 {x : Int32} (h : 1 ≤ x ∧ x ≤ 8) : ∃ j : Nat, 1 ≤ j ∧ j ≤ 8 ∧ x = nI j ∧ j = x.toNatClampNeg := by
  obtain ⟨j, h1, h2, h3⟩ := nat_of_le (x := x) (y := 8) (b := 8) ⟨Int32.le_trans (by decide) h.1, h.2⟩ rfl (by decide)
  refine ⟨j, ?_, h1, h2, h3⟩
  have h4 : nI 1 ≤ x := h.1
  rw [h2, nI_leI (by decide) (by omega)] at h4
  exact h4
def byI (x : Int64) (i : Int32) : Int32 := (x >>> ((8 * i : Int32).toInt64 &&& 63)).toInt32 &&& 255
def tyO (x : Int64) : Nat → Bool
  | 0 => true
  | i + 1 => tyO x i && decide (32 ≤ byI x (nI i) ∧ byI x (nI i) ≤ 126)
theorem tyO_y {x : Int64} {i : Nat} (h : tyO x i = true) (h2 : 32 ≤ byI x (nI i) ∧ byI x (nI i) ≤ 126) : tyO x (i + 1) = true := by rw [tyO, h, decide_eq_true h2]; rfl
theorem tyO_at {x : Int64} : ∀ {l : Nat}, tyO x l = true → ∀ i, i < l → 32 ≤ byI x (nI i) ∧ byI x (nI i) ≤ 126
  | 0, _, i, h => absurd h (Nat.not_lt_zero _)
  | l + 1, h, i, hi => by
    rw [tyO, Bool.and_eq_true] at h
    by_cases e : i = l
    · subst e; exact of_decide_eq_true h.2
    · exact tyO_at h.1 i (by omega)
theorem tyO_no {x : Int64} {i l : Nat} (hi : i < l) (h : ¬ (32 ≤ byI x (nI i) ∧ byI x (nI i) ≤ 126)) : ¬ tyO x l = true := fun z => h (tyO_at z i hi)
def tyA (B : Nat → Int32) (L : Nat) (x : Int64) (nn : Nat) : Nat → Nat → Int32
  | 0 => B
  | j + 1 => upd (tyA B L x nn j) (L + j) (byI x (nI (nn - 1 - j)))
def fgType (B : Nat → Int32) (L : Nat) (x : Int64) (y : Int32) : Int32 × (Nat → Int32) × Nat := if 1 ≤ y ∧ y ≤ 8 then (if tyO x y.toNatClampNeg = true then (if L + y.toNatClampNeg ≤ 120 then (nI (L + y.toNatClampNeg), tyA B L x y.toNatClampNeg y.toNatClampNeg, L + y.toNatClampNeg) else (-3, B, L)) else (-1, B, L)) else (-1, B, L)
theorem ty_pre {z : Int32} {r : Nat} (hz : z = nI (r + 1) - 1) : z = nI r := by rw [hz, nI_pred]
theorem ty_pos {z : Int32} {r : Nat} (hz : z = nI r - 1) (hr : r ≤ 8) (h : ¬ z < 0) : 1 ≤ r := by
  cases r with
  | zero => subst hz; exact absurd (by decide) h
  | succ r => omega
theorem ty_neg {z : Int32} {a b : Nat} (hz : z = nI (a - b) - 1) (hr : a ≤ 8 ∧ b ≤ a) (h : z < 0) : a = b := by
  rcases Nat.eq_zero_or_pos (a - b) with e | e
  · omega
  · obtain ⟨r, hr2⟩ : ∃ r, a - b = r + 1 := ⟨a - b - 1, by omega⟩
    rw [hr2] at hz
    rw [ty_pre hz] at h
    exact absurd h (nI_pos (by omega))
theorem ty_s {B : Nat → Int32} {L nn j : Nat} {x : Int64} {z : Int32} (hz : z = nI (nn - j) - 1) (hr : 1 ≤ nn - j) : upd (tyA B L x nn j) (L + j) (((x >>> ((8 * z : Int32).toInt64 &&& 63)).toInt32 &&& 255)) = tyA B L x nn (j + 1) := by
  obtain ⟨r, hr2⟩ : ∃ r, nn - j = r + 1 := ⟨nn - j - 1, by omega⟩
  rw [hr2] at hz
  rw [tyA, ty_pre hz, show nn - 1 - j = r by omega]
  rfl
theorem ty_dec {z : Int32} {nn j : Nat} (hz : z = nI (nn - j) - 1) (hr : j < nn) : z + -1 = nI (nn - (j + 1)) - 1 := by
  obtain ⟨r, hr2⟩ : ∃ r, nn - j = r + 1 := ⟨nn - j - 1, by omega⟩
  rw [hr2] at hz
  rw [ty_pre hz, show nn - (j + 1) = r by omega, Int32.sub_eq_add_neg]
/-- two mills with the same grains, sieves, row and shakings -/
def EqM (a b : MS) : Prop := (∀ f, f < 8 → a f = b f) ∧ ∀ j, j < 4 → a 9 j = b 9 j
theorem EqM_tk {m v : MS} : EqM (tkA v m) m := by
  refine ⟨fun f hf => ?_, fun j hj => ?_⟩
  · rcases (show f = 0 ∨ f = 1 ∨ f = 2 ∨ f = 3 ∨ f = 4 ∨ f = 5 ∨ f = 6 ∨ f = 7 by omega) with rfl | rfl | rfl | rfl | rfl | rfl | rfl | rfl <;> rfl
  · rcases (show j = 0 ∨ j = 1 ∨ j = 2 ∨ j = 3 by omega) with rfl | rfl | rfl | rfl <;> rfl
theorem EqM_tk8 {m v : MS} {h : Nat → Int32} : EqM (tkA v (pA m 8 h)) m := by
  refine ⟨fun f hf => ?_, fun j hj => ?_⟩
  · rcases (show f = 0 ∨ f = 1 ∨ f = 2 ∨ f = 3 ∨ f = 4 ∨ f = 5 ∨ f = 6 ∨ f = 7 by omega) with rfl | rfl | rfl | rfl | rfl | rfl | rfl | rfl <;> rfl
  · rcases (show j = 0 ∨ j = 1 ∨ j = 2 ∨ j = 3 by omega) with rfl | rfl | rfl | rfl <;> rfl
theorem MW_tk {m v : MS} {n sv pl : Nat} (h : MW m n sv pl) : MW (tkA v m) n sv pl := by
  refine ⟨?_, h.2.1, ?_, h.2.2.2.1, ?_, h.2.2.2.2.2⟩
  · exact (show tkA v m 9 0 = m 9 0 from rfl).trans h.1
  · exact (show tkA v m 9 1 = m 9 1 from rfl).trans h.2.2.1
  · exact (show tkA v m 9 2 = m 9 2 from rfl).trans h.2.2.2.2.1
theorem EqM.fall {a b : MS} (h : EqM a b) (n : Nat) (s : Int32) (c : Nat) : fallS a n s c = fallS b n s c := by
  have h0 := h.1 0 (by decide)
  have h1 := h.1 1 (by decide)
  have h3 := h.1 3 (by decide)
  have h4 := h.1 4 (by decide)
  have h5 := h.1 5 (by decide)
  have e : ∀ k, bigS a s c k = bigS b s c k := fun k => by unfold bigS; rw [h0, h3, h4]
  unfold fallS
  rw [h5, h1, e]
theorem EqM.ld {a b : MS} (h : EqM a b) (n : Nat) : ldS a n = ldS b n := by unfold ldS; rw [h.1 1 (by decide)]
theorem EqM.w {a b : MS} (h : EqM a b) (n s : Nat) : wS a n s = wS b n s := by unfold wS; rw [h.1 1 (by decide), h.1 2 (by decide)]
theorem EqM.cm {a b : MS} (h : EqM a b) (n : Nat) (row : Nat → Int32) : ∀ p, cmS a n row p = cmS b n row p
  | 0 => h.ld n
  | p + 1 => by rw [cmS, cmS, h.cm n row p, h.fall]
theorem EqM.hp {a b : MS} (h : EqM a b) (n : Nat) (row : Nat → Int32) (l p : Nat) : hpS a n row l p = hpS b n row l p := by unfold hpS; rw [h.cm, h.cm, h.cm]
theorem EqM.wid {a b : MS} (h : EqM a b) (s : Int32) : EqM (widS a s) (widS b s) := by
  refine ⟨fun f hf => ?_, h.2⟩
  unfold widS
  rw [h.1 3 (by decide), h.1 4 (by decide), h.1 6 (by decide)]
  unfold pA
  cases Nat.beq f 4
  · exact h.1 f hf
  · rfl
theorem EqM.sh {a b : MS} (h : EqM a b) (n : Nat) (row : Nat → Int32) : ∀ k, EqM (shS a n row k).1 (shS b n row k).1 ∧ (shS a n row k).2 = (shS b n row k).2
  | 0 => ⟨h, by show (ldS a n, (0 : Int32)) = (ldS b n, 0); rw [h.ld]⟩
  | k + 1 => by
    obtain ⟨h1, h2⟩ := h.sh n row k
    have e1 : (shS a n row k).2.1 = (shS b n row k).2.1 := by rw [h2]
    have e2 : (shS a n row k).2.2 = (shS b n row k).2.2 := by rw [h2]
    refine ⟨?_, ?_⟩
    · rw [shS, shS, h1.fall, e1]
      show EqM (if _ then _ else _) (if _ then _ else _)
      split
      · exact h1
      · exact h1.wid _
    · rw [shS, shS, h1.fall, e1, e2, h.w]
theorem EqM.shk {a b : MS} (h : EqM a b) : EqM (shkS a) (shkS b) := by
  refine ⟨fun f hf => ?_, fun j hj => ?_⟩
  · unfold shkS pA
    have e : Nat.beq f 9 = false := by
      cases hq : Nat.beq f 9 with
      | false => rfl
      | true => have := Nat.eq_of_beq_eq_true hq; omega
    rw [e]
    exact h.1 f hf
  · have e9 := h.2 3 (by decide)
    show upd (a 9) 3 _ j = upd (b 9) 3 _ j
    unfold upd
    rw [e9]
    split
    · rfl
    · exact h.2 j hj
theorem EqM.shM {a b : MS} (h : EqM a b) (n : Nat) (row : Nat → Int32) (l : Nat) : EqM (shM a n row l) (shM b n row l) := (h.sh n row l).1.shk
theorem EqM.shV {a b : MS} (h : EqM a b) (n : Nat) (row : Nat → Int32) (l : Nat) : shV a n row l = shV b n row l := by
  show (shS a n row l).2.2 + wS a n (shS a n row l).2.1 = (shS b n row l).2.2 + wS b n (shS b n row l).2.1
  rw [(h.sh n row l).2, h.w]
def laM (m : MS) (n pl : Nat) : Nat → MS
  | 0 => m
  | t + 1 => shM (laM m n pl t) n (laM m n pl t 7) pl
def smH (a m : MS) (n pl : Nat) : Nat → Bool
  | 0 => true
  | k + 1 => smH a m n pl k && decide (hpS a n (a 7) pl k = hpS m n (m 7) pl k)
theorem smH_iff {a m : MS} {n pl : Nat} : ∀ {l : Nat}, smH a m n pl l = true ↔ ∀ k, k < l → hpS a n (a 7) pl k = hpS m n (m 7) pl k
  | 0 => ⟨fun _ k h => absurd h (Nat.not_lt_zero _), fun _ => rfl⟩
  | l + 1 => by
    rw [smH, Bool.and_eq_true, smH_iff (l := l), decide_eq_true_eq]
    constructor
    · rintro ⟨h1, h2⟩ k hk
      by_cases e : k = l
      · subst e; exact h2
      · exact h1 k (by omega)
    · intro h
      exact ⟨fun k hk => h k (by omega), h l (by omega)⟩
def laR (m : MS) (n pl : Nat) : Nat → Nat → Int32
  | 0, _ => 200
  | f + 1, t => if smH (laM m n pl t) m n pl (pl + 1) = true then laR m n pl f (t + 1) else nI t
theorem la_y {m : MS} {n pl t : Nat} (ht : t < 200) (h : smH (laM m n pl t) m n pl (pl + 1) = true) : laR m n pl (200 - t) t = laR m n pl (200 - (t + 1)) (t + 1) := by
  rw [show 200 - t = (200 - (t + 1)) + 1 by omega, laR, if_pos h]
theorem la_n {m : MS} {n pl t : Nat} (ht : t < 200) (h : ¬ smH (laM m n pl t) m n pl (pl + 1) = true) : laR m n pl (200 - t) t = nI t := by
  rw [show 200 - t = (200 - (t + 1)) + 1 by omega, laR, if_neg h]
theorem la_eq {m vv : MS} {n sv pl t : Nat} {h h2 : Nat → Int32} (hE : EqM vv (laM m n pl t)) (hV : MW vv n sv pl) (a1 : ∀ j, j ≤ pl → h j = nI (hpS m n (m 7) pl j)) (a2 : ∀ j, j ≤ pl → h2 j = nI (hpS vv n (vv 7) pl j)) : sameB (pA m 8 h) (pA vv 8 h2) (pl + 1) = true ↔ smH (laM m n pl t) m n pl (pl + 1) = true := by
  have h7 := hE.1 7 (by decide)
  have hn := hV.2.1
  have key : ∀ j, j ≤ pl → (h j = h2 j ↔ hpS (laM m n pl t) n (laM m n pl t 7) pl j = hpS m n (m 7) pl j) := by
    intro j hj
    rw [a1 j hj, a2 j hj, hE.hp, h7]
    have b1 := hpS_lt (m := m) (row := m 7) (l := pl) (p := j) hn
    have b2 := hpS_lt (m := laM m n pl t) (row := laM m n pl t 7) (l := pl) (p := j) hn
    rw [nI_eq (by omega) (by omega)]
    exact ⟨fun q => q.symm, fun q => q.symm⟩
  rw [smH_iff]
  constructor
  · intro q k hk
    exact (key k (by omega)).mp (sameB_at q k hk)
  · intro q
    have : ∀ l, l ≤ pl + 1 → sameB (pA m 8 h) (pA vv 8 h2) l = true := by
      intro l
      induction l with
      | zero => intro _; rfl
      | succ l ih => intro hl; exact sameB_y (ih (by omega)) ((key l (by omega)).mpr (q l (by omega)))
    exact this _ (Nat.le_refl _)
theorem la_same {m vv : MS} {n sv pl t : Nat} {h h2 : Nat → Int32} (hE : EqM vv (laM m n pl t)) (hV : MW vv n sv pl) (a1 : ∀ j, j ≤ pl → h j = nI (hpS m n (m 7) pl j)) (a2 : ∀ j, j ≤ pl → h2 j = nI (hpS vv n (vv 7) pl j)) (q : sameB (pA m 8 h) (pA vv 8 h2) (pl + 1) = true) : smH (laM m n pl t) m n pl (pl + 1) = true := (la_eq hE hV a1 a2).mp q
theorem la_diff {m vv : MS} {n sv pl t : Nat} {h h2 : Nat → Int32} (hE : EqM vv (laM m n pl t)) (hV : MW vv n sv pl) (a1 : ∀ j, j ≤ pl → h j = nI (hpS m n (m 7) pl j)) (a2 : ∀ j, j ≤ pl → h2 j = nI (hpS vv n (vv 7) pl j)) (q : ¬ sameB (pA m 8 h) (pA vv 8 h2) (pl + 1) = true) : ¬ smH (laM m n pl t) m n pl (pl + 1) = true := fun z => q ((la_eq hE hV a1 a2).mpr z)
theorem shM_pA {vv : MS} {n sv pl : Nat} {h2 : Nat → Int32} (h : MW vv n sv pl) : MW (pA vv 8 h2) n sv pl := h
theorem MW_shM {vv : MS} {n sv pl : Nat} {row : Nat → Int32} {l : Nat} (h : MW vv n sv pl) : MW (shM vv n row l) n sv pl := by
  have := shS_mw (row := row) h l
  exact ⟨this.1, this.2.1, this.2.2.1, this.2.2.2.1, this.2.2.2.2.1, this.2.2.2.2.2⟩
theorem EqM_8 {a b : MS} {h : Nat → Int32} (q : EqM a b) : EqM (pA a 8 h) b := by
  refine ⟨fun f hf => ?_, q.2⟩
  have e : Nat.beq f 8 = false := by
    cases hq : Nat.beq f 8 with
    | false => rfl
    | true => have := Nat.eq_of_beq_eq_true hq; omega
  unfold pA
  rw [e]
  exact q.1 f hf
theorem EqM_sh {m vv : MS} {n sv pl t : Nat} {h2 : Nat → Int32} (hV : MW vv n sv pl) (hM : MW m n sv pl) (hE : EqM vv (laM m n pl t)) : EqM (shM (pA vv 8 h2) n ((pA vv 8 h2) 7) pl) (laM m n pl (t + 1)) := by
  have h7 : (pA vv 8 h2) 7 = laM m n pl t 7 := hE.1 7 (by decide)
  rw [h7]
  exact (EqM_8 hE).shM n _ pl
set_option maxHeartbeats 4000000 in
set_option maxRecDepth 100000 in
theorem c_X4_type (cI cS : ClassId) (a : Nat → Nat) (m v w : Nat → Nat → Int32) (T C : Nat → Int32) (li ap va le : Int32) (B : Nat → Int32) (L P : Nat) (F : Int32) (sh : Nat → Nat → Nat → Int32) (kf : Int32) {n sv pl n1 sv1 pl1 n2 sv2 pl2 : Nat} (hM : MW m n sv pl) (hV : MW v n1 sv1 pl1) (hW : MW w n2 sv2 pl2) (hL : L ≤ 120) (x : Int64) (y : Int32) : CT cI cS yX4_type cX4_type 5 (some .int) 2 [.ref (a 0), .long x, .int y] (loftW cI cS a m v w (seS T C li ap va le) (tpS B L P F) sh kf) 0 0 (fun u : Int32 × (Nat → Int32) × Nat => (u.1, u.2.1, u.2.2) = fgType B L x y ∧ u.2.2 ≤ 120) (fun u => some (.int u.1)) (fun u => (loftW cI cS a m v w (seS T C li ap va le) (tpS u.2.1 u.2.2 P F) sh kf)) := by
  refine ct_intro (by decide) (Nat.le_of_ble_eq_true rfl) (fun E Q hE hQ hI => ?_)
  have hE : CxOk E cI cS RX4 cX4_type 5 (some .int) 2 0 0 := hE
  show Go E Q 5 0 0 0 [(0, .ref (a 0)), (1, .long x), (3, .int y)] [] (loftW cI cS a m v w (seS T C li ap va le) (tpS B L P F) sh kf)
  have hn := hM.1
  have hn6 := hM.2.1
  have hsv := hM.2.2.1
  have hsv8 := hM.2.2.2.1
  have hpl := hM.2.2.2.2.1
  have hpl6 := hM.2.2.2.2.2
  have hn1 := hV.1
  have hn16 := hV.2.1
  have hsv1 := hV.2.2.1
  have hsv18 := hV.2.2.2.1
  have hpl1 := hV.2.2.2.2.1
  have hpl16 := hV.2.2.2.2.2
  refine g_iload_n hE dX4_type_0 2 rfl ?_
  refine g_iconst hE dX4_type_1 1 (by decide) ?_
  refine g_bipush hE dX4_type_2 8 (by decide) ?_
  refine g_callS hE (c_X4_within cI cS y 1 8) mk_X4_within st_X4_within ml_X4_47 dX4_type_4 (As := [.int y, .int 1, .int 8]) (rest := []) rfl rfl (by decide) (by decide) (Nat.le_of_ble_eq_true rfl) (by decide) (by decide) [] rfl (by decide) (fun u => Nat.le_of_ble_eq_true rfl) (ws' := fun u => loftW cI cS a m v w (seS T C li ap va le) (tpS B L P F) sh kf) (fun u => rfl) (fun u hu => ?_)
  obtain ⟨r_1, rfl⟩ : ∃ z, z = u := ⟨_, rfl⟩
  have h2 : r_1 = if 1 ≤ y ∧ y ≤ 8 then 1 else 0 := hu
  by_cases c3 : 1 ≤ y ∧ y ≤ 8
  · rw [if_pos c3] at h2
    subst h2
    show Go E Q 5 0 0 7 [(0, .ref (a 0)), (1, .long x), (3, .int y)] [.int 1] (loftW cI cS a m v w (seS T C li ap va le) (tpS B L P F) sh kf)
    refine g_if_ne hE 12 dX4_type_7 (by decide) (fun c4 => ?_) (fun c4 => absurd c4 (by decide))
    obtain ⟨nn, hnn1, hnn8, hnn, hnnc⟩ := nat_of_1 c3
    refine g_iconst hE dX4_type_12 0 (by decide) ?_
    refine g_istore hE dX4_type_13 [(4, .int 0), (0, .ref (a 0)), (1, .long x), (3, .int y)] (by decide) rfl ?_
    have L15 : ∀ (n_15 : Nat) (i : Nat), (i ≤ nn) → (tyO x i = true) → (nn - i < n_15) → Go E Q 5 0 0 15 [(0, .ref (a 0)), (1, .long x), (3, .int y), (4, .int (nI i))] [] (loftW cI cS a m v w (seS T C li ap va le) (tpS B L P F) sh kf) := by
      intro n_15
      induction n_15 with
      | zero => intro i hi hok hm_15; exact absurd hm_15 (Nat.not_lt_zero _)
      | succ n_15 ih_15 =>
        intro i hi hok hm_15
        refine g_iload hE dX4_type_15 3 rfl ?_
        refine g_iload_n hE dX4_type_17 2 rfl ?_
        refine g_icmp_ge hE 45 dX4_type_18 (by decide) (fun c5 => ?_) (fun c5 => ?_)
        · have kc5 := nat_le_t (show y = nI nn from hnn) (show (nI i) = nI i from rfl) (by omega) (by omega) c5
          refine g_aload_n hE dX4_type_45 0 rfl ?_
          refine g_get hE fl_X4_36 dX4_type_46 0 rfl rfl ?_
          refine g_get hE fl_X4_108 dX4_type_49 34 rfl rfl ?_
          refine g_bipush hE dX4_type_52 120 (by decide) ?_
          refine g_iload_n hE dX4_type_54 2 rfl ?_
          refine g_isub_n hE dX4_type_55 (show 120 = nI 120 from rfl) (show y = nI nn from hnn) (by omega) ?_
          refine g_icmp_le hE 62 dX4_type_56 (by decide) (fun c6 => ?_) (fun c6 => ?_)
          · have kc6 := nat_le_t (show (nI L) = nI L from rfl) (show (nI (120 - nn)) = nI (120 - nn) from rfl) (by omega) (by omega) c6
            refine g_iload_n hE dX4_type_62 2 rfl ?_
            refine g_iconst hE dX4_type_63 1 (by decide) ?_
            refine g_isub hE dX4_type_64 ?_
            refine g_istore hE dX4_type_65 [(4, .int (y - 1)), (0, .ref (a 0)), (1, .long x), (3, .int y)] (by decide) rfl ?_
            have L67 : ∀ (n_67 : Nat) (j : Nat) (z : Int32), (j ≤ nn) → (z = nI (nn - j) - 1) → (nn - j + 1 < n_67) → Go E Q 5 0 0 67 [(0, .ref (a 0)), (1, .long x), (3, .int y), (4, .int z)] [] (loftW cI cS a m v w (seS T C li ap va le) (tpS (tyA B L x nn j) (L + j) P F) sh kf) := by
              intro n_67
              induction n_67 with
              | zero => intro j z hj hz hm_67; exact absurd hm_67 (Nat.not_lt_zero _)
              | succ n_67 ih_67 =>
                intro j z hj hz hm_67
                refine g_iload hE dX4_type_67 3 rfl ?_
                refine g_if_lt hE 91 dX4_type_69 (by decide) (fun c7 => ?_) (fun c7 => ?_)
                · refine g_aload_n hE dX4_type_91 0 rfl ?_
                  refine g_get hE fl_X4_36 dX4_type_92 0 rfl rfl ?_
                  refine g_get hE fl_X4_108 dX4_type_95 34 rfl rfl ?_
                  exact g_iret hE hQ dX4_type_98 rfl ((nI (L + j)), (tyA B L x nn j), (L + j)) rfl rfl ⟨by rw [fgType, if_pos c3, if_pos (by rw [← hnnc, show nn = i by omega]; exact hok), if_pos (by omega), ← hnnc, show nn = j from (ty_neg hz (by omega) c7)], (show L + j ≤ 120 by omega)⟩
                · have hr := ty_pos hz (by omega) c7
                  refine g_aload_n hE dX4_type_72 0 rfl ?_
                  refine g_get hE fl_X4_36 dX4_type_73 0 rfl rfl ?_
                  refine g_lload_n hE dX4_type_76 1 rfl ?_
                  refine g_iload hE dX4_type_77 3 rfl ?_
                  refine g_callS hE (c_X4_byteOf cI cS x z) mk_X4_byteOf st_X4_byteOf ml_X4_104 dX4_type_79 (As := [.long x, .int z]) (rest := [.ref (a 34)]) rfl rfl (by decide) (by decide) (Nat.le_of_ble_eq_true rfl) (by decide) (by decide) [] rfl (by decide) (fun u => Nat.le_of_ble_eq_true rfl) (ws' := fun u => loftW cI cS a m v w (seS T C li ap va le) (tpS (tyA B L x nn j) (L + j) P F) sh kf) (fun u => rfl) (fun u hu => ?_)
                  obtain ⟨r_8, rfl⟩ : ∃ z, z = u := ⟨_, rfl⟩
                  have h9 : r_8 = ((x >>> ((8 * z : Int32).toInt64 &&& 63)).toInt32 &&& 255) := hu
                  subst h9
                  show Go E Q 5 0 0 82 [(0, .ref (a 0)), (1, .long x), (3, .int y), (4, .int z)] [.int ((x >>> ((8 * z : Int32).toInt64 &&& 63)).toInt32 &&& 255), .ref (a 34)] (loftW cI cS a m v w (seS T C li ap va le) (tpS (tyA B L x nn j) (L + j) P F) sh kf)
                  refine g_callV hE (c_X3_append cI cS (fun i => a (i + 34)) (tyA B L x nn j) (L + j) P F (by omega) ((x >>> ((8 * z : Int32).toInt64 &&& 63)).toInt32 &&& 255) (by omega)) mk_X3_append mv_X3_append ml_X4_111 dX4_type_82 (As := [.int ((x >>> ((8 * z : Int32).toInt64 &&& 63)).toInt32 &&& 255)]) (rest := []) rfl rfl 34 rfl (show vwCl[3]? = some (RX3, TX3, 4) from rfl) (by decide) (by decide) (Nat.le_of_ble_eq_true rfl) (by decide) (by decide) [34, 35] rfl (by decide) (fun u => Nat.le_of_ble_eq_true rfl) (ws' := fun u => loftW cI cS a m v w (seS T C li ap va le) (tpS (upd (tyA B L x nn j) (L + j) ((x >>> ((8 * z : Int32).toInt64 &&& 63)).toInt32 &&& 255)) ((L + j) + 1) P F) sh kf) (fun u => rfl) (fun u hu => ?_)
                  show Go E Q 5 0 0 85 [(0, .ref (a 0)), (1, .long x), (3, .int y), (4, .int z)] [] (loftW cI cS a m v w (seS T C li ap va le) (tpS (upd (tyA B L x nn j) (L + j) ((x >>> ((8 * z : Int32).toInt64 &&& 63)).toInt32 &&& 255)) ((L + j) + 1) P F) sh kf)
                  refine g_iinc hE dX4_type_85 3 (z + (-1)) [(4, .int (z + (-1))), (0, .ref (a 0)), (1, .long x), (3, .int y)] rfl rfl (by decide) rfl ?_
                  refine g_world (loftW cI cS a m v w (seS T C li ap va le) (tpS (tyA B L x nn (j + 1)) (L + (j + 1)) P F) sh kf) (by rw [ty_s hz hr]; rfl) ?_
                  refine g_goto hE 67 dX4_type_88 (by decide) ?_
                  refine g_locals [1, 2, 3, 0] [(0, .ref (a 0)), (1, .long x), (3, .int y), (4, .int (z + (-1)))] rfl ?_
                  exact ih_67 (j + 1) (z + (-1)) (by omega) (ty_dec hz (by omega)) (by omega)
            refine g_locals [1, 2, 3, 0] [(0, .ref (a 0)), (1, .long x), (3, .int y), (4, .int (y - 1))] rfl ?_
            exact L67 _ 0 (y - 1) (Nat.zero_le _) (by rw [hnn]; rfl) (Nat.lt_succ_self _)
          · have kc6 := nat_le_f (show (nI L) = nI L from rfl) (show (nI (120 - nn)) = nI (120 - nn) from rfl) (by omega) (by omega) c6
            refine g_bipush hE dX4_type_59 (-3) (by decide) ?_
            exact g_iret hE hQ dX4_type_61 rfl (-3, B, L) rfl rfl ⟨by rw [fgType, if_pos c3, if_pos (by rw [← hnnc, show nn = i by omega]; exact hok), if_neg (by omega)], hL⟩
        · have kc5 := nat_le_f (show y = nI nn from hnn) (show (nI i) = nI i from rfl) (by omega) (by omega) c5
          refine g_lload_n hE dX4_type_21 1 rfl ?_
          refine g_iload hE dX4_type_22 3 rfl ?_
          refine g_callS hE (c_X4_byteOf cI cS x (nI i)) mk_X4_byteOf st_X4_byteOf ml_X4_104 dX4_type_24 (As := [.long x, .int (nI i)]) (rest := []) rfl rfl (by decide) (by decide) (Nat.le_of_ble_eq_true rfl) (by decide) (by decide) [] rfl (by decide) (fun u => Nat.le_of_ble_eq_true rfl) (ws' := fun u => loftW cI cS a m v w (seS T C li ap va le) (tpS B L P F) sh kf) (fun u => rfl) (fun u hu => ?_)
          obtain ⟨r_11, rfl⟩ : ∃ z, z = u := ⟨_, rfl⟩
          have h12 : r_11 = ((x >>> ((8 * (nI i) : Int32).toInt64 &&& 63)).toInt32 &&& 255) := hu
          subst h12
          show Go E Q 5 0 0 27 [(0, .ref (a 0)), (1, .long x), (3, .int y), (4, .int (nI i))] [.int ((x >>> ((8 * (nI i) : Int32).toInt64 &&& 63)).toInt32 &&& 255)] (loftW cI cS a m v w (seS T C li ap va le) (tpS B L P F) sh kf)
          refine g_bipush hE dX4_type_27 32 (by decide) ?_
          refine g_bipush hE dX4_type_29 126 (by decide) ?_
          refine g_callS hE (c_X4_within cI cS ((x >>> ((8 * (nI i) : Int32).toInt64 &&& 63)).toInt32 &&& 255) 32 126) mk_X4_within st_X4_within ml_X4_47 dX4_type_31 (As := [.int ((x >>> ((8 * (nI i) : Int32).toInt64 &&& 63)).toInt32 &&& 255), .int 32, .int 126]) (rest := []) rfl rfl (by decide) (by decide) (Nat.le_of_ble_eq_true rfl) (by decide) (by decide) [] rfl (by decide) (fun u => Nat.le_of_ble_eq_true rfl) (ws' := fun u => loftW cI cS a m v w (seS T C li ap va le) (tpS B L P F) sh kf) (fun u => rfl) (fun u hu => ?_)
          obtain ⟨r_13, rfl⟩ : ∃ z, z = u := ⟨_, rfl⟩
          have h14 : r_13 = if 32 ≤ ((x >>> ((8 * (nI i) : Int32).toInt64 &&& 63)).toInt32 &&& 255) ∧ ((x >>> ((8 * (nI i) : Int32).toInt64 &&& 63)).toInt32 &&& 255) ≤ 126 then 1 else 0 := hu
          by_cases c15 : 32 ≤ ((x >>> ((8 * (nI i) : Int32).toInt64 &&& 63)).toInt32 &&& 255) ∧ ((x >>> ((8 * (nI i) : Int32).toInt64 &&& 63)).toInt32 &&& 255) ≤ 126
          · rw [if_pos c15] at h14
            subst h14
            show Go E Q 5 0 0 34 [(0, .ref (a 0)), (1, .long x), (3, .int y), (4, .int (nI i))] [.int 1] (loftW cI cS a m v w (seS T C li ap va le) (tpS B L P F) sh kf)
            refine g_if_ne hE 39 dX4_type_34 (by decide) (fun c16 => ?_) (fun c16 => absurd c16 (by decide))
            refine g_iinc hE dX4_type_39 3 (nI (i + 1)) [(4, .int (nI (i + 1))), (0, .ref (a 0)), (1, .long x), (3, .int y)] rfl (nI_1 _) (by decide) rfl ?_
            refine g_goto hE 15 dX4_type_42 (by decide) ?_
            refine g_locals [1, 2, 3, 0] [(0, .ref (a 0)), (1, .long x), (3, .int y), (4, .int (nI (i + 1)))] rfl ?_
            exact ih_15 (i + 1) (by first | assumption | omega) (tyO_y hok (by assumption)) (by omega)
          · rw [if_neg c15] at h14
            subst h14
            show Go E Q 5 0 0 34 [(0, .ref (a 0)), (1, .long x), (3, .int y), (4, .int (nI i))] [.int 0] (loftW cI cS a m v w (seS T C li ap va le) (tpS B L P F) sh kf)
            refine g_if_ne hE 39 dX4_type_34 (by decide) (fun c17 => absurd (by decide) c17) (fun c17 => ?_)
            refine g_iconst hE dX4_type_37 (-1) (by decide) ?_
            exact g_iret hE hQ dX4_type_38 rfl (-1, B, L) rfl rfl ⟨by rw [fgType, if_pos c3, if_neg (by rw [← hnnc]; exact tyO_no (show i < nn by omega) (by assumption))], hL⟩
    refine g_locals [1, 2, 3, 0] [(0, .ref (a 0)), (1, .long x), (3, .int y), (4, .int 0)] rfl ?_
    exact L15 _ 0 (Nat.zero_le _) rfl (Nat.lt_succ_self _)
  · rw [if_neg c3] at h2
    subst h2
    show Go E Q 5 0 0 7 [(0, .ref (a 0)), (1, .long x), (3, .int y)] [.int 0] (loftW cI cS a m v w (seS T C li ap va le) (tpS B L P F) sh kf)
    refine g_if_ne hE 12 dX4_type_7 (by decide) (fun c18 => absurd (by decide) c18) (fun c18 => ?_)
    refine g_iconst hE dX4_type_10 (-1) (by decide) ?_
    exact g_iret hE hQ dX4_type_11 rfl (-1, B, L) rfl rfl ⟨by rw [fgType, if_neg c3], hL⟩
set_option maxHeartbeats 4000000 in
set_option maxRecDepth 100000 in
theorem c_X4_lasts (cI cS : ClassId) (a : Nat → Nat) (m v w : Nat → Nat → Int32) (T C : Nat → Int32) (li ap va le : Int32) (B : Nat → Int32) (L P : Nat) (F : Int32) (sh : Nat → Nat → Nat → Int32) (kf : Int32) {n sv pl n1 sv1 pl1 n2 sv2 pl2 : Nat} (hM : MW m n sv pl) (hV : MW v n1 sv1 pl1) (hW : MW w n2 sv2 pl2) (hL : L ≤ 120) : CT cI cS yX4_lasts cX4_lasts 2 (some .int) 5 [.ref (a 0)] (loftW cI cS a m v w (seS T C li ap va le) (tpS B L P F) sh kf) 0 0 (fun u : Int32 × (Nat → Int32) × (Nat → Nat → Int32) => u.1 = laR m n pl 200 0 ∧ MW u.2.2 n sv pl) (fun u => some (.int u.1)) (fun u => (loftW cI cS a (pA m 8 u.2.1) u.2.2 w (seS T C li ap va le) (tpS B L P F) sh kf)) := by
  refine ct_intro (by decide) (Nat.le_of_ble_eq_true rfl) (fun E Q hE hQ hI => ?_)
  have hE : CxOk E cI cS RX4 cX4_lasts 2 (some .int) 5 0 0 := hE
  show Go E Q 2 0 0 0 [(0, .ref (a 0))] [] (loftW cI cS a m v w (seS T C li ap va le) (tpS B L P F) sh kf)
  have hn := hM.1
  have hn6 := hM.2.1
  have hsv := hM.2.2.1
  have hsv8 := hM.2.2.2.1
  have hpl := hM.2.2.2.2.1
  have hpl6 := hM.2.2.2.2.2
  have hn1 := hV.1
  have hn16 := hV.2.1
  have hsv1 := hV.2.2.1
  have hsv18 := hV.2.2.2.1
  have hpl1 := hV.2.2.2.2.1
  have hpl16 := hV.2.2.2.2.2
  refine g_aload_n hE dX4_lasts_0 0 rfl ?_
  refine g_get hE fl_X4_10 dX4_lasts_1 0 rfl rfl ?_
  refine g_callV hE (c_X0_spread cI cS (fun i => a (i + 1)) m (by first | assumption | exact mw_of (by assumption))) mk_X0_spread mv_X0_spread ml_X4_158 dX4_lasts_4 (As := []) (rest := []) rfl rfl 1 rfl (show vwCl[0]? = some (RX0, TX0, 13) from rfl) (by decide) (by decide) (Nat.le_of_ble_eq_true rfl) (by decide) (by decide) [1, 2, 3, 4, 5, 6, 7, 8, 9, 10] rfl (by decide) (fun u => Nat.le_of_ble_eq_true rfl) (ws' := fun u => loftW cI cS a (pA m 8 u) v w (seS T C li ap va le) (tpS B L P F) sh kf) (fun u => rfl) (fun u hu => ?_)
  obtain ⟨h_1, rfl⟩ : ∃ z, z = u := ⟨_, rfl⟩
  have h2 : ∀ j, j ≤ pl → h_1 j = nI (hpS m n (m 7) pl j) := hu
  show Go E Q 2 0 0 7 [(0, .ref (a 0))] [] (loftW cI cS a (pA m 8 h_1) v w (seS T C li ap va le) (tpS B L P F) sh kf)
  refine g_aload_n hE dX4_lasts_7 0 rfl ?_
  refine g_get hE fl_X4_16 dX4_lasts_8 0 rfl rfl ?_
  refine g_aload_n hE dX4_lasts_11 0 rfl ?_
  refine g_get hE fl_X4_10 dX4_lasts_12 0 rfl rfl ?_
  refine g_callV hE (c_X0_takeAll_s cI cS (fun i => a (i + 11)) (fun i => a (i + 1)) v (pA m 8 h_1)) mk_X0_takeAll mv_X0_takeAll ml_X4_187 dX4_lasts_15 (As := [.ref (a 1)]) (rest := []) rfl rfl 11 rfl (show vwCl[0]? = some (RX0, TX0, 13) from rfl) (by decide) (by decide) (Nat.le_of_ble_eq_true rfl) (by decide) (by decide) [1, 2, 3, 4, 5, 6, 7, 8, 9, 10, 11, 12, 13, 14, 15, 16, 17, 18, 19, 20] rfl (by decide) (fun u => Nat.le_of_ble_eq_true rfl) (ws' := fun u => loftW cI cS a (pA m 8 h_1) (tkA v (pA m 8 h_1)) w (seS T C li ap va le) (tpS B L P F) sh kf) (fun u => rfl) (fun u hu => ?_)
  show Go E Q 2 0 0 18 [(0, .ref (a 0))] [] (loftW cI cS a (pA m 8 h_1) (tkA v (pA m 8 h_1)) w (seS T C li ap va le) (tpS B L P F) sh kf)
  refine g_iconst hE dX4_lasts_18 0 (by decide) ?_
  refine g_istore_n hE dX4_lasts_19 [(1, .int 0), (0, .ref (a 0))] rfl (by decide) rfl ?_
  have L20 : ∀ (n_20 : Nat) (t : Nat) (vv : Nat → Nat → Int32), (t ≤ 200) → (MW vv n sv pl) → (EqM vv (laM m n pl t)) → (laR m n pl 200 0 = laR m n pl (200 - t) t) → (200 - t < n_20) → Go E Q 2 0 0 20 [(0, .ref (a 0)), (1, .int (nI t))] [] (loftW cI cS a (pA m 8 h_1) vv w (seS T C li ap va le) (tpS B L P F) sh kf) := by
    intro n_20
    induction n_20 with
    | zero => intro t vv ht hVV hE1 hq hm_20; exact absurd hm_20 (Nat.not_lt_zero _)
    | succ n_20 ih_20 =>
      intro t vv ht hVV hE1 hq hm_20
      refine g_iload_n hE dX4_lasts_20 1 rfl ?_
      refine g_sipush hE dX4_lasts_21 200 (by decide) ?_
      refine g_icmp_ge hE 71 dX4_lasts_24 (by decide) (fun c4 => ?_) (fun c4 => ?_)
      · have kc4 := nat_le_t (show 200 = nI 200 from rfl) (show (nI t) = nI t from rfl) (by omega) (by omega) c4
        refine g_sipush hE dX4_lasts_71 200 (by decide) ?_
        exact g_iret hE hQ dX4_lasts_74 rfl (200, h_1, vv) rfl rfl ⟨by rw [hq, show 200 - t = 0 by omega]; rfl, hVV⟩
      · have kc4 := nat_le_f (show 200 = nI 200 from rfl) (show (nI t) = nI t from rfl) (by omega) (by omega) c4
        refine g_aload_n hE dX4_lasts_27 0 rfl ?_
        refine g_get hE fl_X4_16 dX4_lasts_28 0 rfl rfl ?_
        refine g_callV hE (c_X0_spread cI cS (fun i => a (i + 11)) vv (by first | assumption | exact mw_of (by assumption))) mk_X0_spread mv_X0_spread ml_X4_158 dX4_lasts_31 (As := []) (rest := []) rfl rfl 11 rfl (show vwCl[0]? = some (RX0, TX0, 13) from rfl) (by decide) (by decide) (Nat.le_of_ble_eq_true rfl) (by decide) (by decide) [11, 12, 13, 14, 15, 16, 17, 18, 19, 20] rfl (by decide) (fun u => Nat.le_of_ble_eq_true rfl) (ws' := fun u => loftW cI cS a (pA m 8 h_1) (pA vv 8 u) w (seS T C li ap va le) (tpS B L P F) sh kf) (fun u => rfl) (fun u hu => ?_)
        obtain ⟨h_5, rfl⟩ : ∃ z, z = u := ⟨_, rfl⟩
        have h6 : ∀ j, j ≤ pl → h_5 j = nI (hpS vv n (vv 7) pl j) := hu
        show Go E Q 2 0 0 34 [(0, .ref (a 0)), (1, .int (nI t))] [] (loftW cI cS a (pA m 8 h_1) (pA vv 8 h_5) w (seS T C li ap va le) (tpS B L P F) sh kf)
        refine g_aload_n hE dX4_lasts_34 0 rfl ?_
        refine g_callV hE (c_X4_sameHeaps cI cS a (pA m 8 h_1) (pA vv 8 h_5) w T C li ap va le B L P F sh kf (by first | assumption | exact mw_of (by assumption)) (by first | assumption | exact mw_of (by assumption)) (by first | assumption | exact mw_of (by assumption)) hL) mk_X4_sameHeaps mv_X4_sameHeaps ml_X4_190 dX4_lasts_35 (As := []) (rest := []) rfl rfl 0 rfl (show vwCl[4]? = some (RX4, TX4, 7) from rfl) (by decide) (by decide) (Nat.le_of_ble_eq_true rfl) (by decide) (by decide) [0, 1, 2, 3, 4, 5, 6, 7, 8, 9, 10, 11, 12, 13, 14, 15, 16, 17, 18, 19, 20, 21, 22, 23, 24, 25, 26, 27, 28, 29, 30, 31, 32, 33, 34, 35, 36, 37, 38, 39, 40, 41, 42, 43, 44] rfl (by decide) (fun u => Nat.le_of_ble_eq_true rfl) (ws' := fun u => loftW cI cS a (pA m 8 h_1) (pA vv 8 h_5) w (seS T C li ap va le) (tpS B L P F) sh kf) (fun u => rfl) (fun u hu => ?_)
        obtain ⟨r_7, rfl⟩ : ∃ z, z = u := ⟨_, rfl⟩
        have h8 : r_7 = if sameB (pA m 8 h_1) (pA vv 8 h_5) (pl + 1) = true then 1 else 0 := hu
        by_cases c9 : sameB (pA m 8 h_1) (pA vv 8 h_5) (pl + 1) = true
        · rw [if_pos c9] at h8
          subst h8
          show Go E Q 2 0 0 38 [(0, .ref (a 0)), (1, .int (nI t))] [.int 1] (loftW cI cS a (pA m 8 h_1) (pA vv 8 h_5) w (seS T C li ap va le) (tpS B L P F) sh kf)
          refine g_if_ne hE 43 dX4_lasts_38 (by decide) (fun c10 => ?_) (fun c10 => absurd c10 (by decide))
          refine g_aload_n hE dX4_lasts_43 0 rfl ?_
          refine g_get hE fl_X4_16 dX4_lasts_44 0 rfl rfl ?_
          refine g_aload_n hE dX4_lasts_47 0 rfl ?_
          refine g_get hE fl_X4_16 dX4_lasts_48 0 rfl rfl ?_
          refine g_get hE fl_X4_170 dX4_lasts_51 11 rfl rfl ?_
          refine g_aload_n hE dX4_lasts_54 0 rfl ?_
          refine g_get hE fl_X4_16 dX4_lasts_55 0 rfl rfl ?_
          refine g_get hE fl_X4_125 dX4_lasts_58 11 rfl rfl ?_
          refine g_callV hE (c_X0_shakeThrough cI cS (fun i => a (i + 11)) (pA vv 8 h_5) (by first | assumption | exact mw_of (by assumption)) (vv 9 2) pl (show (vv 9 2) = nI pl from hVV.2.2.2.2.1) (by omega)) mk_X0_shakeThrough mv_X0_shakeThrough ml_X4_184 dX4_lasts_61 (As := [.ref (a 19), .int (vv 9 2)]) (rest := []) rfl rfl 11 rfl (show vwCl[0]? = some (RX0, TX0, 13) from rfl) (by decide) (by decide) (Nat.le_of_ble_eq_true rfl) (by decide) (by decide) [11, 12, 13, 14, 15, 16, 17, 18, 19, 20] rfl (by decide) (fun u => Nat.le_of_ble_eq_true rfl) (ws' := fun u => loftW cI cS a (pA m 8 h_1) (shM (pA vv 8 h_5) n ((pA vv 8 h_5) 7) pl) w (seS T C li ap va le) (tpS B L P F) sh kf) (fun u => rfl) (fun u hu => ?_)
          obtain ⟨r_11, rfl⟩ : ∃ z, z = u := ⟨_, rfl⟩
          have h12 : r_11 = (shV (pA vv 8 h_5) n ((pA vv 8 h_5) 7) pl) := hu
          subst h12
          show Go E Q 2 0 0 64 [(0, .ref (a 0)), (1, .int (nI t))] [.int (shV (pA vv 8 h_5) n ((pA vv 8 h_5) 7) pl)] (loftW cI cS a (pA m 8 h_1) (shM (pA vv 8 h_5) n ((pA vv 8 h_5) 7) pl) w (seS T C li ap va le) (tpS B L P F) sh kf)
          refine g_pop hE dX4_lasts_64 rfl ?_
          refine g_iinc hE dX4_lasts_65 1 (nI (t + 1)) [(1, .int (nI (t + 1))), (0, .ref (a 0))] rfl (nI_1 _) (by decide) rfl ?_
          refine g_goto hE 20 dX4_lasts_68 (by decide) ?_
          refine g_locals [1, 0] [(0, .ref (a 0)), (1, .int (nI (t + 1)))] rfl ?_
          exact ih_20 (t + 1) (shM (pA vv 8 h_5) n ((pA vv 8 h_5) 7) pl) (by first | assumption | omega) (MW_shM (shM_pA hVV)) (EqM_sh hVV hM hE1) (hq.trans (la_y (by omega) (la_same hE1 hVV h2 h6 c9))) (by omega)
        · rw [if_neg c9] at h8
          subst h8
          show Go E Q 2 0 0 38 [(0, .ref (a 0)), (1, .int (nI t))] [.int 0] (loftW cI cS a (pA m 8 h_1) (pA vv 8 h_5) w (seS T C li ap va le) (tpS B L P F) sh kf)
          refine g_if_ne hE 43 dX4_lasts_38 (by decide) (fun c13 => absurd (by decide) c13) (fun c13 => ?_)
          refine g_iload_n hE dX4_lasts_41 1 rfl ?_
          exact g_iret hE hQ dX4_lasts_42 rfl ((nI t), h_1, (pA vv 8 h_5)) rfl rfl ⟨(hq.trans (la_n (by omega) (la_diff hE1 hVV h2 h6 c9))).symm, hVV⟩
  refine g_locals [1, 0] [(0, .ref (a 0)), (1, .int 0)] rfl ?_
  exact L20 _ 0 (tkA v (pA m 8 h_1)) (Nat.zero_le _) (MW_tk (shM_pA hM)) EqM_tk8 rfl (Nat.lt_succ_self _)
