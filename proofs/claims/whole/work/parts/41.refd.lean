/-! the reference reads a grain, a loft, a heap -/
theorem rd3 (f : Nat → Int32) (b : Nat) (x y z : Int32) : upd (upd (upd f b x) (b + 1) y) (b + 2) z b = x ∧ upd (upd (upd f b x) (b + 1) y) (b + 2) z (b + 1) = y ∧ upd (upd (upd f b x) (b + 1) y) (b + 2) z (b + 2) = z :=
  ⟨(if_neg (by omega)).trans ((if_neg (by omega)).trans (if_pos rfl)), (if_neg (by omega)).trans (if_pos rfl), if_pos rfl⟩
def gG3 (B : Nat → Int32) (L P : Nat) : Int32 := opF B L (nuP B L P) 42 (fun p => nuF B L p (nuF B L P (-1) 1 60) 0 9999) (nuF B L P (-1) 1 60)
def gP3 (B : Nat → Int32) (L P : Nat) : Nat := opP B L (nuP B L P) 42 (nuP B L)
def gz3 (B : Nat → Int32) (L P : Nat) : Int32 := opV B L (nuP B L P) 42 (nuV B L) 1
def gG4 (B : Nat → Int32) (L P : Nat) : Int32 := opF B L (gP3 B L P) 36 (fun p => nuF B L p (gG3 B L P) 0 99) (gG3 B L P)
def gP4 (B : Nat → Int32) (L P : Nat) : Nat := opP B L (gP3 B L P) 36 (nuP B L)
def gw4 (B : Nat → Int32) (L P : Nat) : Int32 := opV B L (gP3 B L P) 36 (nuV B L) 0
def GrOk (B : Nat → Int32) (L P X : Nat) (rd : Nat → Int32) (b : Nat) : Prop := gG4 B L P = -1 ∧ X = gP4 B L P ∧ (rd b = nuV B L P ∧ rd (b + 1) = gz3 B L P ∧ rd (b + 2) = gw4 B L P) ∧ (1 ≤ rd b ∧ rd b ≤ 60 ∧ 0 ≤ rd (b + 1) ∧ rd (b + 1) ≤ 9999 ∧ 0 ≤ rd (b + 2) ∧ rd (b + 2) ≤ 99)
def GrNo (B : Nat → Int32) (L P X : Nat) : Prop := ¬ gG4 B L P < 0 ∧ nI (sk B L X) = gG4 B L P
theorem gG4_k {B : Nat → Int32} {L P : Nat} (h : ¬ gG3 B L P < 0) : gG4 B L P = gG3 B L P := opF_c (fun p => nuF_k h)
theorem gr_b {B : Nat → Int32} {L P : Nat} (hP : P ≤ L) (hL : L ≤ 120) (h : rnV B L P 1 60 < 0) : GrNo B L P (rnP B L P 1 60) := by
  obtain ⟨r1, r2, n⟩ := rn_no hP hL (by decide) h
  have e3 : gG3 B L P = nI (sk B L P) := by unfold gG3; rw [r1]; exact opF_c (fun p => nuF_k n)
  have e4 := gG4_k (B := B) (L := L) (P := P) (by rw [e3]; exact n)
  rw [GrNo, e4, e3, r2, sk_idem]
  exact ⟨n, rfl⟩
theorem gr_m {B : Nat → Int32} {L P : Nat} (hP : P ≤ L) (hL : L ≤ 120) (h1 : ¬ rnV B L P 1 60 < 0) : gG3 B L P = opF B L (rnP B L P 1 60) 42 (fun p => nuF B L p (-1) 0 9999) (-1) ∧ gP3 B L P = opP B L (rnP B L P 1 60) 42 (nuP B L) ∧ gz3 B L P = opV B L (rnP B L P 1 60) 42 (nuV B L) 1 ∧ rnV B L P 1 60 = nuV B L P ∧ 1 ≤ rnV B L P 1 60 ∧ rnV B L P 1 60 ≤ 60 := by
  obtain ⟨r1, r2, r3, r4⟩ := rn_ok hP hL h1
  unfold gG3 gP3 gz3
  rw [r1, r3, r2]
  exact ⟨rfl, rfl, rfl, rfl, r4⟩
theorem gr_c {B : Nat → Int32} {L P P3 : Nat} {z3 : Int32} (hP : P ≤ L) (hL : L ≤ 120) (h1 : ¬ rnV B L P 1 60 < 0) (hz3 : z3 = opV B L (rnP B L P 1 60) 42 (fun p => rnV B L p 0 9999) 1) (hP3 : P3 = opP B L (rnP B L P 1 60) 42 (fun p => rnP B L p 0 9999)) (h : z3 < 0) : GrNo B L P P3 := by
  obtain ⟨m1, m2, m3, m4⟩ := gr_m hP hL h1
  obtain ⟨o1, n⟩ := op_no (rnP_le hP) hL (by decide) (by decide) (by decide) hz3 hP3 h
  have e3 := m1.trans o1
  have e4 := gG4_k (B := B) (L := L) (P := P) (by rw [e3]; exact n)
  rw [GrNo, e4, e3]
  exact ⟨n, rfl⟩
theorem gr_3 {B : Nat → Int32} {L P P3 : Nat} {z3 : Int32} (hP : P ≤ L) (hL : L ≤ 120) (h1 : ¬ rnV B L P 1 60 < 0) (hz3 : z3 = opV B L (rnP B L P 1 60) 42 (fun p => rnV B L p 0 9999) 1) (hP3 : P3 = opP B L (rnP B L P 1 60) 42 (fun p => rnP B L p 0 9999)) (h : ¬ z3 < 0) : gG3 B L P = -1 ∧ gP3 B L P = P3 ∧ z3 = gz3 B L P ∧ 0 ≤ z3 ∧ z3 ≤ 9999 := by
  obtain ⟨m1, m2, m3, m4⟩ := gr_m hP hL h1
  obtain ⟨o1, o2, o3, o4⟩ := op_ok (rnP_le hP) hL (by decide) hz3 hP3 h
  refine ⟨m1.trans o1, m2.trans o3.symm, o2.trans m3.symm, ?_⟩
  rcases o4 with e | e
  · rw [e]; decide
  · exact e
theorem gr_d {B : Nat → Int32} {L P P3 P4 : Nat} {z3 w4 : Int32} (hP : P ≤ L) (hL : L ≤ 120) (hP3L : P3 ≤ L) (h1 : ¬ rnV B L P 1 60 < 0) (hz3 : z3 = opV B L (rnP B L P 1 60) 42 (fun p => rnV B L p 0 9999) 1) (hP3 : P3 = opP B L (rnP B L P 1 60) 42 (fun p => rnP B L p 0 9999)) (h : ¬ z3 < 0)
    (hw4 : w4 = opV B L P3 36 (fun p => rnV B L p 0 99) 0) (hP4 : P4 = opP B L P3 36 (fun p => rnP B L p 0 99)) (hw : w4 < 0) : GrNo B L P P4 := by
  obtain ⟨e3, p3, -⟩ := gr_3 hP hL h1 hz3 hP3 h
  obtain ⟨o1, n⟩ := op_no hP3L hL (by decide) (by decide) (by decide) hw4 hP4 hw
  have e4 : gG4 B L P = nI (sk B L P4) := by rw [gG4, p3, e3]; exact o1
  rw [GrNo, e4]
  exact ⟨n, rfl⟩
theorem gr_e {B : Nat → Int32} {L P P3 P4 b : Nat} {z3 w4 : Int32} {rd : Nat → Int32} (hP : P ≤ L) (hL : L ≤ 120) (hP3L : P3 ≤ L) (h1 : ¬ rnV B L P 1 60 < 0) (hz3 : z3 = opV B L (rnP B L P 1 60) 42 (fun p => rnV B L p 0 9999) 1) (hP3 : P3 = opP B L (rnP B L P 1 60) 42 (fun p => rnP B L p 0 9999)) (h : ¬ z3 < 0)
    (hw4 : w4 = opV B L P3 36 (fun p => rnV B L p 0 99) 0) (hP4 : P4 = opP B L P3 36 (fun p => rnP B L p 0 99)) (hw : ¬ w4 < 0) (hr : rd b = rnV B L P 1 60 ∧ rd (b + 1) = z3 ∧ rd (b + 2) = w4) : GrOk B L P P4 rd b := by
  obtain ⟨e3, p3, v3, g3⟩ := gr_3 hP hL h1 hz3 hP3 h
  obtain ⟨-, -, -, m4, g1⟩ := gr_m hP hL h1
  obtain ⟨o1, o2, o3, o4⟩ := op_ok hP3L hL (by decide) hw4 hP4 hw
  obtain ⟨r1, r2, r3⟩ := hr
  have g4 : 0 ≤ w4 ∧ w4 ≤ 99 := by
    rcases o4 with e | e
    · rw [e]; decide
    · exact e
  refine ⟨?_, ?_, ⟨r1.trans m4, r2.trans v3, ?_⟩, ?_⟩
  · rw [gG4, p3, e3]; exact o1
  · rw [gP4, p3]; exact o3
  · rw [r3, gw4, p3]; exact o2
  · rw [r1, r2, r3]
    exact ⟨g1.1, g1.2, g3.1, g3.2, g4.1, g4.2⟩
theorem mo_end {B : Nat → Int32} {L X k most : Nat} (h : ¬ bt B L (sk B L X) = 44 ∨ k + 1 = most) : moV B L X (-1) (k + 1) most = 0 ∧ sk B L (moP B L X (-1) (k + 1) most) = sk B L X := by
  unfold moV moP
  by_cases e : (-1 : Int32) < 0 ∧ k + 1 < most
  · have h := h.resolve_right (by omega)
    rw [if_pos e, if_pos e, if_neg h, if_neg h]
    exact ⟨rfl, sk_idem _ _ _⟩
  · rw [if_neg e, if_neg e]
    exact ⟨rfl, rfl⟩
theorem bt_neg {B : Nat → Int32} {L q : Nat} (hB : ∀ j, j < L → 0 ≤ B j) (h : bt B L q < 0) : bt B L q = -1 := by
  unfold bt at h ⊢
  by_cases e : q < L
  · rw [if_pos e] at h
    exact absurd h (Int32.not_lt.mpr (hB q e))
  · rw [if_neg e]
def SVv (vv : Nat → Nat → Int32) (rd : Nat → Int32) (k : Nat) : Prop := ∀ s, s < k → (vv 3 s = rd (4 * s) ∧ vv 4 s = rd (4 * s + 1) ∧ vv 5 s = rd (4 * s + 2) ∧ vv 6 s = rd (4 * s + 3)) ∧ (0 ≤ rd (4 * s) ∧ rd (4 * s) ≤ 3 ∧ 1 ≤ rd (4 * s + 1) ∧ rd (4 * s + 1) ≤ 60 ∧ 1 ≤ rd (4 * s + 2) ∧ rd (4 * s + 2) ≤ 99999 ∧ 0 ≤ rd (4 * s + 3) ∧ rd (4 * s + 3) ≤ 3)
theorem ra1_r {B : Nat → Int32} {L P k : Nat} {vv : Nat → Nat → Int32} (hk : k < 8) : rlS B L (8 - k) 1 k P (-1) vv = rlS B L (8 - (k + 1)) (moV B L (lP4 B L P) (lG4 B L P) (k + 1) 8) (k + 1) (moP B L (lP4 B L P) (lG4 B L P) (k + 1) 8) (lG4 B L P) (addV vv k (kdV B L P) (nuV B L (kdP B L P)) (lz3 B L P) (lw4 B L P)) :=
  rl_s (z3 := lz3 B L P) (P3 := lP3 B L P) (G3 := lG3 B L P) (w4 := lw4 B L P) (P4 := lP4 B L P) (G4 := lG4 B L P) hk (by decide) rfl rfl rfl rfl rfl rfl rfl rfl
theorem ra1_no {B : Nat → Int32} {L P X k : Nat} {vv : Nat → Nat → Int32} {R : Nat × Int32 × (Nat → Nat → Int32)} (hs : R = rlS B L (8 - k) 1 k P (-1) vv) (hk : k < 8) (hno : SvNo B L P X) : ¬ enF B L R.1 R.2.1 < 0 ∧ nI (sk B L X) = enF B L R.1 R.2.1 := by
  have m0 : moV B L (lP4 B L P) (lG4 B L P) (k + 1) 8 = 0 := if_neg (fun z => hno.1 z.1)
  rw [ra1_r hk, m0, rl_0 rfl] at hs
  have e : enF B L R.1 R.2.1 = lG4 B L P := by
    rw [hs]
    show enF B L (moP B L (lP4 B L P) (lG4 B L P) (k + 1) 8) (lG4 B L P) = lG4 B L P
    rw [enF, blk hno.1, ite_self]
  rw [e]
  exact hno
theorem ra1_ok {B : Nat → Int32} {L P X k : Nat} {vv : Nat → Nat → Int32} {rd : Nat → Int32} {R : Nat × Int32 × (Nat → Nat → Int32)} (hs : R = rlS B L (8 - k) 1 k P (-1) vv) (hk : k < 8) (hok : SvOk B L P X rd (4 * k)) : R = rlS B L (8 - (k + 1)) (moV B L X (-1) (k + 1) 8) (k + 1) (moP B L X (-1) (k + 1) 8) (-1) (addV vv k (rd (4 * k)) (rd (4 * k + 1)) (rd (4 * k + 2)) (rd (4 * k + 3))) := by
  obtain ⟨h1, h2, h3, -⟩ := hok
  rw [hs, ra1_r hk, h1, ← h2, h3.1, h3.2.1, h3.2.2.1, h3.2.2.2]
theorem ra1_z {B : Nat → Int32} {L P X k : Nat} {vv : Nat → Nat → Int32} {rd : Nat → Int32} {R : Nat × Int32 × (Nat → Nat → Int32)} (hs : R = rlS B L (8 - k) 1 k P (-1) vv) (hk : k < 8) (hok : SvOk B L P X rd (4 * k)) (h : ¬ bt B L (sk B L X) = 44 ∨ k + 1 = 8) : R.2.2 = addV vv k (rd (4 * k)) (rd (4 * k + 1)) (rd (4 * k + 2)) (rd (4 * k + 3)) ∧ enF B L R.1 R.2.1 = if bt B L (sk B L X) = -1 then -1 else nI (sk B L X) := by
  have hs := ra1_ok hs hk hok
  obtain ⟨e1, e2⟩ := mo_end h
  rw [e1, rl_0 rfl] at hs
  rw [hs]
  refine ⟨rfl, ?_⟩
  show enF B L (moP B L X (-1) (k + 1) 8) (-1) = _
  rw [enF, e2, bl_1]
theorem ra1_n {B : Nat → Int32} {L P X k : Nat} {vv : Nat → Nat → Int32} {rd : Nat → Int32} {R : Nat × Int32 × (Nat → Nat → Int32)} (hs : R = rlS B L (8 - k) 1 k P (-1) vv) (hk : k < 8) (hok : SvOk B L P X rd (4 * k)) (hX : X ≤ L) (hL : L ≤ 120) (hc : ¬ bt B L (sk B L X) < 0) (h : ¬ bt B L (sk B L X) = 44 ∨ k + 1 = 8) : ¬ enF B L R.1 R.2.1 < 0 ∧ nI (sk B L (sk B L X)) = enF B L R.1 R.2.1 := by
  rw [(ra1_z hs hk hok h).2, if_neg (fun e => hc (by rw [e]; decide)), sk_idem]
  exact ⟨nI_nneg (by have := sk_le (B := B) hX; omega), rfl⟩
theorem ra1_sv {B : Nat → Int32} {L P X k : Nat} {vv : Nat → Nat → Int32} {rd rd2 : Nat → Int32} (hSV : SVv vv rd2 k) (hok : SvOk B L P X rd (4 * k)) (hfr : ∀ j, j < 4 * k → rd j = rd2 j) : SVv (addV vv k (rd (4 * k)) (rd (4 * k + 1)) (rd (4 * k + 2)) (rd (4 * k + 3))) rd (k + 1) := by
  intro s hs
  by_cases e : s = k
  · subst e
    exact ⟨⟨upd_at _ _ _, upd_at _ _ _, upd_at _ _ _, upd_at _ _ _⟩, hok.2.2.2⟩
  · have := hSV s (by omega)
    rw [← hfr (4 * s) (by omega), ← hfr (4 * s + 1) (by omega), ← hfr (4 * s + 2) (by omega), ← hfr (4 * s + 3) (by omega), show vv 3 s = addV vv k (rd (4 * k)) (rd (4 * k + 1)) (rd (4 * k + 2)) (rd (4 * k + 3)) 3 s from (if_neg e).symm, show vv 4 s = addV vv k (rd (4 * k)) (rd (4 * k + 1)) (rd (4 * k + 2)) (rd (4 * k + 3)) 4 s from (if_neg e).symm, show vv 5 s = addV vv k (rd (4 * k)) (rd (4 * k + 1)) (rd (4 * k + 2)) (rd (4 * k + 3)) 5 s from (if_neg e).symm, show vv 6 s = addV vv k (rd (4 * k)) (rd (4 * k + 1)) (rd (4 * k + 2)) (rd (4 * k + 3)) 6 s from (if_neg e).symm] at this
    exact this
theorem ra1_y {B : Nat → Int32} {L P X k : Nat} {vv : Nat → Nat → Int32} {rd rd2 : Nat → Int32} {R : Nat × Int32 × (Nat → Nat → Int32)} (hs : R = rlS B L (8 - k) 1 k P (-1) vv) (hk : k < 8) (hok : SvOk B L P X rd (4 * k)) (hB : ∀ j, j < L → 0 ≤ B j) (hc : bt B L (sk B L X) < 0) (hSV : SVv vv rd2 k) (hfr : ∀ j, j < 4 * k → rd j = rd2 j) : enF B L R.1 R.2.1 < 0 ∧ ∃ j, j ≤ 8 ∧ nI (k + 1) = nI j ∧ R.2.2 9 1 = nI j ∧ SVv R.2.2 rd j := by
  have e1 := bt_neg hB hc
  obtain ⟨z1, z2⟩ := ra1_z hs hk hok (Or.inl (by rw [e1]; decide))
  rw [z1, z2, if_pos e1]
  exact ⟨by decide, k + 1, hk, rfl, rfl, ra1_sv hSV hok hfr⟩
theorem ra1_s {B : Nat → Int32} {L P X k : Nat} {vv : Nat → Nat → Int32} {rd : Nat → Int32} {R : Nat × Int32 × (Nat → Nat → Int32)} (hs : R = rlS B L (8 - k) 1 k P (-1) vv) (hk : k < 8) (hok : SvOk B L P X rd (4 * k)) (hc : bt B L (sk B L X) = 44) (hk2 : k + 1 < 8) : R = rlS B L (8 - (k + 1)) 1 (k + 1) (sk B L X + 1) (-1) (addV vv k (rd (4 * k)) (rd (4 * k + 1)) (rd (4 * k + 2)) (rd (4 * k + 3))) := by
  rw [ra1_ok hs hk hok, moV, moP, if_pos (show (-1 : Int32) < 0 ∧ k + 1 < 8 from ⟨by decide, hk2⟩), if_pos (show (-1 : Int32) < 0 ∧ k + 1 < 8 from ⟨by decide, hk2⟩), if_pos hc, if_pos hc]
def GVv (vv : Nat → Nat → Int32) (rd : Nat → Int32) (k : Nat) : Prop := ∀ s, s < k → (vv 0 s = rd (3 * s) ∧ vv 1 s = rd (3 * s + 1) ∧ vv 2 s = rd (3 * s + 2)) ∧ (1 ≤ rd (3 * s) ∧ rd (3 * s) ≤ 60 ∧ 0 ≤ rd (3 * s + 1) ∧ rd (3 * s + 1) ≤ 9999 ∧ 0 ≤ rd (3 * s + 2) ∧ rd (3 * s + 2) ≤ 99)
theorem ra0_r {B : Nat → Int32} {L P k : Nat} {vv : Nat → Nat → Int32} (hk : k < 6) : rhS B L (6 - k) 1 k P (-1) vv = rhS B L (6 - (k + 1)) (moV B L (gP4 B L P) (gG4 B L P) (k + 1) 6) (k + 1) (moP B L (gP4 B L P) (gG4 B L P) (k + 1) 6) (gG4 B L P) (addG vv k (nuV B L P) (gz3 B L P) (gw4 B L P)) :=
  rh_s (z3 := gz3 B L P) (P3 := gP3 B L P) (G3 := gG3 B L P) (w4 := gw4 B L P) (P4 := gP4 B L P) (G4 := gG4 B L P) hk (by decide) rfl rfl rfl rfl rfl rfl rfl rfl
theorem ra0_no {B : Nat → Int32} {L P X k : Nat} {vv : Nat → Nat → Int32} {R : Nat × Int32 × (Nat → Nat → Int32)} (hs : R = rhS B L (6 - k) 1 k P (-1) vv) (hk : k < 6) (hno : GrNo B L P X) : ¬ enF B L R.1 R.2.1 < 0 ∧ nI (sk B L X) = enF B L R.1 R.2.1 := by
  have m0 : moV B L (gP4 B L P) (gG4 B L P) (k + 1) 6 = 0 := if_neg (fun z => hno.1 z.1)
  rw [ra0_r hk, m0, rh_0 rfl] at hs
  have e : enF B L R.1 R.2.1 = gG4 B L P := by
    rw [hs]
    show enF B L (moP B L (gP4 B L P) (gG4 B L P) (k + 1) 6) (gG4 B L P) = gG4 B L P
    rw [enF, blk hno.1, ite_self]
  rw [e]
  exact hno
theorem ra0_ok {B : Nat → Int32} {L P X k : Nat} {vv : Nat → Nat → Int32} {rd : Nat → Int32} {R : Nat × Int32 × (Nat → Nat → Int32)} (hs : R = rhS B L (6 - k) 1 k P (-1) vv) (hk : k < 6) (hok : GrOk B L P X rd (3 * k)) : R = rhS B L (6 - (k + 1)) (moV B L X (-1) (k + 1) 6) (k + 1) (moP B L X (-1) (k + 1) 6) (-1) (addG vv k (rd (3 * k)) (rd (3 * k + 1)) (rd (3 * k + 2))) := by
  obtain ⟨h1, h2, h3, -⟩ := hok
  rw [hs, ra0_r hk, h1, ← h2, h3.1, h3.2.1, h3.2.2]
theorem ra0_z {B : Nat → Int32} {L P X k : Nat} {vv : Nat → Nat → Int32} {rd : Nat → Int32} {R : Nat × Int32 × (Nat → Nat → Int32)} (hs : R = rhS B L (6 - k) 1 k P (-1) vv) (hk : k < 6) (hok : GrOk B L P X rd (3 * k)) (h : ¬ bt B L (sk B L X) = 44 ∨ k + 1 = 6) : R.2.2 = addG vv k (rd (3 * k)) (rd (3 * k + 1)) (rd (3 * k + 2)) ∧ enF B L R.1 R.2.1 = if bt B L (sk B L X) = -1 then -1 else nI (sk B L X) := by
  have hs := ra0_ok hs hk hok
  obtain ⟨e1, e2⟩ := mo_end h
  rw [e1, rh_0 rfl] at hs
  rw [hs]
  refine ⟨rfl, ?_⟩
  show enF B L (moP B L X (-1) (k + 1) 6) (-1) = _
  rw [enF, e2, bl_1]
theorem ra0_n {B : Nat → Int32} {L P X k : Nat} {vv : Nat → Nat → Int32} {rd : Nat → Int32} {R : Nat × Int32 × (Nat → Nat → Int32)} (hs : R = rhS B L (6 - k) 1 k P (-1) vv) (hk : k < 6) (hok : GrOk B L P X rd (3 * k)) (hX : X ≤ L) (hL : L ≤ 120) (hc : ¬ bt B L (sk B L X) < 0) (h : ¬ bt B L (sk B L X) = 44 ∨ k + 1 = 6) : ¬ enF B L R.1 R.2.1 < 0 ∧ nI (sk B L (sk B L X)) = enF B L R.1 R.2.1 := by
  rw [(ra0_z hs hk hok h).2, if_neg (fun e => hc (by rw [e]; decide)), sk_idem]
  exact ⟨nI_nneg (by have := sk_le (B := B) hX; omega), rfl⟩
theorem ra0_sv {B : Nat → Int32} {L P X k : Nat} {vv : Nat → Nat → Int32} {rd rd2 : Nat → Int32} (hSV : GVv vv rd2 k) (hok : GrOk B L P X rd (3 * k)) (hfr : ∀ j, j < 3 * k → rd j = rd2 j) : GVv (addG vv k (rd (3 * k)) (rd (3 * k + 1)) (rd (3 * k + 2))) rd (k + 1) := by
  intro s hs
  by_cases e : s = k
  · subst e
    exact ⟨⟨upd_at _ _ _, upd_at _ _ _, upd_at _ _ _⟩, hok.2.2.2⟩
  · have := hSV s (by omega)
    rw [← hfr (3 * s) (by omega), ← hfr (3 * s + 1) (by omega), ← hfr (3 * s + 2) (by omega), show vv 0 s = addG vv k (rd (3 * k)) (rd (3 * k + 1)) (rd (3 * k + 2)) 0 s from (if_neg e).symm, show vv 1 s = addG vv k (rd (3 * k)) (rd (3 * k + 1)) (rd (3 * k + 2)) 1 s from (if_neg e).symm, show vv 2 s = addG vv k (rd (3 * k)) (rd (3 * k + 1)) (rd (3 * k + 2)) 2 s from (if_neg e).symm] at this
    exact this
theorem ra0_y {B : Nat → Int32} {L P X k : Nat} {vv : Nat → Nat → Int32} {rd rd2 : Nat → Int32} {R : Nat × Int32 × (Nat → Nat → Int32)} (hs : R = rhS B L (6 - k) 1 k P (-1) vv) (hk : k < 6) (hok : GrOk B L P X rd (3 * k)) (hB : ∀ j, j < L → 0 ≤ B j) (hc : bt B L (sk B L X) < 0) (hSV : GVv vv rd2 k) (hfr : ∀ j, j < 3 * k → rd j = rd2 j) : enF B L R.1 R.2.1 < 0 ∧ ∃ j, j ≤ 6 ∧ nI (k + 1) = nI j ∧ R.2.2 9 0 = nI j ∧ GVv R.2.2 rd j := by
  have e1 := bt_neg hB hc
  obtain ⟨z1, z2⟩ := ra0_z hs hk hok (Or.inl (by rw [e1]; decide))
  rw [z1, z2, if_pos e1]
  exact ⟨by decide, k + 1, hk, rfl, rfl, ra0_sv hSV hok hfr⟩
theorem ra0_s {B : Nat → Int32} {L P X k : Nat} {vv : Nat → Nat → Int32} {rd : Nat → Int32} {R : Nat × Int32 × (Nat → Nat → Int32)} (hs : R = rhS B L (6 - k) 1 k P (-1) vv) (hk : k < 6) (hok : GrOk B L P X rd (3 * k)) (hc : bt B L (sk B L X) = 44) (hk2 : k + 1 < 6) : R = rhS B L (6 - (k + 1)) 1 (k + 1) (sk B L X + 1) (-1) (addG vv k (rd (3 * k)) (rd (3 * k + 1)) (rd (3 * k + 2))) := by
  rw [ra0_ok hs hk hok, moV, moP, if_pos (show (-1 : Int32) < 0 ∧ k + 1 < 6 from ⟨by decide, hk2⟩), if_pos (show (-1 : Int32) < 0 ∧ k + 1 < 6 from ⟨by decide, hk2⟩), if_pos hc, if_pos hc]
set_option maxHeartbeats 4000000 in
set_option maxRecDepth 100000 in
theorem c_X5_readGrain (cI cS : ClassId) (a : Nat → Nat) (q : Nat → Nat → Int32) {L P : Nat} (htp : q 18 4 = nI L) (hL : L ≤ 120) (hpc : q 18 5 = nI P) (hP : P ≤ L) {b : Nat} (x : Int32) (hx : x = nI b) (hb : b + 3 ≤ 32) : CT cI cS yX5_readGrain cX5_readGrain 2 (some .boolean) 2 [.ref (a 0), .int x] (modelW cI a q) 0 0 (fun u : Int32 × Nat × (Nat → Int32) => ((u.1 = 1 ∧ GrOk (q 5) L P u.2.1 u.2.2 b) ∨ (u.1 = 0 ∧ GrNo (q 5) L P u.2.1)) ∧ u.2.1 ≤ L ∧ ∀ j, j < b → u.2.2 j = q 6 j) (fun u => some (.int u.1)) (fun u => (modelW cI a (pA (pA q 6 u.2.2) 18 (upd (q 18) 5 (nI u.2.1))))) := by
  refine ct_intro (by decide) (Nat.le_of_ble_eq_true rfl) (fun E Q hE hQ hI => ?_)
  have hE : CxOk E cI cS RX5 cX5_readGrain 2 (some .boolean) 2 0 0 := hE
  show Go E Q 2 0 0 0 [(0, .ref (a 0)), (1, .int x)] [] (modelW cI a q)
  refine g_world (modelW cI a (pA q 18 (upd (q 18) 5 (nI P)))) (congrArg (modelW cI a) (pl_w hpc)) ?_
  refine g_aload_n hE dX5_readGrain_0 0 rfl ?_
  refine g_get hE fl_X5_28 dX5_readGrain_1 0 rfl rfl ?_
  refine g_iload_n hE dX5_readGrain_4 1 rfl ?_
  refine g_aload_n hE dX5_readGrain_5 0 rfl ?_
  refine g_iconst hE dX5_readGrain_6 1 (by decide) ?_
  refine g_bipush hE dX5_readGrain_7 60 (by decide) ?_
  refine g_callV hE (c_X5_readNumber cI cS a (pA q 18 (upd (q 18) 5 (nI P))) htp hL rfl hP 1 60 (by decide)) mk_X5_readNumber mv_X5_readNumber ml_X5_131 dX5_readGrain_9 (As := [.int 1, .int 60]) (rest := [.int x, .ref (a 7)]) rfl rfl 0 rfl (show vwCl[5]? = some (RX5, TX5, 32) from rfl) (by decide) (by decide) (Nat.le_of_ble_eq_true rfl) (by decide) (by decide) [0, 1, 2, 3, 4, 5, 6, 7, 8, 9, 10, 11, 12, 13, 14, 15, 16, 17, 18] rfl (by decide) (fun u => Nat.le_of_ble_eq_true rfl) (ws' := fun u => modelW cI a (pA q 18 (upd (q 18) 5 (nI (rnP (q 5) L P 1 60))))) (fun u => rfl) (fun u hu => ?_)
  obtain ⟨r_1, rfl⟩ : ∃ z, z = u := ⟨_, rfl⟩
  have h2 : r_1 = (rnV (q 5) L P 1 60) := hu
  subst h2
  show Go E Q 2 0 0 12 [(0, .ref (a 0)), (1, .int x)] [.int (rnV (q 5) L P 1 60), .int x, .ref (a 7)] (modelW cI a (pA q 18 (upd (q 18) 5 (nI (rnP (q 5) L P 1 60)))))
  refine g_iast_n hE dX5_readGrain_12 7 rfl (show x = nI b from hx) (by omega) (modelW cI a (pA (pA q 6 (upd (q 6) b (rnV (q 5) L P 1 60))) 18 (upd (q 18) 5 (nI (rnP (q 5) L P 1 60))))) rfl ?_
  refine g_aload_n hE dX5_readGrain_13 0 rfl ?_
  refine g_get hE fl_X5_28 dX5_readGrain_14 0 rfl rfl ?_
  refine g_iload_n hE dX5_readGrain_17 1 rfl ?_
  refine g_iald_n hE dX5_readGrain_18 7 rfl (show x = nI b from hx) (by omega) ?_
  show Go E Q 2 0 0 19 [(0, .ref (a 0)), (1, .int x)] [.int ((upd (q 6) b (rnV (q 5) L P 1 60)) b)] (modelW cI a (pA (pA q 6 (upd (q 6) b (rnV (q 5) L P 1 60))) 18 (upd (q 18) 5 (nI (rnP (q 5) L P 1 60)))))
  rw [show ((upd (q 6) b (rnV (q 5) L P 1 60)) b) = (rnV (q 5) L P 1 60) from upd_at _ _ _]
  refine g_if_ge hE 24 dX5_readGrain_19 (by decide) (fun c3 => ?_) (fun c3 => ?_)
  · have hv1 : ¬ (rnV (q 5) L P 1 60) < 0 := (show ¬ (rnV (q 5) L P 1 60) < 0 from (Int32.not_lt.mpr c3))
    refine g_aload_n hE dX5_readGrain_24 0 rfl ?_
    refine g_get hE fl_X5_28 dX5_readGrain_25 0 rfl rfl ?_
    refine g_iload_n hE dX5_readGrain_28 1 rfl ?_
    refine g_iconst hE dX5_readGrain_29 1 (by decide) ?_
    refine g_iadd_n hE dX5_readGrain_30 hx (show 1 = nI 1 from rfl) ?_
    have L52 : ∀ (z3 : Int32) (P3 : Nat), (P3 ≤ L) → (z3 = opV (q 5) L (rnP (q 5) L P 1 60) 42 (fun p => rnV (q 5) L p 0 9999) 1) → (P3 = opP (q 5) L (rnP (q 5) L P 1 60) 42 (fun p => rnP (q 5) L p 0 9999)) → Go E Q 2 0 0 52 [(0, .ref (a 0)), (1, .int x)] [.int z3, .int (nI (b + 1)), .ref (a 7)] (modelW cI a (pA (pA q 6 (upd (q 6) b (rnV (q 5) L P 1 60))) 18 (upd (q 18) 5 (nI P3)))) := by
      intro z3 P3 hP3L hz3 hP3
      refine g_iast_n hE dX5_readGrain_52 7 rfl (show (nI (b + 1)) = nI (b + 1) from rfl) (by omega) (modelW cI a (pA (pA q 6 (upd (upd (q 6) b (rnV (q 5) L P 1 60)) (b + 1) z3)) 18 (upd (q 18) 5 (nI P3)))) rfl ?_
      refine g_aload_n hE dX5_readGrain_53 0 rfl ?_
      refine g_get hE fl_X5_28 dX5_readGrain_54 0 rfl rfl ?_
      refine g_iload_n hE dX5_readGrain_57 1 rfl ?_
      refine g_iconst hE dX5_readGrain_58 1 (by decide) ?_
      refine g_iadd_n hE dX5_readGrain_59 hx (show 1 = nI 1 from rfl) ?_
      refine g_iald_n hE dX5_readGrain_60 7 rfl (show (nI (b + 1)) = nI (b + 1) from rfl) (by omega) ?_
      show Go E Q 2 0 0 61 [(0, .ref (a 0)), (1, .int x)] [.int ((upd (upd (q 6) b (rnV (q 5) L P 1 60)) (b + 1) z3) (b + 1))] (modelW cI a (pA (pA q 6 (upd (upd (q 6) b (rnV (q 5) L P 1 60)) (b + 1) z3)) 18 (upd (q 18) 5 (nI P3))))
      rw [show ((upd (upd (q 6) b (rnV (q 5) L P 1 60)) (b + 1) z3) (b + 1)) = z3 from upd_at _ _ _]
      refine g_if_ge hE 66 dX5_readGrain_61 (by decide) (fun c4 => ?_) (fun c4 => ?_)
      · have hv3 : ¬ z3 < 0 := (show ¬ z3 < 0 from (Int32.not_lt.mpr c4))
        refine g_aload_n hE dX5_readGrain_66 0 rfl ?_
        refine g_get hE fl_X5_28 dX5_readGrain_67 0 rfl rfl ?_
        refine g_iload_n hE dX5_readGrain_70 1 rfl ?_
        refine g_iconst hE dX5_readGrain_71 2 (by decide) ?_
        refine g_iadd_n hE dX5_readGrain_72 hx (show 2 = nI 2 from rfl) ?_
        have L93 : ∀ (w4 : Int32) (P4 : Nat), (P4 ≤ L) → (w4 = opV (q 5) L P3 36 (fun p => rnV (q 5) L p 0 99) 0) → (P4 = opP (q 5) L P3 36 (fun p => rnP (q 5) L p 0 99)) → Go E Q 2 0 0 93 [(0, .ref (a 0)), (1, .int x)] [.int w4, .int (nI (b + 2)), .ref (a 7)] (modelW cI a (pA (pA q 6 (upd (upd (q 6) b (rnV (q 5) L P 1 60)) (b + 1) z3)) 18 (upd (q 18) 5 (nI P4)))) := by
          intro w4 P4 hP4L hw4 hP4
          refine g_iast_n hE dX5_readGrain_93 7 rfl (show (nI (b + 2)) = nI (b + 2) from rfl) (by omega) (modelW cI a (pA (pA q 6 (upd (upd (upd (q 6) b (rnV (q 5) L P 1 60)) (b + 1) z3) (b + 2) w4)) 18 (upd (q 18) 5 (nI P4)))) rfl ?_
          refine g_aload_n hE dX5_readGrain_94 0 rfl ?_
          refine g_get hE fl_X5_28 dX5_readGrain_95 0 rfl rfl ?_
          refine g_iload_n hE dX5_readGrain_98 1 rfl ?_
          refine g_iconst hE dX5_readGrain_99 2 (by decide) ?_
          refine g_iadd_n hE dX5_readGrain_100 hx (show 2 = nI 2 from rfl) ?_
          refine g_iald_n hE dX5_readGrain_101 7 rfl (show (nI (b + 2)) = nI (b + 2) from rfl) (by omega) ?_
          show Go E Q 2 0 0 102 [(0, .ref (a 0)), (1, .int x)] [.int ((upd (upd (upd (q 6) b (rnV (q 5) L P 1 60)) (b + 1) z3) (b + 2) w4) (b + 2))] (modelW cI a (pA (pA q 6 (upd (upd (upd (q 6) b (rnV (q 5) L P 1 60)) (b + 1) z3) (b + 2) w4)) 18 (upd (q 18) 5 (nI P4))))
          rw [show ((upd (upd (upd (q 6) b (rnV (q 5) L P 1 60)) (b + 1) z3) (b + 2) w4) (b + 2)) = w4 from upd_at _ _ _]
          refine g_if_lt hE 109 dX5_readGrain_102 (by decide) (fun c5 => ?_) (fun c5 => ?_)
          · refine g_iconst hE dX5_readGrain_109 0 (by decide) ?_
            exact g_iret hE hQ dX5_readGrain_110 (by first | rfl | decide) (0, P4, (upd (upd (upd (q 6) b (rnV (q 5) L P 1 60)) (b + 1) z3) (b + 2) w4)) rfl rfl ⟨Or.inr ⟨rfl, gr_d hP hL hP3L hv1 hz3 hP3 hv3 hw4 hP4 (show w4 < 0 from c5)⟩, hP4L, fun j hj => fr3 hj⟩
          · refine g_iconst hE dX5_readGrain_105 1 (by decide) ?_
            refine g_goto hE 110 dX5_readGrain_106 (by decide) ?_
            exact g_iret hE hQ dX5_readGrain_110 (by first | rfl | decide) (1, P4, (upd (upd (upd (q 6) b (rnV (q 5) L P 1 60)) (b + 1) z3) (b + 2) w4)) rfl rfl ⟨Or.inl ⟨rfl, gr_e hP hL hP3L hv1 hz3 hP3 hv3 hw4 hP4 (show ¬ w4 < 0 from c5) (rd3 _ _ _ _ _)⟩, hP4L, fun j hj => fr3 hj⟩
        refine g_aload_n hE dX5_readGrain_73 0 rfl ?_
        refine g_bipush hE dX5_readGrain_74 36 (by decide) ?_
        refine g_callV hE (c_X5_takes cI cS a (pA (pA q 6 (upd (upd (q 6) b (rnV (q 5) L P 1 60)) (b + 1) z3)) 18 (upd (q 18) 5 (nI P3))) htp hL rfl hP3L 36) mk_X5_takes mv_X5_takes ml_X5_135 dX5_readGrain_76 (As := [.int 36]) (rest := [.int (nI (b + 2)), .ref (a 7)]) rfl rfl 0 rfl (show vwCl[5]? = some (RX5, TX5, 32) from rfl) (by decide) (by decide) (Nat.le_of_ble_eq_true rfl) (by decide) (by decide) [0, 1, 2, 3, 4, 5, 6, 7, 8, 9, 10, 11, 12, 13, 14, 15, 16, 17, 18] rfl (by decide) (fun u => Nat.le_of_ble_eq_true rfl) (ws' := fun u => modelW cI a (pA (pA q 6 (upd (upd (q 6) b (rnV (q 5) L P 1 60)) (b + 1) z3)) 18 (upd (q 18) 5 (nI (psP (q 5) L P3 36))))) (fun u => rfl) (fun u hu => ?_)
        obtain ⟨r_6, rfl⟩ : ∃ z, z = u := ⟨_, rfl⟩
        have h7 : r_6 = if bt (q 5) L (sk (q 5) L P3) = 36 then 1 else 0 := hu
        by_cases c8 : bt (q 5) L (sk (q 5) L P3) = 36
        · rw [if_pos c8] at h7
          subst h7
          refine g_world (modelW cI a (pA (pA q 6 (upd (upd (q 6) b (rnV (q 5) L P 1 60)) (b + 1) z3)) 18 (upd (q 18) 5 (nI ((sk (q 5) L P3) + 1))))) (by rw [psP_y rfl c8]) ?_
          show Go E Q 2 0 0 79 [(0, .ref (a 0)), (1, .int x)] [.int 1, .int (nI (b + 2)), .ref (a 7)] (modelW cI a (pA (pA q 6 (upd (upd (q 6) b (rnV (q 5) L P 1 60)) (b + 1) z3)) 18 (upd (q 18) 5 (nI ((sk (q 5) L P3) + 1)))))
          refine g_if_eq hE 92 dX5_readGrain_79 (by decide) (fun c9 => absurd c9 (by decide)) (fun c9 => ?_)
          refine g_aload_n hE dX5_readGrain_82 0 rfl ?_
          refine g_iconst hE dX5_readGrain_83 0 (by decide) ?_
          refine g_bipush hE dX5_readGrain_84 99 (by decide) ?_
          refine g_callV hE (c_X5_readNumber cI cS a (pA (pA q 6 (upd (upd (q 6) b (rnV (q 5) L P 1 60)) (b + 1) z3)) 18 (upd (q 18) 5 (nI ((sk (q 5) L P3) + 1)))) htp hL rfl (sk_lt_of hP3L (c := 36) (by decide) c8) 0 99 (by decide)) mk_X5_readNumber mv_X5_readNumber ml_X5_131 dX5_readGrain_86 (As := [.int 0, .int 99]) (rest := [.int (nI (b + 2)), .ref (a 7)]) rfl rfl 0 rfl (show vwCl[5]? = some (RX5, TX5, 32) from rfl) (by decide) (by decide) (Nat.le_of_ble_eq_true rfl) (by decide) (by decide) [0, 1, 2, 3, 4, 5, 6, 7, 8, 9, 10, 11, 12, 13, 14, 15, 16, 17, 18] rfl (by decide) (fun u => Nat.le_of_ble_eq_true rfl) (ws' := fun u => modelW cI a (pA (pA q 6 (upd (upd (q 6) b (rnV (q 5) L P 1 60)) (b + 1) z3)) 18 (upd (q 18) 5 (nI (rnP (q 5) L ((sk (q 5) L P3) + 1) 0 99))))) (fun u => rfl) (fun u hu => ?_)
          obtain ⟨r_10, rfl⟩ : ∃ z, z = u := ⟨_, rfl⟩
          have h11 : r_10 = (rnV (q 5) L ((sk (q 5) L P3) + 1) 0 99) := hu
          subst h11
          show Go E Q 2 0 0 89 [(0, .ref (a 0)), (1, .int x)] [.int (rnV (q 5) L ((sk (q 5) L P3) + 1) 0 99), .int (nI (b + 2)), .ref (a 7)] (modelW cI a (pA (pA q 6 (upd (upd (q 6) b (rnV (q 5) L P 1 60)) (b + 1) z3)) 18 (upd (q 18) 5 (nI (rnP (q 5) L ((sk (q 5) L P3) + 1) 0 99)))))
          refine g_goto hE 93 dX5_readGrain_89 (by decide) ?_
          exact L93 (rnV (q 5) L ((sk (q 5) L P3) + 1) 0 99) (rnP (q 5) L ((sk (q 5) L P3) + 1) 0 99) (rnP_le (sk_lt_of hP3L (c := 36) (by decide) c8)) (by rw [opV, if_pos c8]) (by rw [opP, if_pos c8])
        · rw [if_neg c8] at h7
          subst h7
          refine g_world (modelW cI a (pA (pA q 6 (upd (upd (q 6) b (rnV (q 5) L P 1 60)) (b + 1) z3)) 18 (upd (q 18) 5 (nI (sk (q 5) L P3))))) (by rw [psP_n rfl c8]) ?_
          show Go E Q 2 0 0 79 [(0, .ref (a 0)), (1, .int x)] [.int 0, .int (nI (b + 2)), .ref (a 7)] (modelW cI a (pA (pA q 6 (upd (upd (q 6) b (rnV (q 5) L P 1 60)) (b + 1) z3)) 18 (upd (q 18) 5 (nI (sk (q 5) L P3)))))
          refine g_if_eq hE 92 dX5_readGrain_79 (by decide) (fun c12 => ?_) (fun c12 => absurd (by decide) c12)
          refine g_iconst hE dX5_readGrain_92 0 (by decide) ?_
          exact L93 0 (sk (q 5) L P3) (sk_le hP3L) (by rw [opV, if_neg c8]) (by rw [opP, if_neg c8])
      · refine g_iconst hE dX5_readGrain_64 0 (by decide) ?_
        exact g_iret hE hQ dX5_readGrain_65 (by first | rfl | decide) (0, P3, (upd (upd (q 6) b (rnV (q 5) L P 1 60)) (b + 1) z3)) rfl rfl ⟨Or.inr ⟨rfl, gr_c hP hL hv1 hz3 hP3 (show z3 < 0 from (Int32.not_le.mp c4))⟩, hP3L, fun j hj => fr2 hj⟩
    refine g_aload_n hE dX5_readGrain_31 0 rfl ?_
    refine g_bipush hE dX5_readGrain_32 42 (by decide) ?_
    refine g_callV hE (c_X5_takes cI cS a (pA (pA q 6 (upd (q 6) b (rnV (q 5) L P 1 60))) 18 (upd (q 18) 5 (nI (rnP (q 5) L P 1 60)))) htp hL rfl (rnP_le hP) 42) mk_X5_takes mv_X5_takes ml_X5_135 dX5_readGrain_34 (As := [.int 42]) (rest := [.int (nI (b + 1)), .ref (a 7)]) rfl rfl 0 rfl (show vwCl[5]? = some (RX5, TX5, 32) from rfl) (by decide) (by decide) (Nat.le_of_ble_eq_true rfl) (by decide) (by decide) [0, 1, 2, 3, 4, 5, 6, 7, 8, 9, 10, 11, 12, 13, 14, 15, 16, 17, 18] rfl (by decide) (fun u => Nat.le_of_ble_eq_true rfl) (ws' := fun u => modelW cI a (pA (pA q 6 (upd (q 6) b (rnV (q 5) L P 1 60))) 18 (upd (q 18) 5 (nI (psP (q 5) L (rnP (q 5) L P 1 60) 42))))) (fun u => rfl) (fun u hu => ?_)
    obtain ⟨r_13, rfl⟩ : ∃ z, z = u := ⟨_, rfl⟩
    have h14 : r_13 = if bt (q 5) L (sk (q 5) L (rnP (q 5) L P 1 60)) = 42 then 1 else 0 := hu
    by_cases c15 : bt (q 5) L (sk (q 5) L (rnP (q 5) L P 1 60)) = 42
    · rw [if_pos c15] at h14
      subst h14
      refine g_world (modelW cI a (pA (pA q 6 (upd (q 6) b (rnV (q 5) L P 1 60))) 18 (upd (q 18) 5 (nI ((sk (q 5) L (rnP (q 5) L P 1 60)) + 1))))) (by rw [psP_y rfl c15]) ?_
      show Go E Q 2 0 0 37 [(0, .ref (a 0)), (1, .int x)] [.int 1, .int (nI (b + 1)), .ref (a 7)] (modelW cI a (pA (pA q 6 (upd (q 6) b (rnV (q 5) L P 1 60))) 18 (upd (q 18) 5 (nI ((sk (q 5) L (rnP (q 5) L P 1 60)) + 1)))))
      refine g_if_eq hE 51 dX5_readGrain_37 (by decide) (fun c16 => absurd c16 (by decide)) (fun c16 => ?_)
      refine g_aload_n hE dX5_readGrain_40 0 rfl ?_
      refine g_iconst hE dX5_readGrain_41 0 (by decide) ?_
      refine g_sipush hE dX5_readGrain_42 9999 (by decide) ?_
      refine g_callV hE (c_X5_readNumber cI cS a (pA (pA q 6 (upd (q 6) b (rnV (q 5) L P 1 60))) 18 (upd (q 18) 5 (nI ((sk (q 5) L (rnP (q 5) L P 1 60)) + 1)))) htp hL rfl (sk_lt_of (rnP_le hP) (c := 42) (by decide) c15) 0 9999 (by decide)) mk_X5_readNumber mv_X5_readNumber ml_X5_131 dX5_readGrain_45 (As := [.int 0, .int 9999]) (rest := [.int (nI (b + 1)), .ref (a 7)]) rfl rfl 0 rfl (show vwCl[5]? = some (RX5, TX5, 32) from rfl) (by decide) (by decide) (Nat.le_of_ble_eq_true rfl) (by decide) (by decide) [0, 1, 2, 3, 4, 5, 6, 7, 8, 9, 10, 11, 12, 13, 14, 15, 16, 17, 18] rfl (by decide) (fun u => Nat.le_of_ble_eq_true rfl) (ws' := fun u => modelW cI a (pA (pA q 6 (upd (q 6) b (rnV (q 5) L P 1 60))) 18 (upd (q 18) 5 (nI (rnP (q 5) L ((sk (q 5) L (rnP (q 5) L P 1 60)) + 1) 0 9999))))) (fun u => rfl) (fun u hu => ?_)
      obtain ⟨r_17, rfl⟩ : ∃ z, z = u := ⟨_, rfl⟩
      have h18 : r_17 = (rnV (q 5) L ((sk (q 5) L (rnP (q 5) L P 1 60)) + 1) 0 9999) := hu
      subst h18
      show Go E Q 2 0 0 48 [(0, .ref (a 0)), (1, .int x)] [.int (rnV (q 5) L ((sk (q 5) L (rnP (q 5) L P 1 60)) + 1) 0 9999), .int (nI (b + 1)), .ref (a 7)] (modelW cI a (pA (pA q 6 (upd (q 6) b (rnV (q 5) L P 1 60))) 18 (upd (q 18) 5 (nI (rnP (q 5) L ((sk (q 5) L (rnP (q 5) L P 1 60)) + 1) 0 9999)))))
      refine g_goto hE 52 dX5_readGrain_48 (by decide) ?_
      exact L52 (rnV (q 5) L ((sk (q 5) L (rnP (q 5) L P 1 60)) + 1) 0 9999) (rnP (q 5) L ((sk (q 5) L (rnP (q 5) L P 1 60)) + 1) 0 9999) (rnP_le (sk_lt_of (rnP_le hP) (c := 42) (by decide) c15)) (by rw [opV, if_pos c15]) (by rw [opP, if_pos c15])
    · rw [if_neg c15] at h14
      subst h14
      refine g_world (modelW cI a (pA (pA q 6 (upd (q 6) b (rnV (q 5) L P 1 60))) 18 (upd (q 18) 5 (nI (sk (q 5) L (rnP (q 5) L P 1 60)))))) (by rw [psP_n rfl c15]) ?_
      show Go E Q 2 0 0 37 [(0, .ref (a 0)), (1, .int x)] [.int 0, .int (nI (b + 1)), .ref (a 7)] (modelW cI a (pA (pA q 6 (upd (q 6) b (rnV (q 5) L P 1 60))) 18 (upd (q 18) 5 (nI (sk (q 5) L (rnP (q 5) L P 1 60))))))
      refine g_if_eq hE 51 dX5_readGrain_37 (by decide) (fun c19 => ?_) (fun c19 => absurd (by decide) c19)
      refine g_iconst hE dX5_readGrain_51 1 (by decide) ?_
      exact L52 1 (sk (q 5) L (rnP (q 5) L P 1 60)) (sk_le (rnP_le hP)) (by rw [opV, if_neg c15]) (by rw [opP, if_neg c15])
  · refine g_iconst hE dX5_readGrain_22 0 (by decide) ?_
    exact g_iret hE hQ dX5_readGrain_23 (by first | rfl | decide) (0, (rnP (q 5) L P 1 60), (upd (q 6) b (rnV (q 5) L P 1 60))) rfl rfl ⟨Or.inr ⟨rfl, gr_b hP hL (show (rnV (q 5) L P 1 60) < 0 from (Int32.not_le.mp c3))⟩, rnP_le hP, fun j hj => fr1 hj⟩
set_option maxHeartbeats 4000000 in
set_option maxRecDepth 100000 in
theorem c_X5_readAll1 (cI cS : ClassId) (a : Nat → Nat) (q : Nat → Nat → Int32) {L : Nat} (htp : q 18 4 = nI L) (hL : L ≤ 120) (v : MS) (hB : ∀ j, j < L → 0 ≤ q 5 j) : CT cI cS yX5_readAll cX5_readAll 5 (some .boolean) 3 [.ref (a 0), .int 8, .int 1] (modelW cI a q) 0 0 (fun u : Int32 × Nat × (Nat → Int32) × Int32 => ((u.1 = 1 ∧ enF (q 5) L (rlS (q 5) L 8 1 0 0 (-1) (pA v 9 (upd (v 9) 1 0))).1 (rlS (q 5) L 8 1 0 0 (-1) (pA v 9 (upd (v 9) 1 0))).2.1 < 0 ∧ ∃ j, j ≤ 8 ∧ u.2.2.2 = nI j ∧ (rlS (q 5) L 8 1 0 0 (-1) (pA v 9 (upd (v 9) 1 0))).2.2 9 1 = nI j ∧ SVv (rlS (q 5) L 8 1 0 0 (-1) (pA v 9 (upd (v 9) 1 0))).2.2 u.2.2.1 j) ∨ (u.1 = 0 ∧ ¬ enF (q 5) L (rlS (q 5) L 8 1 0 0 (-1) (pA v 9 (upd (v 9) 1 0))).1 (rlS (q 5) L 8 1 0 0 (-1) (pA v 9 (upd (v 9) 1 0))).2.1 < 0 ∧ nI (sk (q 5) L u.2.1) = enF (q 5) L (rlS (q 5) L 8 1 0 0 (-1) (pA v 9 (upd (v 9) 1 0))).1 (rlS (q 5) L 8 1 0 0 (-1) (pA v 9 (upd (v 9) 1 0))).2.1)) ∧ u.2.1 ≤ L) (fun u => some (.int u.1)) (fun u => (modelW cI a (pA (pA q 6 u.2.2.1) 18 (upd (upd (q 18) 5 (nI u.2.1)) 6 u.2.2.2)))) := by
  refine ct_intro (by decide) (Nat.le_of_ble_eq_true rfl) (fun E Q hE hQ hI => ?_)
  have hE : CxOk E cI cS RX5 cX5_readAll 5 (some .boolean) 3 0 0 := hE
  show Go E Q 5 0 0 0 [(0, .ref (a 0)), (1, .int 8), (2, .int 1)] [] (modelW cI a q)
  refine g_aload_n hE dX5_readAll_0 0 rfl ?_
  refine g_iconst hE dX5_readAll_1 0 (by decide) ?_
  refine g_put hE fl_X5_119 fp_5_11 dX5_readAll_2 0 rfl rfl rfl (Nat.le_of_ble_eq_true rfl) (modelW cI a (pA q 18 (upd (q 18) 5 0))) (by rfl) ?_
  refine g_world (modelW cI a (pA (pA q 6 (q 6)) 18 (upd (upd (q 18) 5 (nI 0)) 6 (q 18 6)))) (by rfl) ?_
  refine g_iconst hE dX5_readAll_5 0 (by decide) ?_
  refine g_istore_n hE dX5_readAll_6 [(3, .int 0), (0, .ref (a 0)), (1, .int 8), (2, .int 1)] rfl (by decide) rfl ?_
  have L7 : ∀ (n_7 : Nat) (k : Nat) (P5 : Nat) (rs : Int32) (rd : Nat → Int32) (vv : Nat → Nat → Int32), (k < 8) → (P5 ≤ L) → ((rlS (q 5) L 8 1 0 0 (-1) (pA v 9 (upd (v 9) 1 0))) = rlS (q 5) L (8 - k) 1 k P5 (-1) vv) → (vv 9 1 = nI k) → (SVv vv rd k) → (8 - k < n_7) → Go E Q 5 0 0 7 [(0, .ref (a 0)), (1, .int 8), (2, .int 1), (3, .int (nI k))] [] (modelW cI a (pA (pA q 6 rd) 18 (upd (upd (q 18) 5 (nI P5)) 6 rs))) := by
    intro n_7
    induction n_7 with
    | zero => intro k P5 rs rd vv hk hP5 hs h9 hSV hm_7; exact absurd hm_7 (Nat.not_lt_zero _)
    | succ n_7 ih_7 =>
      intro k P5 rs rd vv hk hP5 hs h9 hSV hm_7
      refine g_iload_n hE dX5_readAll_7 3 rfl ?_
      refine g_iload_n hE dX5_readAll_8 1 rfl ?_
      refine g_icmp_ge hE 93 dX5_readAll_9 (by decide) (fun c1 => ?_) (fun c1 => ?_)
      · have kc1 := nat_le_t (show 8 = nI 8 from rfl) (show (nI k) = nI k from rfl) (by omega) (by omega) c1
        exfalso
        omega
      · have kc1 := nat_le_f (show 8 = nI 8 from rfl) (show (nI k) = nI k from rfl) (by omega) (by omega) c1
        refine g_iload_n hE dX5_readAll_12 2 rfl ?_
        refine g_if_eq hE 29 dX5_readAll_13 (by decide) (fun c2 => absurd c2 (by decide)) (fun c2 => ?_)
        refine g_aload_n hE dX5_readAll_16 0 rfl ?_
        refine g_iconst hE dX5_readAll_17 4 (by decide) ?_
        refine g_iload_n hE dX5_readAll_18 3 rfl ?_
        refine g_imul_n hE dX5_readAll_19 (show 4 = nI 4 from rfl) (show (nI k) = nI k from rfl) ?_
        refine g_callV hE (c_X5_readSieve cI cS a (pA (pA q 6 rd) 18 (upd (upd (q 18) 5 (nI P5)) 6 rs)) htp hL rfl hP5 (nI (4 * k)) (show (nI (4 * k)) = nI (4 * k) from rfl) (by omega)) mk_X5_readSieve mv_X5_readSieve ml_X5_139 dX5_readAll_20 (As := [.int (nI (4 * k))]) (rest := []) rfl rfl 0 rfl (show vwCl[5]? = some (RX5, TX5, 32) from rfl) (by decide) (by decide) (Nat.le_of_ble_eq_true rfl) (by decide) (by decide) [0, 1, 2, 3, 4, 5, 6, 7, 8, 9, 10, 11, 12, 13, 14, 15, 16, 17, 18] rfl (by decide) (fun u => Nat.le_of_ble_eq_true rfl) (ws' := fun u => modelW cI a (pA (pA q 6 u.2.2) 18 (upd (upd (q 18) 5 (nI u.2.1)) 6 rs))) (fun u => rfl) (fun u hu => ?_)
        obtain ⟨r_3, X_4, rd_5⟩ := u
        have h6 : ((r_3 = 1 ∧ SvOk (q 5) L P5 X_4 rd_5 (4 * k)) ∨ (r_3 = 0 ∧ SvNo (q 5) L P5 X_4)) ∧ X_4 ≤ L ∧ ∀ j, j < (4 * k) → rd_5 j = rd j := hu
        obtain ⟨hd, hXl, hfr⟩ := h6
        rcases hd with ⟨hr1, hok⟩ | ⟨hr0, hno⟩
        · subst hr1
          show Go E Q 5 0 0 23 [(0, .ref (a 0)), (1, .int 8), (2, .int 1), (3, .int (nI k))] [.int 1] (modelW cI a (pA (pA q 6 rd_5) 18 (upd (upd (q 18) 5 (nI X_4)) 6 rs)))
          refine g_if_eq hE 39 dX5_readAll_23 (by decide) (fun c7 => absurd c7 (by decide)) (fun c7 => ?_)
          refine g_goto hE 41 dX5_readAll_26 (by decide) ?_
          refine g_aload_n hE dX5_readAll_41 0 rfl ?_
          refine g_iload_n hE dX5_readAll_42 3 rfl ?_
          refine g_iconst hE dX5_readAll_43 1 (by decide) ?_
          refine g_iadd_n hE dX5_readAll_44 (show (nI k) = nI k from rfl) (show 1 = nI 1 from rfl) ?_
          refine g_put hE fl_X5_145 fp_5_12 dX5_readAll_45 0 rfl rfl rfl (Nat.le_of_ble_eq_true rfl) (modelW cI a (pA (pA q 6 rd_5) 18 (upd (upd (q 18) 5 (nI X_4)) 6 (nI (k + 1))))) (by rfl) ?_
          refine g_aload_n hE dX5_readAll_48 0 rfl ?_
          refine g_callV hE (c_X5_nextByte cI cS a (pA (pA q 6 rd_5) 18 (upd (upd (q 18) 5 (nI X_4)) 6 (nI (k + 1)))) htp hL rfl hXl) mk_X5_nextByte mv_X5_nextByte ml_X5_122 dX5_readAll_49 (As := []) (rest := []) rfl rfl 0 rfl (show vwCl[5]? = some (RX5, TX5, 32) from rfl) (by decide) (by decide) (Nat.le_of_ble_eq_true rfl) (by decide) (by decide) [0, 1, 2, 3, 4, 5, 6, 7, 8, 9, 10, 11, 12, 13, 14, 15, 16, 17, 18] rfl (by decide) (fun u => Nat.le_of_ble_eq_true rfl) (ws' := fun u => modelW cI a (pA (pA q 6 rd_5) 18 (upd (upd (q 18) 5 (nI (sk (q 5) L X_4))) 6 (nI (k + 1))))) (fun u => rfl) (fun u hu => ?_)
          obtain ⟨r_8, rfl⟩ : ∃ z, z = u := ⟨_, rfl⟩
          have h9 : r_8 = (bt (q 5) L (sk (q 5) L X_4)) := hu
          subst h9
          show Go E Q 5 0 0 52 [(0, .ref (a 0)), (1, .int 8), (2, .int 1), (3, .int (nI k))] [.int (bt (q 5) L (sk (q 5) L X_4))] (modelW cI a (pA (pA q 6 rd_5) 18 (upd (upd (q 18) 5 (nI (sk (q 5) L X_4))) 6 (nI (k + 1)))))
          refine g_istore hE dX5_readAll_52 [(4, .int (bt (q 5) L (sk (q 5) L X_4))), (0, .ref (a 0)), (1, .int 8), (2, .int 1), (3, .int (nI k))] (by decide) rfl ?_
          refine g_iload hE dX5_readAll_54 0 rfl ?_
          refine g_if_ge hE 61 dX5_readAll_56 (by decide) (fun c10 => ?_) (fun c10 => ?_)
          · refine g_iload hE dX5_readAll_61 0 rfl ?_
            refine g_bipush hE dX5_readAll_63 44 (by decide) ?_
            refine g_icmp_ne hE 75 dX5_readAll_65 (by decide) (fun c11 => ?_) (fun c11 => ?_)
            · refine g_iconst hE dX5_readAll_75 0 (by decide) ?_
              exact g_iret hE hQ dX5_readAll_76 (by first | rfl | decide) (0, (sk (q 5) L X_4), rd_5, (nI (k + 1))) rfl rfl ⟨Or.inr ⟨rfl, ra1_n hs hk hok hXl hL (show ¬ (bt (q 5) L (sk (q 5) L X_4)) < 0 from (Int32.not_lt.mpr c10)) (Or.inl (show ¬ (bt (q 5) L (sk (q 5) L X_4)) = 44 from c11))⟩, sk_le hXl⟩
            · refine g_iload_n hE dX5_readAll_68 4 rfl ?_
              refine g_iload_n hE dX5_readAll_69 2 rfl ?_
              refine g_iconst hE dX5_readAll_70 1 (by decide) ?_
              refine g_isub_n hE dX5_readAll_71 (show 8 = nI 8 from rfl) (show 1 = nI 1 from rfl) (by decide) ?_
              refine g_icmp_ne hE 77 dX5_readAll_72 (by decide) (fun c12 => ?_) (fun c12 => ?_)
              · have kc12 := nat_eq_f (show (nI k) = nI k from rfl) (show (nI (8 - 1)) = nI (8 - 1) from rfl) (by omega) (by omega) c12
                refine g_aload_n hE dX5_readAll_77 1 rfl ?_
                refine g_dup hE dX5_readAll_78 rfl ?_
                refine g_get hE fl_X5_119 dX5_readAll_79 0 rfl rfl ?_
                refine g_iconst hE dX5_readAll_82 1 (by decide) ?_
                refine g_iadd_n hE dX5_readAll_83 (show (nI (sk (q 5) L X_4)) = nI (sk (q 5) L X_4) from rfl) (show 1 = nI 1 from rfl) ?_
                refine g_put hE fl_X5_119 fp_5_11 dX5_readAll_84 0 rfl rfl rfl (Nat.le_of_ble_eq_true rfl) (modelW cI a (pA (pA q 6 rd_5) 18 (upd (upd (q 18) 5 (nI ((sk (q 5) L X_4) + 1))) 6 (nI (k + 1))))) (by rfl) ?_
                refine g_iinc hE dX5_readAll_87 4 (nI (k + 1)) [(3, .int (nI (k + 1))), (4, .int (bt (q 5) L (sk (q 5) L X_4))), (0, .ref (a 0)), (1, .int 8), (2, .int 1)] rfl (nI_1 _) (by decide) rfl ?_
                refine g_goto hE 7 dX5_readAll_90 (by decide) ?_
                refine g_locals [2, 3, 4, 0] [(0, .ref (a 0)), (1, .int 8), (2, .int 1), (3, .int (nI (k + 1)))] rfl ?_
                exact ih_7 (k + 1) ((sk (q 5) L X_4) + 1) (nI (k + 1)) rd_5 _ (by omega) (sk_lt_of hXl (c := 44) (by decide) (show (bt (q 5) L (sk (q 5) L X_4)) = 44 from c11)) (ra1_s hs hk hok (show (bt (q 5) L (sk (q 5) L X_4)) = 44 from c11) (by omega)) rfl (ra1_sv hSV hok hfr) (by omega)
              · have kc12 := nat_eq_t (show (nI k) = nI k from rfl) (show (nI (8 - 1)) = nI (8 - 1) from rfl) (by omega) (by omega) c12
                refine g_iconst hE dX5_readAll_75 0 (by decide) ?_
                exact g_iret hE hQ dX5_readAll_76 (by first | rfl | decide) (0, (sk (q 5) L X_4), rd_5, (nI (k + 1))) rfl rfl ⟨Or.inr ⟨rfl, ra1_n hs hk hok hXl hL (show ¬ (bt (q 5) L (sk (q 5) L X_4)) < 0 from (Int32.not_lt.mpr c10)) (Or.inr (by omega))⟩, sk_le hXl⟩
          · refine g_iconst hE dX5_readAll_59 1 (by decide) ?_
            exact g_iret hE hQ dX5_readAll_60 (by first | rfl | decide) (1, (sk (q 5) L X_4), rd_5, (nI (k + 1))) rfl rfl ⟨Or.inl ⟨rfl, ra1_y hs hk hok hB (show (bt (q 5) L (sk (q 5) L X_4)) < 0 from (Int32.not_le.mp c10)) hSV hfr⟩, sk_le hXl⟩
        · subst hr0
          show Go E Q 5 0 0 23 [(0, .ref (a 0)), (1, .int 8), (2, .int 1), (3, .int (nI k))] [.int 0] (modelW cI a (pA (pA q 6 rd_5) 18 (upd (upd (q 18) 5 (nI X_4)) 6 rs)))
          refine g_if_eq hE 39 dX5_readAll_23 (by decide) (fun c13 => ?_) (fun c13 => absurd (by decide) c13)
          refine g_iconst hE dX5_readAll_39 0 (by decide) ?_
          exact g_iret hE hQ dX5_readAll_40 (by first | rfl | decide) (0, X_4, rd_5, rs) rfl rfl ⟨Or.inr ⟨rfl, ra1_no hs hk hno⟩, hXl⟩
  refine g_locals [1, 2, 3, 0] [(0, .ref (a 0)), (1, .int 8), (2, .int 1), (3, .int 0)] rfl ?_
  exact L7 _ 0 0 (q 18 6) (q 6) (pA v 9 (upd (v 9) 1 0)) (by decide) (Nat.zero_le _) rfl rfl (fun s hs => absurd hs (Nat.not_lt_zero _)) (Nat.lt_succ_self _)
set_option maxHeartbeats 4000000 in
set_option maxRecDepth 100000 in
theorem c_X5_readAll0 (cI cS : ClassId) (a : Nat → Nat) (q : Nat → Nat → Int32) {L : Nat} (htp : q 18 4 = nI L) (hL : L ≤ 120) (v : MS) (hB : ∀ j, j < L → 0 ≤ q 5 j) : CT cI cS yX5_readAll cX5_readAll 5 (some .boolean) 3 [.ref (a 0), .int 6, .int 0] (modelW cI a q) 0 0 (fun u : Int32 × Nat × (Nat → Int32) × Int32 => ((u.1 = 1 ∧ enF (q 5) L (rhS (q 5) L 6 1 0 0 (-1) (pA v 9 (upd (v 9) 0 0))).1 (rhS (q 5) L 6 1 0 0 (-1) (pA v 9 (upd (v 9) 0 0))).2.1 < 0 ∧ ∃ j, j ≤ 6 ∧ u.2.2.2 = nI j ∧ (rhS (q 5) L 6 1 0 0 (-1) (pA v 9 (upd (v 9) 0 0))).2.2 9 0 = nI j ∧ GVv (rhS (q 5) L 6 1 0 0 (-1) (pA v 9 (upd (v 9) 0 0))).2.2 u.2.2.1 j) ∨ (u.1 = 0 ∧ ¬ enF (q 5) L (rhS (q 5) L 6 1 0 0 (-1) (pA v 9 (upd (v 9) 0 0))).1 (rhS (q 5) L 6 1 0 0 (-1) (pA v 9 (upd (v 9) 0 0))).2.1 < 0 ∧ nI (sk (q 5) L u.2.1) = enF (q 5) L (rhS (q 5) L 6 1 0 0 (-1) (pA v 9 (upd (v 9) 0 0))).1 (rhS (q 5) L 6 1 0 0 (-1) (pA v 9 (upd (v 9) 0 0))).2.1)) ∧ u.2.1 ≤ L) (fun u => some (.int u.1)) (fun u => (modelW cI a (pA (pA q 6 u.2.2.1) 18 (upd (upd (q 18) 5 (nI u.2.1)) 6 u.2.2.2)))) := by
  refine ct_intro (by decide) (Nat.le_of_ble_eq_true rfl) (fun E Q hE hQ hI => ?_)
  have hE : CxOk E cI cS RX5 cX5_readAll 5 (some .boolean) 3 0 0 := hE
  show Go E Q 5 0 0 0 [(0, .ref (a 0)), (1, .int 6), (2, .int 0)] [] (modelW cI a q)
  refine g_aload_n hE dX5_readAll_0 0 rfl ?_
  refine g_iconst hE dX5_readAll_1 0 (by decide) ?_
  refine g_put hE fl_X5_119 fp_5_11 dX5_readAll_2 0 rfl rfl rfl (Nat.le_of_ble_eq_true rfl) (modelW cI a (pA q 18 (upd (q 18) 5 0))) (by rfl) ?_
  refine g_world (modelW cI a (pA (pA q 6 (q 6)) 18 (upd (upd (q 18) 5 (nI 0)) 6 (q 18 6)))) (by rfl) ?_
  refine g_iconst hE dX5_readAll_5 0 (by decide) ?_
  refine g_istore_n hE dX5_readAll_6 [(3, .int 0), (0, .ref (a 0)), (1, .int 6), (2, .int 0)] rfl (by decide) rfl ?_
  have L7 : ∀ (n_7 : Nat) (k : Nat) (P5 : Nat) (rs : Int32) (rd : Nat → Int32) (vv : Nat → Nat → Int32), (k < 6) → (P5 ≤ L) → ((rhS (q 5) L 6 1 0 0 (-1) (pA v 9 (upd (v 9) 0 0))) = rhS (q 5) L (6 - k) 1 k P5 (-1) vv) → (vv 9 0 = nI k) → (GVv vv rd k) → (6 - k < n_7) → Go E Q 5 0 0 7 [(0, .ref (a 0)), (1, .int 6), (2, .int 0), (3, .int (nI k))] [] (modelW cI a (pA (pA q 6 rd) 18 (upd (upd (q 18) 5 (nI P5)) 6 rs))) := by
    intro n_7
    induction n_7 with
    | zero => intro k P5 rs rd vv hk hP5 hs h9 hSV hm_7; exact absurd hm_7 (Nat.not_lt_zero _)
    | succ n_7 ih_7 =>
      intro k P5 rs rd vv hk hP5 hs h9 hSV hm_7
      refine g_iload_n hE dX5_readAll_7 3 rfl ?_
      refine g_iload_n hE dX5_readAll_8 1 rfl ?_
      refine g_icmp_ge hE 93 dX5_readAll_9 (by decide) (fun c1 => ?_) (fun c1 => ?_)
      · have kc1 := nat_le_t (show 6 = nI 6 from rfl) (show (nI k) = nI k from rfl) (by omega) (by omega) c1
        exfalso
        omega
      · have kc1 := nat_le_f (show 6 = nI 6 from rfl) (show (nI k) = nI k from rfl) (by omega) (by omega) c1
        refine g_iload_n hE dX5_readAll_12 2 rfl ?_
        refine g_if_eq hE 29 dX5_readAll_13 (by decide) (fun c2 => ?_) (fun c2 => absurd (by decide) c2)
        refine g_aload_n hE dX5_readAll_29 0 rfl ?_
        refine g_iconst hE dX5_readAll_30 3 (by decide) ?_
        refine g_iload_n hE dX5_readAll_31 3 rfl ?_
        refine g_imul_n hE dX5_readAll_32 (show 3 = nI 3 from rfl) (show (nI k) = nI k from rfl) ?_
        refine g_callV hE (c_X5_readGrain cI cS a (pA (pA q 6 rd) 18 (upd (upd (q 18) 5 (nI P5)) 6 rs)) htp hL rfl hP5 (nI (3 * k)) (show (nI (3 * k)) = nI (3 * k) from rfl) (by omega)) mk_X5_readGrain mv_X5_readGrain ml_X5_142 dX5_readAll_33 (As := [.int (nI (3 * k))]) (rest := []) rfl rfl 0 rfl (show vwCl[5]? = some (RX5, TX5, 32) from rfl) (by decide) (by decide) (Nat.le_of_ble_eq_true rfl) (by decide) (by decide) [0, 1, 2, 3, 4, 5, 6, 7, 8, 9, 10, 11, 12, 13, 14, 15, 16, 17, 18] rfl (by decide) (fun u => Nat.le_of_ble_eq_true rfl) (ws' := fun u => modelW cI a (pA (pA q 6 u.2.2) 18 (upd (upd (q 18) 5 (nI u.2.1)) 6 rs))) (fun u => rfl) (fun u hu => ?_)
        obtain ⟨r_3, X_4, rd_5⟩ := u
        have h6 : ((r_3 = 1 ∧ GrOk (q 5) L P5 X_4 rd_5 (3 * k)) ∨ (r_3 = 0 ∧ GrNo (q 5) L P5 X_4)) ∧ X_4 ≤ L ∧ ∀ j, j < (3 * k) → rd_5 j = rd j := hu
        obtain ⟨hd, hXl, hfr⟩ := h6
        rcases hd with ⟨hr1, hok⟩ | ⟨hr0, hno⟩
        · subst hr1
          show Go E Q 5 0 0 36 [(0, .ref (a 0)), (1, .int 6), (2, .int 0), (3, .int (nI k))] [.int 1] (modelW cI a (pA (pA q 6 rd_5) 18 (upd (upd (q 18) 5 (nI X_4)) 6 rs)))
          refine g_if_ne hE 41 dX5_readAll_36 (by decide) (fun c7 => ?_) (fun c7 => absurd c7 (by decide))
          refine g_aload_n hE dX5_readAll_41 0 rfl ?_
          refine g_iload_n hE dX5_readAll_42 3 rfl ?_
          refine g_iconst hE dX5_readAll_43 1 (by decide) ?_
          refine g_iadd_n hE dX5_readAll_44 (show (nI k) = nI k from rfl) (show 1 = nI 1 from rfl) ?_
          refine g_put hE fl_X5_145 fp_5_12 dX5_readAll_45 0 rfl rfl rfl (Nat.le_of_ble_eq_true rfl) (modelW cI a (pA (pA q 6 rd_5) 18 (upd (upd (q 18) 5 (nI X_4)) 6 (nI (k + 1))))) (by rfl) ?_
          refine g_aload_n hE dX5_readAll_48 0 rfl ?_
          refine g_callV hE (c_X5_nextByte cI cS a (pA (pA q 6 rd_5) 18 (upd (upd (q 18) 5 (nI X_4)) 6 (nI (k + 1)))) htp hL rfl hXl) mk_X5_nextByte mv_X5_nextByte ml_X5_122 dX5_readAll_49 (As := []) (rest := []) rfl rfl 0 rfl (show vwCl[5]? = some (RX5, TX5, 32) from rfl) (by decide) (by decide) (Nat.le_of_ble_eq_true rfl) (by decide) (by decide) [0, 1, 2, 3, 4, 5, 6, 7, 8, 9, 10, 11, 12, 13, 14, 15, 16, 17, 18] rfl (by decide) (fun u => Nat.le_of_ble_eq_true rfl) (ws' := fun u => modelW cI a (pA (pA q 6 rd_5) 18 (upd (upd (q 18) 5 (nI (sk (q 5) L X_4))) 6 (nI (k + 1))))) (fun u => rfl) (fun u hu => ?_)
          obtain ⟨r_8, rfl⟩ : ∃ z, z = u := ⟨_, rfl⟩
          have h9 : r_8 = (bt (q 5) L (sk (q 5) L X_4)) := hu
          subst h9
          show Go E Q 5 0 0 52 [(0, .ref (a 0)), (1, .int 6), (2, .int 0), (3, .int (nI k))] [.int (bt (q 5) L (sk (q 5) L X_4))] (modelW cI a (pA (pA q 6 rd_5) 18 (upd (upd (q 18) 5 (nI (sk (q 5) L X_4))) 6 (nI (k + 1)))))
          refine g_istore hE dX5_readAll_52 [(4, .int (bt (q 5) L (sk (q 5) L X_4))), (0, .ref (a 0)), (1, .int 6), (2, .int 0), (3, .int (nI k))] (by decide) rfl ?_
          refine g_iload hE dX5_readAll_54 0 rfl ?_
          refine g_if_ge hE 61 dX5_readAll_56 (by decide) (fun c10 => ?_) (fun c10 => ?_)
          · refine g_iload hE dX5_readAll_61 0 rfl ?_
            refine g_bipush hE dX5_readAll_63 44 (by decide) ?_
            refine g_icmp_ne hE 75 dX5_readAll_65 (by decide) (fun c11 => ?_) (fun c11 => ?_)
            · refine g_iconst hE dX5_readAll_75 0 (by decide) ?_
              exact g_iret hE hQ dX5_readAll_76 (by first | rfl | decide) (0, (sk (q 5) L X_4), rd_5, (nI (k + 1))) rfl rfl ⟨Or.inr ⟨rfl, ra0_n hs hk hok hXl hL (show ¬ (bt (q 5) L (sk (q 5) L X_4)) < 0 from (Int32.not_lt.mpr c10)) (Or.inl (show ¬ (bt (q 5) L (sk (q 5) L X_4)) = 44 from c11))⟩, sk_le hXl⟩
            · refine g_iload_n hE dX5_readAll_68 4 rfl ?_
              refine g_iload_n hE dX5_readAll_69 2 rfl ?_
              refine g_iconst hE dX5_readAll_70 1 (by decide) ?_
              refine g_isub_n hE dX5_readAll_71 (show 6 = nI 6 from rfl) (show 1 = nI 1 from rfl) (by decide) ?_
              refine g_icmp_ne hE 77 dX5_readAll_72 (by decide) (fun c12 => ?_) (fun c12 => ?_)
              · have kc12 := nat_eq_f (show (nI k) = nI k from rfl) (show (nI (6 - 1)) = nI (6 - 1) from rfl) (by omega) (by omega) c12
                refine g_aload_n hE dX5_readAll_77 1 rfl ?_
                refine g_dup hE dX5_readAll_78 rfl ?_
                refine g_get hE fl_X5_119 dX5_readAll_79 0 rfl rfl ?_
                refine g_iconst hE dX5_readAll_82 1 (by decide) ?_
                refine g_iadd_n hE dX5_readAll_83 (show (nI (sk (q 5) L X_4)) = nI (sk (q 5) L X_4) from rfl) (show 1 = nI 1 from rfl) ?_
                refine g_put hE fl_X5_119 fp_5_11 dX5_readAll_84 0 rfl rfl rfl (Nat.le_of_ble_eq_true rfl) (modelW cI a (pA (pA q 6 rd_5) 18 (upd (upd (q 18) 5 (nI ((sk (q 5) L X_4) + 1))) 6 (nI (k + 1))))) (by rfl) ?_
                refine g_iinc hE dX5_readAll_87 4 (nI (k + 1)) [(3, .int (nI (k + 1))), (4, .int (bt (q 5) L (sk (q 5) L X_4))), (0, .ref (a 0)), (1, .int 6), (2, .int 0)] rfl (nI_1 _) (by decide) rfl ?_
                refine g_goto hE 7 dX5_readAll_90 (by decide) ?_
                refine g_locals [2, 3, 4, 0] [(0, .ref (a 0)), (1, .int 6), (2, .int 0), (3, .int (nI (k + 1)))] rfl ?_
                exact ih_7 (k + 1) ((sk (q 5) L X_4) + 1) (nI (k + 1)) rd_5 _ (by omega) (sk_lt_of hXl (c := 44) (by decide) (show (bt (q 5) L (sk (q 5) L X_4)) = 44 from c11)) (ra0_s hs hk hok (show (bt (q 5) L (sk (q 5) L X_4)) = 44 from c11) (by omega)) rfl (ra0_sv hSV hok hfr) (by omega)
              · have kc12 := nat_eq_t (show (nI k) = nI k from rfl) (show (nI (6 - 1)) = nI (6 - 1) from rfl) (by omega) (by omega) c12
                refine g_iconst hE dX5_readAll_75 0 (by decide) ?_
                exact g_iret hE hQ dX5_readAll_76 (by first | rfl | decide) (0, (sk (q 5) L X_4), rd_5, (nI (k + 1))) rfl rfl ⟨Or.inr ⟨rfl, ra0_n hs hk hok hXl hL (show ¬ (bt (q 5) L (sk (q 5) L X_4)) < 0 from (Int32.not_lt.mpr c10)) (Or.inr (by omega))⟩, sk_le hXl⟩
          · refine g_iconst hE dX5_readAll_59 1 (by decide) ?_
            exact g_iret hE hQ dX5_readAll_60 (by first | rfl | decide) (1, (sk (q 5) L X_4), rd_5, (nI (k + 1))) rfl rfl ⟨Or.inl ⟨rfl, ra0_y hs hk hok hB (show (bt (q 5) L (sk (q 5) L X_4)) < 0 from (Int32.not_le.mp c10)) hSV hfr⟩, sk_le hXl⟩
        · subst hr0
          show Go E Q 5 0 0 36 [(0, .ref (a 0)), (1, .int 6), (2, .int 0), (3, .int (nI k))] [.int 0] (modelW cI a (pA (pA q 6 rd_5) 18 (upd (upd (q 18) 5 (nI X_4)) 6 rs)))
          refine g_if_ne hE 41 dX5_readAll_36 (by decide) (fun c13 => absurd (by decide) c13) (fun c13 => ?_)
          refine g_iconst hE dX5_readAll_39 0 (by decide) ?_
          exact g_iret hE hQ dX5_readAll_40 (by first | rfl | decide) (0, X_4, rd_5, rs) rfl rfl ⟨Or.inr ⟨rfl, ra0_no hs hk hno⟩, hXl⟩
  refine g_locals [1, 2, 3, 0] [(0, .ref (a 0)), (1, .int 6), (2, .int 0), (3, .int 0)] rfl ?_
  exact L7 _ 0 0 (q 18 6) (q 6) (pA v 9 (upd (v 9) 0 0)) (by decide) (Nat.zero_le _) rfl rfl (fun s hs => absurd hs (Nat.not_lt_zero _)) (Nat.lt_succ_self _)
