/-! the reference reads a sieve -/
theorem fr1 {f : Nat → Int32} {b j : Nat} {x : Int32} (h : j < b) : upd f b x j = f j := if_neg (by omega)
theorem fr2 {f : Nat → Int32} {b j : Nat} {x y : Int32} (h : j < b) : upd (upd f b x) (b + 1) y j = f j := (if_neg (by omega)).trans (fr1 h)
theorem fr3 {f : Nat → Int32} {b j : Nat} {x y z : Int32} (h : j < b) : upd (upd (upd f b x) (b + 1) y) (b + 2) z j = f j := (if_neg (by omega)).trans (fr2 h)
theorem fr4 {f : Nat → Int32} {b j : Nat} {x y z t : Int32} (h : j < b) : upd (upd (upd (upd f b x) (b + 1) y) (b + 2) z) (b + 3) t j = f j := (if_neg (by omega)).trans (fr3 h)
theorem fr5 {f : Nat → Int32} {b j : Nat} {x y z t u : Int32} (h : j < b) : upd (upd (upd (upd (upd f b x) (b + 1) y) (b + 2) z) (b + 3) t) (b + 3) u j = f j := (if_neg (by omega)).trans (fr4 h)
theorem rd4 (f : Nat → Int32) (b : Nat) (x y z t : Int32) : upd (upd (upd (upd f b x) (b + 1) y) (b + 2) z) (b + 3) t b = x ∧ upd (upd (upd (upd f b x) (b + 1) y) (b + 2) z) (b + 3) t (b + 1) = y ∧ upd (upd (upd (upd f b x) (b + 1) y) (b + 2) z) (b + 3) t (b + 2) = z ∧ upd (upd (upd (upd f b x) (b + 1) y) (b + 2) z) (b + 3) t (b + 3) = t :=
  ⟨(if_neg (by omega)).trans ((if_neg (by omega)).trans ((if_neg (by omega)).trans (if_pos rfl))), (if_neg (by omega)).trans ((if_neg (by omega)).trans (if_pos rfl)), (if_neg (by omega)).trans (if_pos rfl), if_pos rfl⟩
theorem rd5 (f : Nat → Int32) (b : Nat) (x y z t u : Int32) : upd (upd (upd (upd (upd f b x) (b + 1) y) (b + 2) z) (b + 3) t) (b + 3) u b = x ∧ upd (upd (upd (upd (upd f b x) (b + 1) y) (b + 2) z) (b + 3) t) (b + 3) u (b + 1) = y ∧ upd (upd (upd (upd (upd f b x) (b + 1) y) (b + 2) z) (b + 3) t) (b + 3) u (b + 2) = z ∧ upd (upd (upd (upd (upd f b x) (b + 1) y) (b + 2) z) (b + 3) t) (b + 3) u (b + 3) = u :=
  ⟨(if_neg (by omega)).trans (rd4 f b x y z t).1, (if_neg (by omega)).trans (rd4 f b x y z t).2.1, (if_neg (by omega)).trans (rd4 f b x y z t).2.2.1, if_pos rfl⟩
theorem blk {F w : Int32} (h : ¬ F < 0) : bl F w = F := if_neg h
theorem nuF_k {B : Nat → Int32} {L X : Nat} {F lo hi : Int32} (h : ¬ F < 0) : nuF B L X F lo hi = F := by
  unfold nuF; simp only [blk h, ite_self]
theorem dgF_k {B : Nat → Int32} {L X : Nat} {F mo : Int32} (h : ¬ F < 0) : dgF B L X F mo = F := by
  unfold dgF; simp only [blk h, ite_self]
theorem opF_c {B : Nat → Int32} {L P : Nat} {c d : Int32} {f : Nat → Int32} (h : ∀ p, f p = d) : opF B L P c f d = d := by
  unfold opF; rw [h, ite_self]
theorem nu_ok {B : Nat → Int32} {L X : Nat} {lo hi : Int32} (hs : sk B L X < 2 ^ 31) (h : nuF B L X (-1) lo hi < 0) : nuF B L X (-1) lo hi = -1 ∧ lo ≤ nuV B L X ∧ nuV B L X ≤ hi := by
  unfold nuF at h ⊢
  by_cases d : 48 ≤ bt B L (sk B L X) ∧ bt B L (sk B L X) ≤ 57
  · rw [if_pos d] at h ⊢
    by_cases r : lo ≤ (nuR B L (L - sk B L X) (sk B L X) 0).1 ∧ (nuR B L (L - sk B L X) (sk B L X) 0).1 ≤ hi
    · rw [if_pos r, nuV, if_pos d]
      exact ⟨rfl, r⟩
    · rw [if_neg r, bl_1] at h
      exact absurd h (nI_nneg hs)
  · rw [if_neg d, bl_1] at h
    exact absurd h (nI_nneg hs)
theorem nu_bad {B : Nat → Int32} {L X : Nat} {lo hi : Int32} (h : ¬ nuF B L X (-1) lo hi < 0) : nuF B L X (-1) lo hi = nI (sk B L X) := by
  unfold nuF at h ⊢
  by_cases d : 48 ≤ bt B L (sk B L X) ∧ bt B L (sk B L X) ≤ 57
  · rw [if_pos d] at h ⊢
    by_cases r : lo ≤ (nuR B L (L - sk B L X) (sk B L X) 0).1 ∧ (nuR B L (L - sk B L X) (sk B L X) 0).1 ≤ hi
    · rw [if_pos r] at h
      exact absurd (by decide) h
    · rw [if_neg r, bl_1]
  · rw [if_neg d, bl_1]
theorem rn_ok {B : Nat → Int32} {L X : Nat} {lo hi : Int32} (hX : X ≤ L) (hL : L ≤ 120) (h : ¬ rnV B L X lo hi < 0) : nuF B L X (-1) lo hi = -1 ∧ rnV B L X lo hi = nuV B L X ∧ rnP B L X lo hi = nuP B L X ∧ lo ≤ nuV B L X ∧ nuV B L X ≤ hi := by
  have hs : sk B L X < 2 ^ 31 := by have := sk_le (B := B) hX; omega
  by_cases e : nuF B L X (-1) lo hi < 0
  · have k := nu_ok hs e
    exact ⟨k.1, if_pos e, if_pos e, k.2⟩
  · rw [rnV, if_neg e] at h
    exact absurd (by decide) h
theorem rn_no {B : Nat → Int32} {L X : Nat} {lo hi : Int32} (hX : X ≤ L) (hL : L ≤ 120) (h0 : 0 ≤ lo) (h : rnV B L X lo hi < 0) : nuF B L X (-1) lo hi = nI (sk B L X) ∧ rnP B L X lo hi = sk B L X ∧ ¬ nI (sk B L X) < 0 := by
  have hs : sk B L X < 2 ^ 31 := by have := sk_le (B := B) hX; omega
  by_cases e : nuF B L X (-1) lo hi < 0
  · have k := nu_ok hs e
    rw [rnV, if_pos e] at h
    exact absurd (Int32.lt_of_lt_of_le h h0) (Int32.not_lt.mpr k.2.1)
  · exact ⟨nu_bad e, if_neg e, nI_nneg hs⟩
/-- a number that may stand behind a sign -/
theorem op_ok {B : Nat → Int32} {L R P3 : Nat} {c d lo hi z : Int32} (hR : R ≤ L) (hL : L ≤ 120) (hc : ¬ c = -1) (hz : z = opV B L R c (fun p => rnV B L p lo hi) d) (hp : P3 = opP B L R c (fun p => rnP B L p lo hi)) (h : ¬ z < 0) :
    opF B L R c (fun p => nuF B L p (-1) lo hi) (-1) = -1 ∧ z = opV B L R c (nuV B L) d ∧ P3 = opP B L R c (nuP B L) ∧ (z = d ∨ (lo ≤ z ∧ z ≤ hi)) := by
  unfold opF opV opP at *
  by_cases e : bt B L (sk B L R) = c
  · rw [if_pos e] at hz hp ⊢
    rw [if_pos e, if_pos e]
    have hz : z = rnV B L (sk B L R + 1) lo hi := hz
    have k := rn_ok (lo := lo) (hi := hi) (sk_lt_of hR hc e) hL (by rw [← hz]; exact h)
    exact ⟨k.1, hz.trans k.2.1, hp.trans k.2.2.1, Or.inr (by rw [hz, k.2.1]; exact k.2.2.2)⟩
  · rw [if_neg e] at hz hp ⊢
    rw [if_neg e, if_neg e]
    exact ⟨rfl, hz, hp, Or.inl hz⟩
theorem op_no {B : Nat → Int32} {L R P3 : Nat} {c d lo hi z : Int32} (hR : R ≤ L) (hL : L ≤ 120) (hc : ¬ c = -1) (h0 : 0 ≤ lo) (hd : 0 ≤ d) (hz : z = opV B L R c (fun p => rnV B L p lo hi) d) (hp : P3 = opP B L R c (fun p => rnP B L p lo hi)) (h : z < 0) :
    opF B L R c (fun p => nuF B L p (-1) lo hi) (-1) = nI (sk B L P3) ∧ ¬ nI (sk B L P3) < 0 := by
  unfold opF opV opP at *
  by_cases e : bt B L (sk B L R) = c
  · rw [if_pos e] at hz hp ⊢
    have hz : z = rnV B L (sk B L R + 1) lo hi := hz
    have hp : P3 = rnP B L (sk B L R + 1) lo hi := hp
    have k := rn_no (lo := lo) (hi := hi) (sk_lt_of hR hc e) hL h0 (by rw [← hz]; exact h)
    rw [hp, k.2.1, sk_idem]
    exact ⟨k.1, k.2.2⟩
  · rw [if_neg e] at hz
    rw [hz] at h
    exact absurd h (Int32.not_lt.mpr hd)
theorem kd_c (B : Nat → Int32) (L P : Nat) : kdV B L P = -1 ∨ (0 ≤ kdV B L P ∧ kdV B L P ≤ 3) := by
  unfold kdV
  split
  · exact Or.inr (by decide)
  · split
    · exact Or.inr (by decide)
    · split
      · exact Or.inr (by decide)
      · split
        · exact Or.inr (by decide)
        · exact Or.inl rfl
theorem kd_neg {B : Nat → Int32} {L P : Nat} (h : kdV B L P < 0) : kdV B L P = -1 := (kd_c B L P).resolve_right (fun q => absurd h (Int32.not_lt.mpr q.1))
theorem kd_lt {B : Nat → Int32} {L P : Nat} (hP : P ≤ L) (h : ¬ kdV B L P = -1) : sk B L P + 1 ≤ L := by
  have := kdP_le (B := B) hP
  rw [kdP, if_neg h] at this
  exact this
def lG3 (B : Nat → Int32) (L P : Nat) : Int32 := opF B L (nuP B L (kdP B L P)) 104 (fun p => nuF B L p (nuF B L (kdP B L P) (kdF B L P (-1)) 1 60) 1 99999) (nuF B L (kdP B L P) (kdF B L P (-1)) 1 60)
def lP3 (B : Nat → Int32) (L P : Nat) : Nat := opP B L (nuP B L (kdP B L P)) 104 (nuP B L)
def lz3 (B : Nat → Int32) (L P : Nat) : Int32 := opV B L (nuP B L (kdP B L P)) 104 (nuV B L) 99999
def lG4 (B : Nat → Int32) (L P : Nat) : Int32 := opF B L (lP3 B L P) 119 (fun p => dgF B L p (lG3 B L P) 3) (lG3 B L P)
def lP4 (B : Nat → Int32) (L P : Nat) : Nat := opP B L (lP3 B L P) 119 (fun p => dgP B L p 3)
def lw4 (B : Nat → Int32) (L P : Nat) : Int32 := opV B L (lP3 B L P) 119 (fun p => dgV B L p 3) 0
def SvOk (B : Nat → Int32) (L P X : Nat) (rd : Nat → Int32) (b : Nat) : Prop := lG4 B L P = -1 ∧ X = lP4 B L P ∧ (rd b = kdV B L P ∧ rd (b + 1) = nuV B L (kdP B L P) ∧ rd (b + 2) = lz3 B L P ∧ rd (b + 3) = lw4 B L P) ∧ (0 ≤ rd b ∧ rd b ≤ 3 ∧ 1 ≤ rd (b + 1) ∧ rd (b + 1) ≤ 60 ∧ 1 ≤ rd (b + 2) ∧ rd (b + 2) ≤ 99999 ∧ 0 ≤ rd (b + 3) ∧ rd (b + 3) ≤ 3)
def SvNo (B : Nat → Int32) (L P X : Nat) : Prop := ¬ lG4 B L P < 0 ∧ nI (sk B L X) = lG4 B L P
theorem lG4_k {B : Nat → Int32} {L P : Nat} (h : ¬ lG3 B L P < 0) : lG4 B L P = lG3 B L P := opF_c (fun p => dgF_k h)
theorem sv_a {B : Nat → Int32} {L P : Nat} (hP : P ≤ L) (hL : L ≤ 120) (hk : kdV B L P = -1) : SvNo B L P (sk B L P) := by
  have n : ¬ nI (sk B L P) < 0 := nI_nneg (by have := sk_le (B := B) hP; omega)
  have e1 : kdF B L P (-1) = nI (sk B L P) := by rw [kdF, if_pos hk, bl_1]
  have e3 : lG3 B L P = nI (sk B L P) := by unfold lG3; rw [e1, nuF_k n]; exact opF_c (fun p => nuF_k n)
  have e4 := lG4_k (B := B) (L := L) (P := P) (by rw [e3]; exact n)
  rw [SvNo, e4, e3, sk_idem]
  exact ⟨n, rfl⟩
theorem kd_go {B : Nat → Int32} {L P : Nat} (hk : ¬ kdV B L P = -1) : kdP B L P = sk B L P + 1 ∧ kdF B L P (-1) = -1 := ⟨if_neg hk, if_neg hk⟩
theorem sv_b {B : Nat → Int32} {L P : Nat} (hP : P ≤ L) (hL : L ≤ 120) (hk : ¬ kdV B L P = -1) (h : rnV B L (sk B L P + 1) 1 60 < 0) : SvNo B L P (rnP B L (sk B L P + 1) 1 60) := by
  obtain ⟨k1, k2⟩ := kd_go hk
  obtain ⟨r1, r2, n⟩ := rn_no (kd_lt hP hk) hL (by decide) h
  have e3 : lG3 B L P = nI (sk B L (sk B L P + 1)) := by unfold lG3; rw [k1, k2, r1]; exact opF_c (fun p => nuF_k n)
  have e4 := lG4_k (B := B) (L := L) (P := P) (by rw [e3]; exact n)
  rw [SvNo, e4, e3, r2, sk_idem]
  exact ⟨n, rfl⟩
theorem sv_m {B : Nat → Int32} {L P : Nat} (hP : P ≤ L) (hL : L ≤ 120) (hk : ¬ kdV B L P = -1) (h1 : ¬ rnV B L (sk B L P + 1) 1 60 < 0) : lG3 B L P = opF B L (rnP B L (sk B L P + 1) 1 60) 104 (fun p => nuF B L p (-1) 1 99999) (-1) ∧ lP3 B L P = opP B L (rnP B L (sk B L P + 1) 1 60) 104 (nuP B L) ∧ lz3 B L P = opV B L (rnP B L (sk B L P + 1) 1 60) 104 (nuV B L) 99999 ∧ rnV B L (sk B L P + 1) 1 60 = nuV B L (kdP B L P) ∧ 1 ≤ rnV B L (sk B L P + 1) 1 60 ∧ rnV B L (sk B L P + 1) 1 60 ≤ 60 := by
  obtain ⟨k1, k2⟩ := kd_go hk
  obtain ⟨r1, r2, r3, r4⟩ := rn_ok (kd_lt hP hk) hL h1
  unfold lG3 lP3 lz3
  rw [k1, k2, r1, r3, r2]
  exact ⟨rfl, rfl, rfl, rfl, r4⟩
theorem sv_c {B : Nat → Int32} {L P P3 : Nat} {z3 : Int32} (hP : P ≤ L) (hL : L ≤ 120) (hk : ¬ kdV B L P = -1) (h1 : ¬ rnV B L (sk B L P + 1) 1 60 < 0) (hz3 : z3 = opV B L (rnP B L (sk B L P + 1) 1 60) 104 (fun p => rnV B L p 1 99999) 99999) (hP3 : P3 = opP B L (rnP B L (sk B L P + 1) 1 60) 104 (fun p => rnP B L p 1 99999)) (h : z3 < 0) : SvNo B L P P3 := by
  obtain ⟨m1, m2, m3, m4⟩ := sv_m hP hL hk h1
  obtain ⟨o1, n⟩ := op_no (rnP_le (kd_lt hP hk)) hL (by decide) (by decide) (by decide) hz3 hP3 h
  have e3 := m1.trans o1
  have e4 := lG4_k (B := B) (L := L) (P := P) (by rw [e3]; exact n)
  rw [SvNo, e4, e3]
  exact ⟨n, rfl⟩
theorem sv_3 {B : Nat → Int32} {L P P3 : Nat} {z3 : Int32} (hP : P ≤ L) (hL : L ≤ 120) (hk : ¬ kdV B L P = -1) (h1 : ¬ rnV B L (sk B L P + 1) 1 60 < 0) (hz3 : z3 = opV B L (rnP B L (sk B L P + 1) 1 60) 104 (fun p => rnV B L p 1 99999) 99999) (hP3 : P3 = opP B L (rnP B L (sk B L P + 1) 1 60) 104 (fun p => rnP B L p 1 99999)) (h : ¬ z3 < 0) : lG3 B L P = -1 ∧ lP3 B L P = P3 ∧ z3 = lz3 B L P ∧ 1 ≤ z3 ∧ z3 ≤ 99999 := by
  obtain ⟨m1, m2, m3, m4⟩ := sv_m hP hL hk h1
  obtain ⟨o1, o2, o3, o4⟩ := op_ok (rnP_le (kd_lt hP hk)) hL (by decide) hz3 hP3 h
  refine ⟨m1.trans o1, m2.trans o3.symm, o2.trans m3.symm, ?_⟩
  rcases o4 with e | e
  · rw [e]; decide
  · exact e
theorem sv_d {B : Nat → Int32} {L P P3 : Nat} {z3 : Int32} (hP : P ≤ L) (hL : L ≤ 120) (hk : ¬ kdV B L P = -1) (h1 : ¬ rnV B L (sk B L P + 1) 1 60 < 0) (hz3 : z3 = opV B L (rnP B L (sk B L P + 1) 1 60) 104 (fun p => rnV B L p 1 99999) 99999) (hP3 : P3 = opP B L (rnP B L (sk B L P + 1) 1 60) 104 (fun p => rnP B L p 1 99999)) (h : ¬ z3 < 0)
    (hw : bt B L (sk B L P3) = 119) (hd : ¬ (0 ≤ (bt B L (sk B L (sk B L P3 + 1))) - 48 ∧ (bt B L (sk B L (sk B L P3 + 1))) - 48 ≤ 3)) : SvNo B L P (sk B L (sk B L P3 + 1)) := by
  obtain ⟨e3, p3, -⟩ := sv_3 hP hL hk h1 hz3 hP3 h
  have l3 : P3 ≤ L := by
    rw [← p3, lP3, opP]
    split
    · rename_i c; exact nuP_le (sk_lt_of (nuP_le (kdP_le hP)) (by decide) c)
    · exact sk_le (nuP_le (kdP_le hP))
  have n : ¬ nI (sk B L (sk B L P3 + 1)) < 0 := nI_nneg (by have := sk_le (B := B) (sk_lt_of l3 (c := 119) (by decide) hw); omega)
  have e4 : lG4 B L P = nI (sk B L (sk B L P3 + 1)) := by
    rw [lG4, p3, e3, opF, if_pos hw, dgF, if_neg hd, bl_1]
  rw [SvNo, e4, sk_idem]
  exact ⟨n, rfl⟩
theorem sv_e {B : Nat → Int32} {L P P3 b : Nat} {z z3 : Int32} {rd : Nat → Int32} (hP : P ≤ L) (hL : L ≤ 120) (hk : ¬ kdV B L P = -1) (h1 : ¬ rnV B L (sk B L P + 1) 1 60 < 0) (hz3 : z3 = opV B L (rnP B L (sk B L P + 1) 1 60) 104 (fun p => rnV B L p 1 99999) 99999) (hP3 : P3 = opP B L (rnP B L (sk B L P + 1) 1 60) 104 (fun p => rnP B L p 1 99999)) (h : ¬ z3 < 0) (hz : z = kdV B L P)
    (hw : bt B L (sk B L P3) = 119) (hd : 0 ≤ (bt B L (sk B L (sk B L P3 + 1))) - 48 ∧ (bt B L (sk B L (sk B L P3 + 1))) - 48 ≤ 3) (hr : rd b = z ∧ rd (b + 1) = rnV B L (sk B L P + 1) 1 60 ∧ rd (b + 2) = z3 ∧ rd (b + 3) = (bt B L (sk B L (sk B L P3 + 1))) - 48) : SvOk B L P (sk B L (sk B L P3 + 1) + 1) rd b := by
  obtain ⟨e3, p3, v3, g3⟩ := sv_3 hP hL hk h1 hz3 hP3 h
  obtain ⟨-, -, -, m4, g1⟩ := sv_m hP hL hk h1
  obtain ⟨r1, r2, r3, r4⟩ := hr
  have kr := (kd_c B L P).resolve_left hk
  refine ⟨?_, ?_, ⟨r1.trans hz, r2.trans m4, r3.trans v3, ?_⟩, ?_⟩
  · rw [lG4, p3, e3, opF, if_pos hw, dgF, if_pos hd]
  · rw [lP4, p3, opP, if_pos hw, dgP, if_pos hd]
  · rw [r4, lw4, p3, opV, if_pos hw, dgV, if_pos hd]
  · rw [r1, r2, r3, r4, hz]
    exact ⟨kr.1, kr.2, g1.1, g1.2, g3.1, g3.2, hd.1, hd.2⟩
theorem sv_f {B : Nat → Int32} {L P P3 b : Nat} {z z3 : Int32} {rd : Nat → Int32} (hP : P ≤ L) (hL : L ≤ 120) (hk : ¬ kdV B L P = -1) (h1 : ¬ rnV B L (sk B L P + 1) 1 60 < 0) (hz3 : z3 = opV B L (rnP B L (sk B L P + 1) 1 60) 104 (fun p => rnV B L p 1 99999) 99999) (hP3 : P3 = opP B L (rnP B L (sk B L P + 1) 1 60) 104 (fun p => rnP B L p 1 99999)) (h : ¬ z3 < 0) (hz : z = kdV B L P)
    (hw : ¬ bt B L (sk B L P3) = 119) (hr : rd b = z ∧ rd (b + 1) = rnV B L (sk B L P + 1) 1 60 ∧ rd (b + 2) = z3 ∧ rd (b + 3) = 0) : SvOk B L P (sk B L P3) rd b := by
  obtain ⟨e3, p3, v3, g3⟩ := sv_3 hP hL hk h1 hz3 hP3 h
  obtain ⟨-, -, -, m4, g1⟩ := sv_m hP hL hk h1
  obtain ⟨r1, r2, r3, r4⟩ := hr
  have kr := (kd_c B L P).resolve_left hk
  refine ⟨?_, ?_, ⟨r1.trans hz, r2.trans m4, r3.trans v3, ?_⟩, ?_⟩
  · rw [lG4, p3, e3, opF, if_neg hw]
  · rw [lP4, p3, opP, if_neg hw]
  · rw [r4, lw4, p3, opV, if_neg hw]
  · rw [r1, r2, r3, r4, hz]
    exact ⟨kr.1, kr.2, g1.1, g1.2, g3.1, g3.2, by decide, by decide⟩
theorem dg_le5 {B : Nat → Int32} {L p : Nat} (hp : p ≤ L) (hd : 0 ≤ (bt B L (sk B L p)) - 48 ∧ (bt B L (sk B L p)) - 48 ≤ 3) : sk B L p + 1 ≤ L := by
  have := dgP_le (B := B) (mo := 3) hp
  rw [dgP, if_pos hd] at this
  exact this
set_option maxHeartbeats 4000000 in
set_option maxRecDepth 100000 in
theorem c_X5_readSieve (cI cS : ClassId) (a : Nat → Nat) (q : Nat → Nat → Int32) {L P : Nat} (htp : q 18 4 = nI L) (hL : L ≤ 120) (hpc : q 18 5 = nI P) (hP : P ≤ L) {b : Nat} (x : Int32) (hx : x = nI b) (hb : b + 4 ≤ 32) : CT cI cS yX5_readSieve cX5_readSieve 3 (some .boolean) 2 [.ref (a 0), .int x] (modelW cI a q) 0 0 (fun u : Int32 × Nat × (Nat → Int32) => ((u.1 = 1 ∧ SvOk (q 5) L P u.2.1 u.2.2 b) ∨ (u.1 = 0 ∧ SvNo (q 5) L P u.2.1)) ∧ u.2.1 ≤ L ∧ ∀ j, j < b → u.2.2 j = q 6 j) (fun u => some (.int u.1)) (fun u => (modelW cI a (pA (pA q 6 u.2.2) 18 (upd (q 18) 5 (nI u.2.1))))) := by
  refine ct_intro (by decide) (Nat.le_of_ble_eq_true rfl) (fun E Q hE hQ hI => ?_)
  have hE : CxOk E cI cS RX5 cX5_readSieve 3 (some .boolean) 2 0 0 := hE
  show Go E Q 3 0 0 0 [(0, .ref (a 0)), (1, .int x)] [] (modelW cI a q)
  refine g_world (modelW cI a (pA q 18 (upd (q 18) 5 (nI P)))) (congrArg (modelW cI a) (pl_w hpc)) ?_
  refine g_aload_n hE dX5_readSieve_0 0 rfl ?_
  refine g_callV hE (c_X5_nextByte cI cS a (pA q 18 (upd (q 18) 5 (nI P))) htp hL rfl hP) mk_X5_nextByte mv_X5_nextByte ml_X5_122 dX5_readSieve_1 (As := []) (rest := []) rfl rfl 0 rfl (show vwCl[5]? = some (RX5, TX5, 32) from rfl) (by decide) (by decide) (Nat.le_of_ble_eq_true rfl) (by decide) (by decide) [0, 1, 2, 3, 4, 5, 6, 7, 8, 9, 10, 11, 12, 13, 14, 15, 16, 17, 18] rfl (by decide) (fun u => Nat.le_of_ble_eq_true rfl) (ws' := fun u => modelW cI a (pA q 18 (upd (q 18) 5 (nI (sk (q 5) L P))))) (fun u => rfl) (fun u hu => ?_)
  obtain ⟨r_1, rfl⟩ : ∃ z, z = u := ⟨_, rfl⟩
  have h2 : r_1 = (bt (q 5) L (sk (q 5) L P)) := hu
  subst h2
  show Go E Q 3 0 0 4 [(0, .ref (a 0)), (1, .int x)] [.int (bt (q 5) L (sk (q 5) L P))] (modelW cI a (pA q 18 (upd (q 18) 5 (nI (sk (q 5) L P)))))
  refine g_istore_n hE dX5_readSieve_4 [(2, .int (bt (q 5) L (sk (q 5) L P))), (0, .ref (a 0)), (1, .int x)] rfl (by decide) rfl ?_
  refine g_aload_n hE dX5_readSieve_5 1 rfl ?_
  refine g_get hE fl_X5_28 dX5_readSieve_6 0 rfl rfl ?_
  refine g_iload_n hE dX5_readSieve_9 2 rfl ?_
  have L51 : ∀ (z : Int32), (z = kdV (q 5) L P) → Go E Q 3 0 0 51 [(0, .ref (a 0)), (1, .int x), (2, .int (bt (q 5) L (sk (q 5) L P)))] [.int z, .int x, .ref (a 7)] (modelW cI a (pA q 18 (upd (q 18) 5 (nI (sk (q 5) L P))))) := by
    intro z hzk
    refine g_iast_n hE dX5_readSieve_51 7 rfl (show x = nI b from hx) (by omega) (modelW cI a (pA (pA q 6 (upd (q 6) b z)) 18 (upd (q 18) 5 (nI (sk (q 5) L P))))) rfl ?_
    refine g_aload_n hE dX5_readSieve_52 0 rfl ?_
    refine g_get hE fl_X5_28 dX5_readSieve_53 0 rfl rfl ?_
    refine g_iload_n hE dX5_readSieve_56 1 rfl ?_
    refine g_iald_n hE dX5_readSieve_57 7 rfl (show x = nI b from hx) (by omega) ?_
    show Go E Q 3 0 0 58 [(0, .ref (a 0)), (1, .int x), (2, .int (bt (q 5) L (sk (q 5) L P)))] [.int ((upd (q 6) b z) b)] (modelW cI a (pA (pA q 6 (upd (q 6) b z)) 18 (upd (q 18) 5 (nI (sk (q 5) L P)))))
    rw [show ((upd (q 6) b z) b) = z from upd_at _ _ _]
    refine g_if_ge hE 63 dX5_readSieve_58 (by decide) (fun c3 => ?_) (fun c3 => ?_)
    · have hkn : ¬ kdV (q 5) L P = -1 := fun e => (show ¬ z < 0 from (Int32.not_lt.mpr c3)) (by rw [hzk, e]; decide)
      have hlt1 := kd_lt hP hkn
      refine g_aload_n hE dX5_readSieve_63 0 rfl ?_
      refine g_dup hE dX5_readSieve_64 rfl ?_
      refine g_get hE fl_X5_119 dX5_readSieve_65 0 rfl rfl ?_
      refine g_iconst hE dX5_readSieve_68 1 (by decide) ?_
      refine g_iadd_n hE dX5_readSieve_69 (show (nI (sk (q 5) L P)) = nI (sk (q 5) L P) from rfl) (show 1 = nI 1 from rfl) ?_
      refine g_put hE fl_X5_119 fp_5_11 dX5_readSieve_70 0 rfl rfl rfl (Nat.le_of_ble_eq_true rfl) (modelW cI a (pA (pA q 6 (upd (q 6) b z)) 18 (upd (q 18) 5 (nI ((sk (q 5) L P) + 1))))) (by rfl) ?_
      refine g_aload_n hE dX5_readSieve_73 0 rfl ?_
      refine g_get hE fl_X5_28 dX5_readSieve_74 0 rfl rfl ?_
      refine g_iload_n hE dX5_readSieve_77 1 rfl ?_
      refine g_iconst hE dX5_readSieve_78 1 (by decide) ?_
      refine g_iadd_n hE dX5_readSieve_79 hx (show 1 = nI 1 from rfl) ?_
      refine g_aload_n hE dX5_readSieve_80 0 rfl ?_
      refine g_iconst hE dX5_readSieve_81 1 (by decide) ?_
      refine g_bipush hE dX5_readSieve_82 60 (by decide) ?_
      refine g_callV hE (c_X5_readNumber cI cS a (pA (pA q 6 (upd (q 6) b z)) 18 (upd (q 18) 5 (nI ((sk (q 5) L P) + 1)))) htp hL rfl hlt1 1 60 (by decide)) mk_X5_readNumber mv_X5_readNumber ml_X5_131 dX5_readSieve_84 (As := [.int 1, .int 60]) (rest := [.int (nI (b + 1)), .ref (a 7)]) rfl rfl 0 rfl (show vwCl[5]? = some (RX5, TX5, 32) from rfl) (by decide) (by decide) (Nat.le_of_ble_eq_true rfl) (by decide) (by decide) [0, 1, 2, 3, 4, 5, 6, 7, 8, 9, 10, 11, 12, 13, 14, 15, 16, 17, 18] rfl (by decide) (fun u => Nat.le_of_ble_eq_true rfl) (ws' := fun u => modelW cI a (pA (pA q 6 (upd (q 6) b z)) 18 (upd (q 18) 5 (nI (rnP (q 5) L ((sk (q 5) L P) + 1) 1 60))))) (fun u => rfl) (fun u hu => ?_)
      obtain ⟨r_4, rfl⟩ : ∃ z, z = u := ⟨_, rfl⟩
      have h5 : r_4 = (rnV (q 5) L ((sk (q 5) L P) + 1) 1 60) := hu
      subst h5
      show Go E Q 3 0 0 87 [(0, .ref (a 0)), (1, .int x), (2, .int (bt (q 5) L (sk (q 5) L P)))] [.int (rnV (q 5) L ((sk (q 5) L P) + 1) 1 60), .int (nI (b + 1)), .ref (a 7)] (modelW cI a (pA (pA q 6 (upd (q 6) b z)) 18 (upd (q 18) 5 (nI (rnP (q 5) L ((sk (q 5) L P) + 1) 1 60)))))
      refine g_iast_n hE dX5_readSieve_87 7 rfl (show (nI (b + 1)) = nI (b + 1) from rfl) (by omega) (modelW cI a (pA (pA q 6 (upd (upd (q 6) b z) (b + 1) (rnV (q 5) L ((sk (q 5) L P) + 1) 1 60))) 18 (upd (q 18) 5 (nI (rnP (q 5) L ((sk (q 5) L P) + 1) 1 60))))) rfl ?_
      refine g_aload_n hE dX5_readSieve_88 0 rfl ?_
      refine g_get hE fl_X5_28 dX5_readSieve_89 0 rfl rfl ?_
      refine g_iload_n hE dX5_readSieve_92 1 rfl ?_
      refine g_iconst hE dX5_readSieve_93 1 (by decide) ?_
      refine g_iadd_n hE dX5_readSieve_94 hx (show 1 = nI 1 from rfl) ?_
      refine g_iald_n hE dX5_readSieve_95 7 rfl (show (nI (b + 1)) = nI (b + 1) from rfl) (by omega) ?_
      show Go E Q 3 0 0 96 [(0, .ref (a 0)), (1, .int x), (2, .int (bt (q 5) L (sk (q 5) L P)))] [.int ((upd (upd (q 6) b z) (b + 1) (rnV (q 5) L ((sk (q 5) L P) + 1) 1 60)) (b + 1))] (modelW cI a (pA (pA q 6 (upd (upd (q 6) b z) (b + 1) (rnV (q 5) L ((sk (q 5) L P) + 1) 1 60))) 18 (upd (q 18) 5 (nI (rnP (q 5) L ((sk (q 5) L P) + 1) 1 60)))))
      rw [show ((upd (upd (q 6) b z) (b + 1) (rnV (q 5) L ((sk (q 5) L P) + 1) 1 60)) (b + 1)) = (rnV (q 5) L ((sk (q 5) L P) + 1) 1 60) from upd_at _ _ _]
      refine g_if_ge hE 101 dX5_readSieve_96 (by decide) (fun c6 => ?_) (fun c6 => ?_)
      · have hv1 : ¬ (rnV (q 5) L ((sk (q 5) L P) + 1) 1 60) < 0 := (show ¬ (rnV (q 5) L ((sk (q 5) L P) + 1) 1 60) < 0 from (Int32.not_lt.mpr c6))
        refine g_aload_n hE dX5_readSieve_101 0 rfl ?_
        refine g_get hE fl_X5_28 dX5_readSieve_102 0 rfl rfl ?_
        refine g_iload_n hE dX5_readSieve_105 1 rfl ?_
        refine g_iconst hE dX5_readSieve_106 2 (by decide) ?_
        refine g_iadd_n hE dX5_readSieve_107 hx (show 2 = nI 2 from rfl) ?_
        have L129 : ∀ (z3 : Int32) (P3 : Nat), (P3 ≤ L) → (z3 = opV (q 5) L (rnP (q 5) L ((sk (q 5) L P) + 1) 1 60) 104 (fun p => rnV (q 5) L p 1 99999) 99999) → (P3 = opP (q 5) L (rnP (q 5) L ((sk (q 5) L P) + 1) 1 60) 104 (fun p => rnP (q 5) L p 1 99999)) → Go E Q 3 0 0 129 [(0, .ref (a 0)), (1, .int x), (2, .int (bt (q 5) L (sk (q 5) L P)))] [.int z3, .int (nI (b + 2)), .ref (a 7)] (modelW cI a (pA (pA q 6 (upd (upd (q 6) b z) (b + 1) (rnV (q 5) L ((sk (q 5) L P) + 1) 1 60))) 18 (upd (q 18) 5 (nI P3)))) := by
          intro z3 P3 hP3L hz3 hP3
          refine g_iast_n hE dX5_readSieve_129 7 rfl (show (nI (b + 2)) = nI (b + 2) from rfl) (by omega) (modelW cI a (pA (pA q 6 (upd (upd (upd (q 6) b z) (b + 1) (rnV (q 5) L ((sk (q 5) L P) + 1) 1 60)) (b + 2) z3)) 18 (upd (q 18) 5 (nI P3)))) rfl ?_
          refine g_aload_n hE dX5_readSieve_130 0 rfl ?_
          refine g_get hE fl_X5_28 dX5_readSieve_131 0 rfl rfl ?_
          refine g_iload_n hE dX5_readSieve_134 1 rfl ?_
          refine g_iconst hE dX5_readSieve_135 2 (by decide) ?_
          refine g_iadd_n hE dX5_readSieve_136 hx (show 2 = nI 2 from rfl) ?_
          refine g_iald_n hE dX5_readSieve_137 7 rfl (show (nI (b + 2)) = nI (b + 2) from rfl) (by omega) ?_
          show Go E Q 3 0 0 138 [(0, .ref (a 0)), (1, .int x), (2, .int (bt (q 5) L (sk (q 5) L P)))] [.int ((upd (upd (upd (q 6) b z) (b + 1) (rnV (q 5) L ((sk (q 5) L P) + 1) 1 60)) (b + 2) z3) (b + 2))] (modelW cI a (pA (pA q 6 (upd (upd (upd (q 6) b z) (b + 1) (rnV (q 5) L ((sk (q 5) L P) + 1) 1 60)) (b + 2) z3)) 18 (upd (q 18) 5 (nI P3))))
          rw [show ((upd (upd (upd (q 6) b z) (b + 1) (rnV (q 5) L ((sk (q 5) L P) + 1) 1 60)) (b + 2) z3) (b + 2)) = z3 from upd_at _ _ _]
          refine g_if_ge hE 143 dX5_readSieve_138 (by decide) (fun c7 => ?_) (fun c7 => ?_)
          · have hv3 : ¬ z3 < 0 := (show ¬ z3 < 0 from (Int32.not_lt.mpr c7))
            refine g_aload_n hE dX5_readSieve_143 0 rfl ?_
            refine g_get hE fl_X5_28 dX5_readSieve_144 0 rfl rfl ?_
            refine g_iload_n hE dX5_readSieve_147 1 rfl ?_
            refine g_iconst hE dX5_readSieve_148 3 (by decide) ?_
            refine g_iadd_n hE dX5_readSieve_149 hx (show 3 = nI 3 from rfl) ?_
            refine g_iconst hE dX5_readSieve_150 0 (by decide) ?_
            refine g_iast_n hE dX5_readSieve_151 7 rfl (show (nI (b + 3)) = nI (b + 3) from rfl) (by omega) (modelW cI a (pA (pA q 6 (upd (upd (upd (upd (q 6) b z) (b + 1) (rnV (q 5) L ((sk (q 5) L P) + 1) 1 60)) (b + 2) z3) (b + 3) 0)) 18 (upd (q 18) 5 (nI P3)))) rfl ?_
            refine g_aload_n hE dX5_readSieve_152 0 rfl ?_
            refine g_bipush hE dX5_readSieve_153 119 (by decide) ?_
            refine g_callV hE (c_X5_takes cI cS a (pA (pA q 6 (upd (upd (upd (upd (q 6) b z) (b + 1) (rnV (q 5) L ((sk (q 5) L P) + 1) 1 60)) (b + 2) z3) (b + 3) 0)) 18 (upd (q 18) 5 (nI P3))) htp hL rfl hP3L 119) mk_X5_takes mv_X5_takes ml_X5_135 dX5_readSieve_155 (As := [.int 119]) (rest := []) rfl rfl 0 rfl (show vwCl[5]? = some (RX5, TX5, 32) from rfl) (by decide) (by decide) (Nat.le_of_ble_eq_true rfl) (by decide) (by decide) [0, 1, 2, 3, 4, 5, 6, 7, 8, 9, 10, 11, 12, 13, 14, 15, 16, 17, 18] rfl (by decide) (fun u => Nat.le_of_ble_eq_true rfl) (ws' := fun u => modelW cI a (pA (pA q 6 (upd (upd (upd (upd (q 6) b z) (b + 1) (rnV (q 5) L ((sk (q 5) L P) + 1) 1 60)) (b + 2) z3) (b + 3) 0)) 18 (upd (q 18) 5 (nI (psP (q 5) L P3 119))))) (fun u => rfl) (fun u hu => ?_)
            obtain ⟨r_8, rfl⟩ : ∃ z, z = u := ⟨_, rfl⟩
            have h9 : r_8 = if bt (q 5) L (sk (q 5) L P3) = 119 then 1 else 0 := hu
            by_cases c10 : bt (q 5) L (sk (q 5) L P3) = 119
            · rw [if_pos c10] at h9
              subst h9
              refine g_world (modelW cI a (pA (pA q 6 (upd (upd (upd (upd (q 6) b z) (b + 1) (rnV (q 5) L ((sk (q 5) L P) + 1) 1 60)) (b + 2) z3) (b + 3) 0)) 18 (upd (q 18) 5 (nI ((sk (q 5) L P3) + 1))))) (by rw [psP_y rfl c10]) ?_
              show Go E Q 3 0 0 158 [(0, .ref (a 0)), (1, .int x), (2, .int (bt (q 5) L (sk (q 5) L P)))] [.int 1] (modelW cI a (pA (pA q 6 (upd (upd (upd (upd (q 6) b z) (b + 1) (rnV (q 5) L ((sk (q 5) L P) + 1) 1 60)) (b + 2) z3) (b + 3) 0)) 18 (upd (q 18) 5 (nI ((sk (q 5) L P3) + 1)))))
              refine g_if_eq hE 207 dX5_readSieve_158 (by decide) (fun c11 => absurd c11 (by decide)) (fun c11 => ?_)
              refine g_aload_n hE dX5_readSieve_161 0 rfl ?_
              refine g_get hE fl_X5_28 dX5_readSieve_162 0 rfl rfl ?_
              refine g_iload_n hE dX5_readSieve_165 1 rfl ?_
              refine g_iconst hE dX5_readSieve_166 3 (by decide) ?_
              refine g_iadd_n hE dX5_readSieve_167 hx (show 3 = nI 3 from rfl) ?_
              refine g_aload_n hE dX5_readSieve_168 0 rfl ?_
              refine g_callV hE (c_X5_nextByte cI cS a (pA (pA q 6 (upd (upd (upd (upd (q 6) b z) (b + 1) (rnV (q 5) L ((sk (q 5) L P) + 1) 1 60)) (b + 2) z3) (b + 3) 0)) 18 (upd (q 18) 5 (nI ((sk (q 5) L P3) + 1)))) htp hL rfl (sk_lt_of hP3L (c := 119) (by decide) c10)) mk_X5_nextByte mv_X5_nextByte ml_X5_122 dX5_readSieve_169 (As := []) (rest := [.int (nI (b + 3)), .ref (a 7)]) rfl rfl 0 rfl (show vwCl[5]? = some (RX5, TX5, 32) from rfl) (by decide) (by decide) (Nat.le_of_ble_eq_true rfl) (by decide) (by decide) [0, 1, 2, 3, 4, 5, 6, 7, 8, 9, 10, 11, 12, 13, 14, 15, 16, 17, 18] rfl (by decide) (fun u => Nat.le_of_ble_eq_true rfl) (ws' := fun u => modelW cI a (pA (pA q 6 (upd (upd (upd (upd (q 6) b z) (b + 1) (rnV (q 5) L ((sk (q 5) L P) + 1) 1 60)) (b + 2) z3) (b + 3) 0)) 18 (upd (q 18) 5 (nI (sk (q 5) L ((sk (q 5) L P3) + 1)))))) (fun u => rfl) (fun u hu => ?_)
              obtain ⟨r_12, rfl⟩ : ∃ z, z = u := ⟨_, rfl⟩
              have h13 : r_12 = (bt (q 5) L (sk (q 5) L ((sk (q 5) L P3) + 1))) := hu
              subst h13
              show Go E Q 3 0 0 172 [(0, .ref (a 0)), (1, .int x), (2, .int (bt (q 5) L (sk (q 5) L P)))] [.int (bt (q 5) L (sk (q 5) L ((sk (q 5) L P3) + 1))), .int (nI (b + 3)), .ref (a 7)] (modelW cI a (pA (pA q 6 (upd (upd (upd (upd (q 6) b z) (b + 1) (rnV (q 5) L ((sk (q 5) L P) + 1) 1 60)) (b + 2) z3) (b + 3) 0)) 18 (upd (q 18) 5 (nI (sk (q 5) L ((sk (q 5) L P3) + 1))))))
              refine g_bipush hE dX5_readSieve_172 48 (by decide) ?_
              refine g_isub hE dX5_readSieve_174 ?_
              refine g_iast_n hE dX5_readSieve_175 7 rfl (show (nI (b + 3)) = nI (b + 3) from rfl) (by omega) (modelW cI a (pA (pA q 6 (upd (upd (upd (upd (upd (q 6) b z) (b + 1) (rnV (q 5) L ((sk (q 5) L P) + 1) 1 60)) (b + 2) z3) (b + 3) 0) (b + 3) ((bt (q 5) L (sk (q 5) L ((sk (q 5) L P3) + 1))) - 48))) 18 (upd (q 18) 5 (nI (sk (q 5) L ((sk (q 5) L P3) + 1)))))) rfl ?_
              refine g_aload_n hE dX5_readSieve_176 0 rfl ?_
              refine g_get hE fl_X5_28 dX5_readSieve_177 0 rfl rfl ?_
              refine g_iload_n hE dX5_readSieve_180 1 rfl ?_
              refine g_iconst hE dX5_readSieve_181 3 (by decide) ?_
              refine g_iadd_n hE dX5_readSieve_182 hx (show 3 = nI 3 from rfl) ?_
              refine g_iald_n hE dX5_readSieve_183 7 rfl (show (nI (b + 3)) = nI (b + 3) from rfl) (by omega) ?_
              show Go E Q 3 0 0 184 [(0, .ref (a 0)), (1, .int x), (2, .int (bt (q 5) L (sk (q 5) L P)))] [.int ((upd (upd (upd (upd (upd (q 6) b z) (b + 1) (rnV (q 5) L ((sk (q 5) L P) + 1) 1 60)) (b + 2) z3) (b + 3) 0) (b + 3) ((bt (q 5) L (sk (q 5) L ((sk (q 5) L P3) + 1))) - 48)) (b + 3))] (modelW cI a (pA (pA q 6 (upd (upd (upd (upd (upd (q 6) b z) (b + 1) (rnV (q 5) L ((sk (q 5) L P) + 1) 1 60)) (b + 2) z3) (b + 3) 0) (b + 3) ((bt (q 5) L (sk (q 5) L ((sk (q 5) L P3) + 1))) - 48))) 18 (upd (q 18) 5 (nI (sk (q 5) L ((sk (q 5) L P3) + 1))))))
              rw [show ((upd (upd (upd (upd (upd (q 6) b z) (b + 1) (rnV (q 5) L ((sk (q 5) L P) + 1) 1 60)) (b + 2) z3) (b + 3) 0) (b + 3) ((bt (q 5) L (sk (q 5) L ((sk (q 5) L P3) + 1))) - 48)) (b + 3)) = ((bt (q 5) L (sk (q 5) L ((sk (q 5) L P3) + 1))) - 48) from upd_at _ _ _]
              refine g_i2l hE dX5_readSieve_184 ?_
              refine g_lconst hE dX5_readSieve_185 0 (by decide) ?_
              refine g_ldc2 hE dX5_readSieve_186 cl_X5_91 ?_
              refine g_callS hE (c_X5_in cI cS (Int32.toInt64 ((bt (q 5) L (sk (q 5) L ((sk (q 5) L P3) + 1))) - 48)) 0 3) mk_X5_in st_X5_in ml_X5_68 dX5_readSieve_189 (As := [.long (Int32.toInt64 ((bt (q 5) L (sk (q 5) L ((sk (q 5) L P3) + 1))) - 48)), .long 0, .long 3]) (rest := []) rfl rfl (by decide) (by decide) (Nat.le_of_ble_eq_true rfl) (by decide) (by decide) [] rfl (by decide) (fun u => Nat.le_of_ble_eq_true rfl) (ws' := fun u => modelW cI a (pA (pA q 6 (upd (upd (upd (upd (upd (q 6) b z) (b + 1) (rnV (q 5) L ((sk (q 5) L P) + 1) 1 60)) (b + 2) z3) (b + 3) 0) (b + 3) ((bt (q 5) L (sk (q 5) L ((sk (q 5) L P3) + 1))) - 48))) 18 (upd (q 18) 5 (nI (sk (q 5) L ((sk (q 5) L P3) + 1)))))) (fun u => rfl) (fun u hu => ?_)
              obtain ⟨r_14, rfl⟩ : ∃ z, z = u := ⟨_, rfl⟩
              have h15 : r_14 = if 0 ≤ ((bt (q 5) L (sk (q 5) L ((sk (q 5) L P3) + 1))) - 48) ∧ ((bt (q 5) L (sk (q 5) L ((sk (q 5) L P3) + 1))) - 48) ≤ 3 then 1 else 0 := (in_i (x := ((bt (q 5) L (sk (q 5) L ((sk (q 5) L P3) + 1))) - 48)) (lo := 0) (hi := 3) rfl rfl hu)
              by_cases c16 : 0 ≤ ((bt (q 5) L (sk (q 5) L ((sk (q 5) L P3) + 1))) - 48) ∧ ((bt (q 5) L (sk (q 5) L ((sk (q 5) L P3) + 1))) - 48) ≤ 3
              · rw [if_pos c16] at h15
                subst h15
                show Go E Q 3 0 0 192 [(0, .ref (a 0)), (1, .int x), (2, .int (bt (q 5) L (sk (q 5) L P)))] [.int 1] (modelW cI a (pA (pA q 6 (upd (upd (upd (upd (upd (q 6) b z) (b + 1) (rnV (q 5) L ((sk (q 5) L P) + 1) 1 60)) (b + 2) z3) (b + 3) 0) (b + 3) ((bt (q 5) L (sk (q 5) L ((sk (q 5) L P3) + 1))) - 48))) 18 (upd (q 18) 5 (nI (sk (q 5) L ((sk (q 5) L P3) + 1))))))
                refine g_if_ne hE 197 dX5_readSieve_192 (by decide) (fun c17 => ?_) (fun c17 => absurd c17 (by decide))
                refine g_aload_n hE dX5_readSieve_197 0 rfl ?_
                refine g_dup hE dX5_readSieve_198 rfl ?_
                refine g_get hE fl_X5_119 dX5_readSieve_199 0 rfl rfl ?_
                refine g_iconst hE dX5_readSieve_202 1 (by decide) ?_
                refine g_iadd_n hE dX5_readSieve_203 (show (nI (sk (q 5) L ((sk (q 5) L P3) + 1))) = nI (sk (q 5) L ((sk (q 5) L P3) + 1)) from rfl) (show 1 = nI 1 from rfl) ?_
                refine g_put hE fl_X5_119 fp_5_11 dX5_readSieve_204 0 rfl rfl rfl (Nat.le_of_ble_eq_true rfl) (modelW cI a (pA (pA q 6 (upd (upd (upd (upd (upd (q 6) b z) (b + 1) (rnV (q 5) L ((sk (q 5) L P) + 1) 1 60)) (b + 2) z3) (b + 3) 0) (b + 3) ((bt (q 5) L (sk (q 5) L ((sk (q 5) L P3) + 1))) - 48))) 18 (upd (q 18) 5 (nI ((sk (q 5) L ((sk (q 5) L P3) + 1)) + 1))))) (by rfl) ?_
                refine g_iconst hE dX5_readSieve_207 1 (by decide) ?_
                exact g_iret hE hQ dX5_readSieve_208 (by first | rfl | decide) (1, ((sk (q 5) L ((sk (q 5) L P3) + 1)) + 1), (upd (upd (upd (upd (upd (q 6) b z) (b + 1) (rnV (q 5) L ((sk (q 5) L P) + 1) 1 60)) (b + 2) z3) (b + 3) 0) (b + 3) ((bt (q 5) L (sk (q 5) L ((sk (q 5) L P3) + 1))) - 48))) rfl rfl ⟨Or.inl ⟨rfl, sv_e hP hL hkn hv1 hz3 hP3 hv3 hzk c10 c16 (rd5 _ _ _ _ _ _ _)⟩, dg_le5 (sk_lt_of hP3L (c := 119) (by decide) c10) c16, (fun j hj => fr5 hj)⟩
              · rw [if_neg c16] at h15
                subst h15
                show Go E Q 3 0 0 192 [(0, .ref (a 0)), (1, .int x), (2, .int (bt (q 5) L (sk (q 5) L P)))] [.int 0] (modelW cI a (pA (pA q 6 (upd (upd (upd (upd (upd (q 6) b z) (b + 1) (rnV (q 5) L ((sk (q 5) L P) + 1) 1 60)) (b + 2) z3) (b + 3) 0) (b + 3) ((bt (q 5) L (sk (q 5) L ((sk (q 5) L P3) + 1))) - 48))) 18 (upd (q 18) 5 (nI (sk (q 5) L ((sk (q 5) L P3) + 1))))))
                refine g_if_ne hE 197 dX5_readSieve_192 (by decide) (fun c18 => absurd (by decide) c18) (fun c18 => ?_)
                refine g_iconst hE dX5_readSieve_195 0 (by decide) ?_
                exact g_iret hE hQ dX5_readSieve_196 (by first | rfl | decide) (0, (sk (q 5) L ((sk (q 5) L P3) + 1)), (upd (upd (upd (upd (upd (q 6) b z) (b + 1) (rnV (q 5) L ((sk (q 5) L P) + 1) 1 60)) (b + 2) z3) (b + 3) 0) (b + 3) ((bt (q 5) L (sk (q 5) L ((sk (q 5) L P3) + 1))) - 48))) rfl rfl ⟨Or.inr ⟨rfl, sv_d hP hL hkn hv1 hz3 hP3 hv3 c10 c16⟩, sk_le (sk_lt_of hP3L (c := 119) (by decide) c10), (fun j hj => fr5 hj)⟩
            · rw [if_neg c10] at h9
              subst h9
              refine g_world (modelW cI a (pA (pA q 6 (upd (upd (upd (upd (q 6) b z) (b + 1) (rnV (q 5) L ((sk (q 5) L P) + 1) 1 60)) (b + 2) z3) (b + 3) 0)) 18 (upd (q 18) 5 (nI (sk (q 5) L P3))))) (by rw [psP_n rfl c10]) ?_
              show Go E Q 3 0 0 158 [(0, .ref (a 0)), (1, .int x), (2, .int (bt (q 5) L (sk (q 5) L P)))] [.int 0] (modelW cI a (pA (pA q 6 (upd (upd (upd (upd (q 6) b z) (b + 1) (rnV (q 5) L ((sk (q 5) L P) + 1) 1 60)) (b + 2) z3) (b + 3) 0)) 18 (upd (q 18) 5 (nI (sk (q 5) L P3)))))
              refine g_if_eq hE 207 dX5_readSieve_158 (by decide) (fun c19 => ?_) (fun c19 => absurd (by decide) c19)
              refine g_iconst hE dX5_readSieve_207 1 (by decide) ?_
              exact g_iret hE hQ dX5_readSieve_208 (by first | rfl | decide) (1, (sk (q 5) L P3), (upd (upd (upd (upd (q 6) b z) (b + 1) (rnV (q 5) L ((sk (q 5) L P) + 1) 1 60)) (b + 2) z3) (b + 3) 0)) rfl rfl ⟨Or.inl ⟨rfl, sv_f hP hL hkn hv1 hz3 hP3 hv3 hzk c10 (rd4 _ _ _ _ _ _)⟩, sk_le hP3L, (fun j hj => fr4 hj)⟩
          · refine g_iconst hE dX5_readSieve_141 0 (by decide) ?_
            exact g_iret hE hQ dX5_readSieve_142 (by first | rfl | decide) (0, P3, (upd (upd (upd (q 6) b z) (b + 1) (rnV (q 5) L ((sk (q 5) L P) + 1) 1 60)) (b + 2) z3)) rfl rfl ⟨Or.inr ⟨rfl, sv_c hP hL hkn hv1 hz3 hP3 (show z3 < 0 from (Int32.not_le.mp c7))⟩, hP3L, (fun j hj => fr3 hj)⟩
        refine g_aload_n hE dX5_readSieve_108 0 rfl ?_
        refine g_bipush hE dX5_readSieve_109 104 (by decide) ?_
        refine g_callV hE (c_X5_takes cI cS a (pA (pA q 6 (upd (upd (q 6) b z) (b + 1) (rnV (q 5) L ((sk (q 5) L P) + 1) 1 60))) 18 (upd (q 18) 5 (nI (rnP (q 5) L ((sk (q 5) L P) + 1) 1 60)))) htp hL rfl (rnP_le hlt1) 104) mk_X5_takes mv_X5_takes ml_X5_135 dX5_readSieve_111 (As := [.int 104]) (rest := [.int (nI (b + 2)), .ref (a 7)]) rfl rfl 0 rfl (show vwCl[5]? = some (RX5, TX5, 32) from rfl) (by decide) (by decide) (Nat.le_of_ble_eq_true rfl) (by decide) (by decide) [0, 1, 2, 3, 4, 5, 6, 7, 8, 9, 10, 11, 12, 13, 14, 15, 16, 17, 18] rfl (by decide) (fun u => Nat.le_of_ble_eq_true rfl) (ws' := fun u => modelW cI a (pA (pA q 6 (upd (upd (q 6) b z) (b + 1) (rnV (q 5) L ((sk (q 5) L P) + 1) 1 60))) 18 (upd (q 18) 5 (nI (psP (q 5) L (rnP (q 5) L ((sk (q 5) L P) + 1) 1 60) 104))))) (fun u => rfl) (fun u hu => ?_)
        obtain ⟨r_20, rfl⟩ : ∃ z, z = u := ⟨_, rfl⟩
        have h21 : r_20 = if bt (q 5) L (sk (q 5) L (rnP (q 5) L ((sk (q 5) L P) + 1) 1 60)) = 104 then 1 else 0 := hu
        by_cases c22 : bt (q 5) L (sk (q 5) L (rnP (q 5) L ((sk (q 5) L P) + 1) 1 60)) = 104
        · rw [if_pos c22] at h21
          subst h21
          refine g_world (modelW cI a (pA (pA q 6 (upd (upd (q 6) b z) (b + 1) (rnV (q 5) L ((sk (q 5) L P) + 1) 1 60))) 18 (upd (q 18) 5 (nI ((sk (q 5) L (rnP (q 5) L ((sk (q 5) L P) + 1) 1 60)) + 1))))) (by rw [psP_y rfl c22]) ?_
          show Go E Q 3 0 0 114 [(0, .ref (a 0)), (1, .int x), (2, .int (bt (q 5) L (sk (q 5) L P)))] [.int 1, .int (nI (b + 2)), .ref (a 7)] (modelW cI a (pA (pA q 6 (upd (upd (q 6) b z) (b + 1) (rnV (q 5) L ((sk (q 5) L P) + 1) 1 60))) 18 (upd (q 18) 5 (nI ((sk (q 5) L (rnP (q 5) L ((sk (q 5) L P) + 1) 1 60)) + 1)))))
          refine g_if_eq hE 127 dX5_readSieve_114 (by decide) (fun c23 => absurd c23 (by decide)) (fun c23 => ?_)
          refine g_aload_n hE dX5_readSieve_117 0 rfl ?_
          refine g_iconst hE dX5_readSieve_118 1 (by decide) ?_
          refine g_ldc hE dX5_readSieve_119 ck_X5_138 ?_
          refine g_callV hE (c_X5_readNumber cI cS a (pA (pA q 6 (upd (upd (q 6) b z) (b + 1) (rnV (q 5) L ((sk (q 5) L P) + 1) 1 60))) 18 (upd (q 18) 5 (nI ((sk (q 5) L (rnP (q 5) L ((sk (q 5) L P) + 1) 1 60)) + 1)))) htp hL rfl (sk_lt_of (rnP_le hlt1) (c := 104) (by decide) c22) 1 99999 (by decide)) mk_X5_readNumber mv_X5_readNumber ml_X5_131 dX5_readSieve_121 (As := [.int 1, .int 99999]) (rest := [.int (nI (b + 2)), .ref (a 7)]) rfl rfl 0 rfl (show vwCl[5]? = some (RX5, TX5, 32) from rfl) (by decide) (by decide) (Nat.le_of_ble_eq_true rfl) (by decide) (by decide) [0, 1, 2, 3, 4, 5, 6, 7, 8, 9, 10, 11, 12, 13, 14, 15, 16, 17, 18] rfl (by decide) (fun u => Nat.le_of_ble_eq_true rfl) (ws' := fun u => modelW cI a (pA (pA q 6 (upd (upd (q 6) b z) (b + 1) (rnV (q 5) L ((sk (q 5) L P) + 1) 1 60))) 18 (upd (q 18) 5 (nI (rnP (q 5) L ((sk (q 5) L (rnP (q 5) L ((sk (q 5) L P) + 1) 1 60)) + 1) 1 99999))))) (fun u => rfl) (fun u hu => ?_)
          obtain ⟨r_24, rfl⟩ : ∃ z, z = u := ⟨_, rfl⟩
          have h25 : r_24 = (rnV (q 5) L ((sk (q 5) L (rnP (q 5) L ((sk (q 5) L P) + 1) 1 60)) + 1) 1 99999) := hu
          subst h25
          show Go E Q 3 0 0 124 [(0, .ref (a 0)), (1, .int x), (2, .int (bt (q 5) L (sk (q 5) L P)))] [.int (rnV (q 5) L ((sk (q 5) L (rnP (q 5) L ((sk (q 5) L P) + 1) 1 60)) + 1) 1 99999), .int (nI (b + 2)), .ref (a 7)] (modelW cI a (pA (pA q 6 (upd (upd (q 6) b z) (b + 1) (rnV (q 5) L ((sk (q 5) L P) + 1) 1 60))) 18 (upd (q 18) 5 (nI (rnP (q 5) L ((sk (q 5) L (rnP (q 5) L ((sk (q 5) L P) + 1) 1 60)) + 1) 1 99999)))))
          refine g_goto hE 129 dX5_readSieve_124 (by decide) ?_
          exact L129 (rnV (q 5) L ((sk (q 5) L (rnP (q 5) L ((sk (q 5) L P) + 1) 1 60)) + 1) 1 99999) (rnP (q 5) L ((sk (q 5) L (rnP (q 5) L ((sk (q 5) L P) + 1) 1 60)) + 1) 1 99999) (rnP_le (sk_lt_of (rnP_le hlt1) (c := 104) (by decide) c22)) (by rw [opV, if_pos c22]) (by rw [opP, if_pos c22])
        · rw [if_neg c22] at h21
          subst h21
          refine g_world (modelW cI a (pA (pA q 6 (upd (upd (q 6) b z) (b + 1) (rnV (q 5) L ((sk (q 5) L P) + 1) 1 60))) 18 (upd (q 18) 5 (nI (sk (q 5) L (rnP (q 5) L ((sk (q 5) L P) + 1) 1 60)))))) (by rw [psP_n rfl c22]) ?_
          show Go E Q 3 0 0 114 [(0, .ref (a 0)), (1, .int x), (2, .int (bt (q 5) L (sk (q 5) L P)))] [.int 0, .int (nI (b + 2)), .ref (a 7)] (modelW cI a (pA (pA q 6 (upd (upd (q 6) b z) (b + 1) (rnV (q 5) L ((sk (q 5) L P) + 1) 1 60))) 18 (upd (q 18) 5 (nI (sk (q 5) L (rnP (q 5) L ((sk (q 5) L P) + 1) 1 60))))))
          refine g_if_eq hE 127 dX5_readSieve_114 (by decide) (fun c26 => ?_) (fun c26 => absurd (by decide) c26)
          refine g_ldc hE dX5_readSieve_127 ck_X5_138 ?_
          exact L129 99999 (sk (q 5) L (rnP (q 5) L ((sk (q 5) L P) + 1) 1 60)) (sk_le (rnP_le hlt1)) (by rw [opV, if_neg c22]) (by rw [opP, if_neg c22])
      · refine g_iconst hE dX5_readSieve_99 0 (by decide) ?_
        exact g_iret hE hQ dX5_readSieve_100 (by first | rfl | decide) (0, (rnP (q 5) L ((sk (q 5) L P) + 1) 1 60), (upd (upd (q 6) b z) (b + 1) (rnV (q 5) L ((sk (q 5) L P) + 1) 1 60))) rfl rfl ⟨Or.inr ⟨rfl, sv_b hP hL hkn (show (rnV (q 5) L ((sk (q 5) L P) + 1) 1 60) < 0 from (Int32.not_le.mp c6))⟩, rnP_le hlt1, (fun j hj => fr2 hj)⟩
    · have hk0 : kdV (q 5) L P = -1 := kd_neg (by rw [← hzk]; exact (show z < 0 from (Int32.not_le.mp c3)))
      refine g_iconst hE dX5_readSieve_61 0 (by decide) ?_
      exact g_iret hE hQ dX5_readSieve_62 (by first | rfl | decide) (0, (sk (q 5) L P), (upd (q 6) b z)) rfl rfl ⟨Or.inr ⟨rfl, sv_a hP hL hk0⟩, sk_le hP, fun j hj => fr1 hj⟩
  refine g_iload_n hE dX5_readSieve_10 0 rfl ?_
  refine g_bipush hE dX5_readSieve_11 112 (by decide) ?_
  refine g_icmp_ne hE 20 dX5_readSieve_13 (by decide) (fun c27 => ?_) (fun c27 => ?_)
  · refine g_iload_n hE dX5_readSieve_20 0 rfl ?_
    refine g_bipush hE dX5_readSieve_21 115 (by decide) ?_
    refine g_icmp_ne hE 30 dX5_readSieve_23 (by decide) (fun c28 => ?_) (fun c28 => ?_)
    · refine g_iload_n hE dX5_readSieve_30 0 rfl ?_
      refine g_bipush hE dX5_readSieve_31 107 (by decide) ?_
      refine g_icmp_ne hE 40 dX5_readSieve_33 (by decide) (fun c29 => ?_) (fun c29 => ?_)
      · refine g_iload_n hE dX5_readSieve_40 0 rfl ?_
        refine g_bipush hE dX5_readSieve_41 116 (by decide) ?_
        refine g_icmp_ne hE 50 dX5_readSieve_43 (by decide) (fun c30 => ?_) (fun c30 => ?_)
        · refine g_iconst hE dX5_readSieve_50 (-1) (by decide) ?_
          refine g_locals [1, 2, 0] [(0, .ref (a 0)), (1, .int x), (2, .int (bt (q 5) L (sk (q 5) L P)))] rfl ?_
          exact L51 (-1) (kdn (show ¬ (bt (q 5) L (sk (q 5) L P)) = 112 from c27) (show ¬ (bt (q 5) L (sk (q 5) L P)) = 115 from c28) (show ¬ (bt (q 5) L (sk (q 5) L P)) = 107 from c29) (show ¬ (bt (q 5) L (sk (q 5) L P)) = 116 from c30)).symm
        · refine g_iconst hE dX5_readSieve_46 3 (by decide) ?_
          refine g_goto hE 51 dX5_readSieve_47 (by decide) ?_
          refine g_locals [1, 2, 0] [(0, .ref (a 0)), (1, .int x), (2, .int (bt (q 5) L (sk (q 5) L P)))] rfl ?_
          exact L51 3 (kd3 (show (bt (q 5) L (sk (q 5) L P)) = 116 from c30)).symm
      · refine g_iconst hE dX5_readSieve_36 2 (by decide) ?_
        refine g_goto hE 51 dX5_readSieve_37 (by decide) ?_
        refine g_locals [1, 2, 0] [(0, .ref (a 0)), (1, .int x), (2, .int (bt (q 5) L (sk (q 5) L P)))] rfl ?_
        exact L51 2 (kd2 (show (bt (q 5) L (sk (q 5) L P)) = 107 from c29)).symm
    · refine g_iconst hE dX5_readSieve_26 1 (by decide) ?_
      refine g_goto hE 51 dX5_readSieve_27 (by decide) ?_
      refine g_locals [1, 2, 0] [(0, .ref (a 0)), (1, .int x), (2, .int (bt (q 5) L (sk (q 5) L P)))] rfl ?_
      exact L51 1 (kd1 (show (bt (q 5) L (sk (q 5) L P)) = 115 from c28)).symm
  · refine g_iconst hE dX5_readSieve_16 0 (by decide) ?_
    refine g_goto hE 51 dX5_readSieve_17 (by decide) ?_
    refine g_locals [1, 2, 0] [(0, .ref (a 0)), (1, .int x), (2, .int (bt (q 5) L (sk (q 5) L P)))] rfl ?_
    exact L51 0 (kd0 (show (bt (q 5) L (sk (q 5) L P)) = 112 from c27)).symm
