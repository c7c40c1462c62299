/-! the reference: reading bytes and numbers -/
theorem pl_w {q : MS} {j : Nat} {v : Int32} (h : q 18 j = v) : q = pA q 18 (upd (q 18) j v) := by
  subst h; exact pq_same.symm
/-- figures as the reference reads them -/
def nqR (B : Nat → Int32) (L : Nat) : Nat → Nat → Int32 → Int32 × Nat
  | 0, q, acc => (acc, q)
  | f + 1, q, acc => if q < L ∧ (48 ≤ B q ∧ B q ≤ 57) then nqR B L f (q + 1) (if 999999 < acc then acc else ((10 * acc) + B q) - 48) else (acc, q)
theorem nq_s {B : Nat → Int32} {L q : Nat} {acc a2 : Int32} (h : q < L) (h2 : 48 ≤ B q ∧ B q ≤ 57) (ha : a2 = if 999999 < acc then acc else ((10 * acc) + B q) - 48) : nqR B L (L - q) q acc = nqR B L (L - (q + 1)) (q + 1) a2 := by
  rw [show L - q = (L - (q + 1)) + 1 by omega, nqR, if_pos ⟨h, h2⟩, ha]
theorem nq_e {B : Nat → Int32} {L q : Nat} {acc : Int32} (h : L ≤ q) : nqR B L (L - q) q acc = (acc, q) := by
  rw [show L - q = 0 by omega, nqR]
theorem nq_b {B : Nat → Int32} {L q : Nat} {acc : Int32} (h : ¬ (48 ≤ B q ∧ B q ≤ 57)) : nqR B L (L - q) q acc = (acc, q) := by
  cases hf : L - q with
  | zero => rfl
  | succ f => rw [nqR, if_neg (fun z => h z.2)]
theorem nq_ge {B : Nat → Int32} {L : Nat} : ∀ (f q : Nat) (acc : Int32), q ≤ (nqR B L f q acc).2
  | 0, q, acc => Nat.le_refl _
  | f + 1, q, acc => by
    rw [nqR]
    split
    · have := nq_ge (B := B) (L := L) f (q + 1) (if 999999 < acc then acc else ((10 * acc) + B q) - 48)
      omega
    · exact Nat.le_refl _
def NR (c r : Int32) : Prop := ∃ R, R ≤ 9999999 ∧ r = nI R ∧ c = nI (min R 100000)
theorem NR_0 : NR 0 0 := ⟨0, by decide, rfl, rfl⟩
theorem mul10 (R : Nat) : nI R * 10 = nI (10 * R) := by
  rw [Int32.mul_comm]; exact nI_imul 10 R
theorem NR_s {c r b : Int32} (h : NR c r) (hb : 48 ≤ b ∧ b ≤ 57) : NR (if 100000 < (((c * 10) + b) - 48) then 100000 else (((c * 10) + b) - 48)) (if 999999 < r then r else ((10 * r) + b) - 48) := by
  obtain ⟨R, h1, h2, h3⟩ := h
  obtain ⟨k, k1, k2, k3⟩ := rng_n (a := 48) (b := 57) hb.1 hb.2 rfl rfl (by decide) (by decide)
  subst h2; subst h3; subst k3
  have e1 : ((nI (min R 100000) * 10) + nI k) - 48 = nI (10 * min R 100000 + k - 48) := by
    rw [mul10, nI_add]
    exact nI_isub (i := _) (j := 48) (by omega)
  have e2 : ((10 * nI R) + nI k) - 48 = nI (10 * R + k - 48) := by
    rw [show (10 : Int32) * nI R = nI (10 * R) from nI_imul 10 R, nI_add]
    exact nI_isub (i := _) (j := 48) (by omega)
  rw [e1, e2]
  have i1 : (100000 : Int32) < nI (10 * min R 100000 + k - 48) ↔ 100000 < 10 * min R 100000 + k - 48 := nI_ltI (a := 100000) (by decide) (by omega)
  have i2 : (999999 : Int32) < nI R ↔ 999999 < R := nI_ltI (a := 999999) (by decide) (by omega)
  by_cases c1 : 999999 < R
  · rw [if_pos (i2.mpr c1), if_pos (i1.mpr (by omega))]
    exact ⟨R, h1, rfl, by rw [show min R 100000 = 100000 by omega]; rfl⟩
  · rw [if_neg (fun z => c1 (i2.mp z))]
    refine ⟨10 * R + k - 48, by omega, rfl, ?_⟩
    by_cases c2 : 100000 < 10 * min R 100000 + k - 48
    · rw [if_pos (i1.mpr c2), show min (10 * R + k - 48) 100000 = 100000 by omega]; rfl
    · rw [if_neg (fun z => c2 (i1.mp z))]
      congr 1
      omega
theorem nq_nu {B : Nat → Int32} {L : Nat} : ∀ (f q : Nat) (c r : Int32), NR c r → NR (nuR B L f q c).1 (nqR B L f q r).1 ∧ (nuR B L f q c).2 = (nqR B L f q r).2
  | 0, q, c, r, h => ⟨h, rfl⟩
  | f + 1, q, c, r, h => by
    rw [nuR, nqR]
    by_cases e : q < L ∧ (48 ≤ B q ∧ B q ≤ 57)
    · rw [if_pos e, if_pos e]
      exact nq_nu f (q + 1) _ _ (NR_s h e.2)
    · rw [if_neg e, if_neg e]
      exact ⟨h, rfl⟩
theorem NR_rng {c r lo hi : Int32} (h : NR c r) (hh : hi ≤ 99999) : ((lo ≤ r ∧ r ≤ hi) ↔ (lo ≤ c ∧ c ≤ hi)) ∧ ((lo ≤ c ∧ c ≤ hi) → c = r) := by
  obtain ⟨R, h1, h2, h3⟩ := h
  by_cases e : R < 100000
  · have : c = r := by rw [h2, h3, show min R 100000 = R by omega]
    rw [this]
    exact ⟨Iff.rfl, fun _ => rfl⟩
  · have a1 : ¬ r ≤ hi := fun z => by
      have := Int32.le_trans z hh
      rw [h2] at this
      have := (nI_leI (b := 99999) (by omega) (by decide)).mp this
      omega
    have a2 : ¬ c ≤ hi := fun z => by
      have := Int32.le_trans z hh
      rw [h3] at this
      have := (nI_leI (b := 99999) (by omega) (by decide)).mp this
      omega
    exact ⟨⟨fun z => absurd z.2 a1, fun z => absurd z.2 a2⟩, fun z => absurd z.2 a2⟩
theorem nI_nneg {n : Nat} (h : n < 2 ^ 31) : ¬ nI n < 0 := fun z => absurd ((nI_ltI (b := 0) h (by decide)).mp z) (Nat.not_lt_zero _)
/-- a number that is read, -1 at a fault; and the place -/
def rnV (B : Nat → Int32) (L P : Nat) (lo hi : Int32) : Int32 := if nuF B L P (-1) lo hi < 0 then nuV B L P else -1
def rnP (B : Nat → Int32) (L P : Nat) (lo hi : Int32) : Nat := if nuF B L P (-1) lo hi < 0 then nuP B L P else sk B L P
theorem bl_1 (w : Int32) : bl (-1) w = w := if_pos (by decide)
theorem dg_iff {B : Nat → Int32} {L q : Nat} : (48 ≤ bt B L q ∧ bt B L q ≤ 57) ↔ (q < L ∧ (48 ≤ B q ∧ B q ≤ 57)) := by
  unfold bt
  by_cases e : q < L
  · rw [if_pos e]; exact ⟨fun h => ⟨e, h⟩, fun h => h.2⟩
  · rw [if_neg e]; exact ⟨fun h => absurd h.1 (by decide), fun h => absurd h.1 e⟩
theorem rn_a {B : Nat → Int32} {L P Q : Nat} {acc lo hi : Int32} (hL : sk B L P < 2 ^ 31) (hk : nqR B L (L - sk B L P) (sk B L P) 0 = (acc, Q)) (e : Q = sk B L P) : -1 = rnV B L P lo hi ∧ Q = rnP B L P lo hi := by
  have nd : ¬ (48 ≤ bt B L (sk B L P) ∧ bt B L (sk B L P) ≤ 57) := by
    rw [dg_iff]
    intro z
    have h1 := nq_s (acc := 0) z.1 z.2 rfl
    rw [hk] at h1
    have h2 : sk B L P + 1 ≤ (nqR B L (L - (sk B L P + 1)) (sk B L P + 1) (if (999999 : Int32) < 0 then 0 else ((10 * 0) + B (sk B L P)) - 48)).2 := nq_ge _ _ _
    have h3 := congrArg Prod.snd h1
    have h3 : Q = (nqR B L (L - (sk B L P + 1)) (sk B L P + 1) (if (999999 : Int32) < 0 then 0 else ((10 * 0) + B (sk B L P)) - 48)).2 := h3
    omega
  have hf : ¬ nuF B L P (-1) lo hi < 0 := by rw [nuF, if_neg nd, bl_1]; exact nI_nneg hL
  rw [rnV, rnP, if_neg hf, if_neg hf]
  exact ⟨rfl, e⟩
theorem rn_dg {B : Nat → Int32} {L P Q : Nat} {acc : Int32} (hk : nqR B L (L - sk B L P) (sk B L P) 0 = (acc, Q)) (e : ¬ Q = sk B L P) : 48 ≤ bt B L (sk B L P) ∧ bt B L (sk B L P) ≤ 57 := by
  rw [dg_iff]
  apply Decidable.byContradiction
  intro z
  by_cases h : sk B L P < L
  · rw [nq_b (fun w => z ⟨h, w⟩)] at hk
    exact e (Prod.mk.inj hk).2.symm
  · rw [nq_e (by omega)] at hk
    exact e (Prod.mk.inj hk).2.symm
theorem rn_b {B : Nat → Int32} {L P Q : Nat} {acc lo hi : Int32} (hL : sk B L P < 2 ^ 31) (hh : hi ≤ 99999) (hk : nqR B L (L - sk B L P) (sk B L P) 0 = (acc, Q)) (e : ¬ Q = sk B L P) (h : ¬ (lo ≤ acc ∧ acc ≤ hi)) : -1 = rnV B L P lo hi ∧ sk B L P = rnP B L P lo hi := by
  have d := rn_dg hk e
  obtain ⟨n1, n2⟩ := nq_nu (B := B) (L := L) (L - sk B L P) (sk B L P) 0 0 NR_0
  rw [hk] at n1
  have r := NR_rng (lo := lo) n1 hh
  have hf : ¬ nuF B L P (-1) lo hi < 0 := by rw [nuF, if_pos d, if_neg (fun z => h (r.1.mpr z)), bl_1]; exact nI_nneg hL
  rw [rnV, rnP, if_neg hf, if_neg hf]
  exact ⟨rfl, rfl⟩
theorem rn_c {B : Nat → Int32} {L P Q : Nat} {acc lo hi : Int32} (hh : hi ≤ 99999) (hk : nqR B L (L - sk B L P) (sk B L P) 0 = (acc, Q)) (e : ¬ Q = sk B L P) (h : lo ≤ acc ∧ acc ≤ hi) : acc = rnV B L P lo hi ∧ Q = rnP B L P lo hi := by
  have d := rn_dg hk e
  obtain ⟨n1, n2⟩ := nq_nu (B := B) (L := L) (L - sk B L P) (sk B L P) 0 0 NR_0
  rw [hk] at n1 n2
  have r := NR_rng (lo := lo) n1 hh
  have hc := r.1.mp h
  have hf : nuF B L P (-1) lo hi < 0 := by rw [nuF, if_pos d, if_pos hc]; decide
  rw [rnV, rnP, if_pos hf, if_pos hf, nuV, nuP, if_pos d, if_pos d]
  exact ⟨(r.2 hc).symm, n2.symm⟩
theorem rnP_le {B : Nat → Int32} {L P : Nat} {lo hi : Int32} (h : P ≤ L) : rnP B L P lo hi ≤ L := by
  unfold rnP
  split
  · exact nuP_le h
  · exact sk_le h
