/-! the reference: reading bytes and numbers -/
theorem pl_w {q : MS} {j : Nat} {v : Int32} (h : q 18 j = v) : q = pA q 18 (upd (q 18) j v) := by
  subst h; exact pq_same.symm
/-- figures as the reference reads them -/
def nqR (B : Nat → Int32) (L : Nat) : Nat → Nat → Int32 → Int32 × Nat
  | 0, q, acc => (acc, q)
  | f + 1, q, acc => if q < L ∧ (48 ≤ B q ∧ B q ≤ 57) then nqR B L f (q + 1) (if 999999 < acc then acc else ((10 * acc) + B q) - 48) else (acc, q)
theorem nq_s {B : Nat → Int32} {L q : Nat} {acc a2 : Int32} (h : q < L) (h2 : 48 ≤ B q ∧ B q ≤ 57) (ha : a2 = if 999999 < acc then acc else ((10 * acc) + B q) - 48) : nqR B L (L - q) q acc = nqR B L (L - (q + 1)) (q + 1) a2 := by
  rw [show L - q = (L - (q + 1)) + 1 by omega, nqR, if_pos ⟨h, h2⟩, ha]
theorem nq_e {B : Nat → Int32} {L q : Nat} {acc : Int32} (h : L ≤ q) : nqR B L (L - q) q acc = (acc, q) := by
  rw [show L - q = 0 by omega, nqR]
theorem nq_b {B : Nat → Int32} {L q : Nat} {acc : Int32} (h : ¬ (48 ≤ B q ∧ B q ≤ 57)) : nqR B L (L - q) q acc = (acc, q) := by
  cases hf : L - q with
  | zero => rfl
  | succ f => rw [nqR, if_neg (fun z => h z.2)]
theorem nq_ge {B : Nat → Int32} {L : Nat} : ∀ (f q : Nat) (acc : Int32), q ≤ (nqR B L f q acc).2
  | 0, q, acc => Nat.le_refl _
  | f + 1, q, acc => by
    rw [nqR]
    split
    · have := nq_ge (B := B) (L := L) f (q + 1) (if 999999 < acc then acc else ((10 * acc) + B q) - 48)
      omega
    · exact Nat.le_refl _
def NR (c r : Int32) : Prop := ∃ R, R ≤ 9999999 ∧ r = nI R ∧ c = nI (min R 100000)
theorem NR_0 : NR 0 0 := ⟨0, by decide, rfl, rfl⟩
theorem mul10 (R : Nat) : nI R * 10 = nI (10 * R) := by
  rw [Int32.mul_comm]; exact nI_imul 10 R
theorem NR_s {c r b : Int32} (h : NR c r) (hb : 48 ≤ b ∧ b ≤ 57) : NR (if 100000 < (((c * 10) + b) - 48) then 100000 else (((c * 10) + b) - 48)) (if 999999 < r then r else ((10 * r) + b) - 48) := by
  obtain ⟨R, h1, h2, h3⟩ := h
  obtain ⟨k, k1, k2, k3⟩ := rng_n (a := 48) (b := 57) hb.1 hb.2 rfl rfl (by decide) (by decide)
  subst h2; subst h3; subst k3
  have e1 : ((nI (min R 100000) * 10) + nI k) - 48 = nI (10 * min R 100000 + k - 48) := by
    rw [mul10, nI_add]
    exact nI_isub (i := _) (j := 48) (by omega)
  have e2 : ((10 * nI R) + nI k) - 48 = nI (10 * R + k - 48) := by
    rw [show (10 : Int32) * nI R = nI (10 * R) from nI_imul 10 R, nI_add]
    exact nI_isub (i := _) (j := 48) (by omega)
  rw [e1, e2]
  have i1 : (100000 : Int32) < nI (10 * min R 100000 + k - 48) ↔ 100000 < 10 * min R 100000 + k - 48 := nI_ltI (a := 100000) (by decide) (by omega)
  have i2 : (999999 : Int32) < nI R ↔ 999999 < R := nI_ltI (a := 999999) (by decide) (by omega)
  by_cases c1 : 999999 < R
  · rw [if_pos (i2.mpr c1), if_pos (i1.mpr (by omega))]
    exact ⟨R, h1, rfl, by rw [show min R 100000 = 100000 by omega]; rfl⟩
  · rw [if_neg (fun z => c1 (i2.mp z))]
    refine ⟨10 * R + k - 48, by omega, rfl, ?_⟩
    by_cases c2 : 100000 < 10 * min R 100000 + k - 48
    · rw [if_pos (i1.mpr c2), show min (10 * R + k - 48) 100000 = 100000 by omega]; rfl
    · rw [if_neg (fun z => c2 (i1.mp z))]
      congr 1
      omega
theorem nq_nu {B : Nat → Int32} {L : Nat} : ∀ (f q : Nat) (c r : Int32), NR c r → NR (nuR B L f q c).1 (nqR B L f q r).1 ∧ (nuR B L f q c).2 = (nqR B L f q r).2
  | 0, q, c, r, h => ⟨h, rfl⟩
  | f + 1, q, c, r, h => by
    rw [nuR, nqR]
    by_cases e : q < L ∧ (48 ≤ B q ∧ B q ≤ 57)
    · rw [if_pos e, if_pos e]
      exact nq_nu f (q + 1) _ _ (NR_s h e.2)
    · rw [if_neg e, if_neg e]
      exact ⟨h, rfl⟩
theorem NR_rng {c r lo hi : Int32} (h : NR c r) (hh : hi ≤ 99999) : ((lo ≤ r ∧ r ≤ hi) ↔ (lo ≤ c ∧ c ≤ hi)) ∧ ((lo ≤ c ∧ c ≤ hi) → c = r) := by
  obtain ⟨R, h1, h2, h3⟩ := h
  by_cases e : R < 100000
  · have : c = r := by rw [h2, h3, show min R 100000 = R by omega]
    rw [this]
    exact ⟨Iff.rfl, fun _ => rfl⟩
  · have a1 : ¬ r ≤ hi := fun z => by
      have := Int32.le_trans z hh
      rw [h2] at this
      have := (nI_leI (b := 99999) (by omega) (by decide)).mp this
      omega
    have a2 : ¬ c ≤ hi := fun z => by
      have := Int32.le_trans z hh
      rw [h3] at this
      have := (nI_leI (b := 99999) (by omega) (by decide)).mp this
      omega
    exact ⟨⟨fun z => absurd z.2 a1, fun z => absurd z.2 a2⟩, fun z => absurd z.2 a2⟩
theorem nI_nneg {n : Nat} (h : n < 2 ^ 31) : ¬ nI n < 0 := fun z => absurd ((nI_ltI (b := 0) h (by decide)).mp z) (Nat.not_lt_zero _)
/-- a number that is read, -1 at a fault; and the place -/
def rnV (B : Nat → Int32) (L P : Nat) (lo hi : Int32) : Int32 := if nuF B L P (-1) lo hi < 0 then nuV B L P else -1
def rnP (B : Nat → Int32) (L P : Nat) (lo hi : Int32) : Nat := if nuF B L P (-1) lo hi < 0 then nuP B L P else sk B L P
theorem bl_1 (w : Int32) : bl (-1) w = w := if_pos (by decide)
theorem dg_iff {B : Nat → Int32} {L q : Nat} : (48 ≤ bt B L q ∧ bt B L q ≤ 57) ↔ (q < L ∧ (48 ≤ B q ∧ B q ≤ 57)) := by
  unfold bt
  by_cases e : q < L
  · rw [if_pos e]; exact ⟨fun h => ⟨e, h⟩, fun h => h.2⟩
  · rw [if_neg e]; exact ⟨fun h => absurd h.1 (by decide), fun h => absurd h.1 e⟩
theorem rn_a {B : Nat → Int32} {L P Q : Nat} {acc lo hi : Int32} (hL : sk B L P < 2 ^ 31) (hk : nqR B L (L - sk B L P) (sk B L P) 0 = (acc, Q)) (e : Q = sk B L P) : -1 = rnV B L P lo hi ∧ Q = rnP B L P lo hi := by
  have nd : ¬ (48 ≤ bt B L (sk B L P) ∧ bt B L (sk B L P) ≤ 57) := by
    rw [dg_iff]
    intro z
    have h1 := nq_s (acc := 0) z.1 z.2 rfl
    rw [hk] at h1
    have h2 : sk B L P + 1 ≤ (nqR B L (L - (sk B L P + 1)) (sk B L P + 1) (if (999999 : Int32) < 0 then 0 else ((10 * 0) + B (sk B L P)) - 48)).2 := nq_ge _ _ _
    have h3 := congrArg Prod.snd h1
    have h3 : Q = (nqR B L (L - (sk B L P + 1)) (sk B L P + 1) (if (999999 : Int32) < 0 then 0 else ((10 * 0) + B (sk B L P)) - 48)).2 := h3
    omega
  have hf : ¬ nuF B L P (-1) lo hi < 0 := by rw [nuF, if_neg nd, bl_1]; exact nI_nneg hL
  rw [rnV, rnP, if_neg hf, if_neg hf]
  exact ⟨rfl, e⟩
theorem rn_dg {B : Nat → Int32} {L P Q : Nat} {acc : Int32} (hk : nqR B L (L - sk B L P) (sk B L P) 0 = (acc, Q)) (e : ¬ Q = sk B L P) : 48 ≤ bt B L (sk B L P) ∧ bt B L (sk B L P) ≤ 57 := by
  rw [dg_iff]
  apply Decidable.byContradiction
  intro z
  by_cases h : sk B L P < L
  · rw [nq_b (fun w => z ⟨h, w⟩)] at hk
    exact e (Prod.mk.inj hk).2.symm
  · rw [nq_e (by omega)] at hk
    exact e (Prod.mk.inj hk).2.symm
theorem rn_b {B : Nat → Int32} {L P Q : Nat} {acc lo hi : Int32} (hL : sk B L P < 2 ^ 31) (hh : hi ≤ 99999) (hk : nqR B L (L - sk B L P) (sk B L P) 0 = (acc, Q)) (e : ¬ Q = sk B L P) (h : ¬ (lo ≤ acc ∧ acc ≤ hi)) : -1 = rnV B L P lo hi ∧ sk B L P = rnP B L P lo hi := by
  have d := rn_dg hk e
  obtain ⟨n1, n2⟩ := nq_nu (B := B) (L := L) (L - sk B L P) (sk B L P) 0 0 NR_0
  rw [hk] at n1
  have r := NR_rng (lo := lo) n1 hh
  have hf : ¬ nuF B L P (-1) lo hi < 0 := by rw [nuF, if_pos d, if_neg (fun z => h (r.1.mpr z)), bl_1]; exact nI_nneg hL
  rw [rnV, rnP, if_neg hf, if_neg hf]
  exact ⟨rfl, rfl⟩
theorem rn_c {B : Nat → Int32} {L P Q : Nat} {acc lo hi : Int32} (hh : hi ≤ 99999) (hk : nqR B L (L - sk B L P) (sk B L P) 0 = (acc, Q)) (e : ¬ Q = sk B L P) (h : lo ≤ acc ∧ acc ≤ hi) : acc = rnV B L P lo hi ∧ Q = rnP B L P lo hi := by
  have d := rn_dg hk e
  obtain ⟨n1, n2⟩ := nq_nu (B := B) (L := L) (L - sk B L P) (sk B L P) 0 0 NR_0
  rw [hk] at n1 n2
  have r := NR_rng (lo := lo) n1 hh
  have hc := r.1.mp h
  have hf : nuF B L P (-1) lo hi < 0 := by rw [nuF, if_pos d, if_pos hc]; decide
  rw [rnV, rnP, if_pos hf, if_pos hf, nuV, nuP, if_pos d, if_pos d]
  exact ⟨(r.2 hc).symm, n2.symm⟩
theorem rnP_le {B : Nat → Int32} {L P : Nat} {lo hi : Int32} (h : P ≤ L) : rnP B L P lo hi ≤ L := by
  unfold rnP
  split
  · exact nuP_le h
  · exact sk_le h
set_option maxHeartbeats 4000000 in
set_option maxRecDepth 100000 in
theorem c_X5_nextByte (cI cS : ClassId) (a : Nat → Nat) (q : Nat → Nat → Int32) {L P : Nat} (htp : q 18 4 = nI L) (hL : L ≤ 120) (hpc : q 18 5 = nI P) (hP : P ≤ L) : CT cI cS yX5_nextByte cX5_nextByte 1 (some .int) 0 [.ref (a 0)] (modelW cI a q) 0 0 (fun u : Int32 => u = bt (q 5) L (sk (q 5) L P)) (fun u => some (.int u)) (fun u => (modelW cI a (pA q 18 (upd (q 18) 5 (nI (sk (q 5) L P)))))) := by
  refine ct_intro (by decide) (Nat.le_of_ble_eq_true rfl) (fun E Q hE hQ hI => ?_)
  have hE : CxOk E cI cS RX5 cX5_nextByte 1 (some .int) 0 0 0 := hE
  show Go E Q 1 0 0 0 [(0, .ref (a 0))] [] (modelW cI a q)
  refine g_world (modelW cI a (pA q 18 (upd (q 18) 5 (nI P)))) (congrArg (modelW cI a) (pl_w hpc)) ?_
  have L0 : ∀ (n_0 : Nat) (Q5 : Nat), (Q5 ≤ L) → (sk (q 5) L P = sk (q 5) L Q5) → (L - Q5 < n_0) → Go E Q 1 0 0 0 [(0, .ref (a 0))] [] (modelW cI a (pA q 18 (upd (q 18) 5 (nI Q5)))) := by
    intro n_0
    induction n_0 with
    | zero => intro Q5 hQ5 hs hm_0; exact absurd hm_0 (Nat.not_lt_zero _)
    | succ n_0 ih_0 =>
      intro Q5 hQ5 hs hm_0
      refine g_aload_n hE dX5_nextByte_0 0 rfl ?_
      refine g_get hE fl_X5_119 dX5_nextByte_1 0 rfl rfl ?_
      refine g_aload_n hE dX5_nextByte_4 0 rfl ?_
      refine g_get hE fl_X5_116 dX5_nextByte_5 0 rfl rfl ?_
      refine g_icmp_ge hE 38 dX5_nextByte_8 (by decide) (fun c1 => ?_) (fun c1 => ?_)
      · have kc1 := nat_le_t (show (q 18 4) = nI L from htp) (show (nI Q5) = nI Q5 from rfl) (by omega) (by omega) c1
        refine g_aload_n hE dX5_nextByte_38 0 rfl ?_
        refine g_get hE fl_X5_119 dX5_nextByte_39 0 rfl rfl ?_
        refine g_aload_n hE dX5_nextByte_42 0 rfl ?_
        refine g_get hE fl_X5_116 dX5_nextByte_43 0 rfl rfl ?_
        refine g_icmp_ge hE 61 dX5_nextByte_46 (by decide) (fun c2 => ?_) (fun c2 => absurd (Int32.not_lt.mp (show ¬ (nI Q5) < (q 18 4) from (Int32.not_lt.mpr c1))) c2)
        refine g_iconst hE dX5_nextByte_61 (-1) (by decide) ?_
        have hk : sk (q 5) L P = Q5 := hs.trans (by first | exact sk_e (by omega) | exact sk_b (by assumption))
        refine g_world (modelW cI a (pA q 18 (upd (q 18) 5 (nI (sk (q 5) L P))))) (by rw [hk]) ?_
        exact g_iret hE hQ dX5_nextByte_62 rfl (-1) rfl rfl (by rw [hk]; unfold bt; first | rw [if_pos (by omega)] | rw [if_neg (by omega)])
      · have kc1 := nat_le_f (show (q 18 4) = nI L from htp) (show (nI Q5) = nI Q5 from rfl) (by omega) (by omega) c1
        refine g_aload_n hE dX5_nextByte_11 0 rfl ?_
        refine g_get hE fl_X5_25 dX5_nextByte_12 0 rfl rfl ?_
        refine g_aload_n hE dX5_nextByte_15 0 rfl ?_
        refine g_get hE fl_X5_119 dX5_nextByte_16 0 rfl rfl ?_
        refine g_iald_n hE dX5_nextByte_19 6 rfl (show (nI Q5) = nI Q5 from rfl) (by omega) ?_
        refine g_bipush hE dX5_nextByte_20 32 (by decide) ?_
        refine g_icmp_ne hE 38 dX5_nextByte_22 (by decide) (fun c3 => ?_) (fun c3 => ?_)
        · refine g_aload_n hE dX5_nextByte_38 0 rfl ?_
          refine g_get hE fl_X5_119 dX5_nextByte_39 0 rfl rfl ?_
          refine g_aload_n hE dX5_nextByte_42 0 rfl ?_
          refine g_get hE fl_X5_116 dX5_nextByte_43 0 rfl rfl ?_
          refine g_icmp_ge hE 61 dX5_nextByte_46 (by decide) (fun c4 => absurd (show (nI Q5) < (q 18 4) from (Int32.not_le.mp c1)) (Int32.not_lt.mpr c4)) (fun c4 => ?_)
          refine g_aload_n hE dX5_nextByte_49 0 rfl ?_
          refine g_get hE fl_X5_25 dX5_nextByte_50 0 rfl rfl ?_
          refine g_aload_n hE dX5_nextByte_53 0 rfl ?_
          refine g_get hE fl_X5_119 dX5_nextByte_54 0 rfl rfl ?_
          refine g_iald_n hE dX5_nextByte_57 6 rfl (show (nI Q5) = nI Q5 from rfl) (by omega) ?_
          refine g_goto hE 62 dX5_nextByte_58 (by decide) ?_
          have hk : sk (q 5) L P = Q5 := hs.trans (by first | exact sk_e (by omega) | exact sk_b (by assumption))
          refine g_world (modelW cI a (pA q 18 (upd (q 18) 5 (nI (sk (q 5) L P))))) (by rw [hk]) ?_
          exact g_iret hE hQ dX5_nextByte_62 rfl ((q 5) Q5) rfl rfl (by rw [hk]; unfold bt; first | rw [if_pos (by omega)] | rw [if_neg (by omega)])
        · refine g_aload_n hE dX5_nextByte_25 0 rfl ?_
          refine g_dup hE dX5_nextByte_26 rfl ?_
          refine g_get hE fl_X5_119 dX5_nextByte_27 0 rfl rfl ?_
          refine g_iconst hE dX5_nextByte_30 1 (by decide) ?_
          refine g_iadd_n hE dX5_nextByte_31 (show (nI Q5) = nI Q5 from rfl) (show 1 = nI 1 from rfl) ?_
          refine g_put hE fl_X5_119 fp_5_11 dX5_nextByte_32 0 rfl rfl rfl (Nat.le_of_ble_eq_true rfl) (modelW cI a (pA q 18 (upd (q 18) 5 (nI (Q5 + 1))))) (by rfl) ?_
          refine g_goto hE 0 dX5_nextByte_35 (by decide) ?_
          exact ih_0 (Q5 + 1) (by first | assumption | omega) (hs.trans (sk_s (by omega) (by assumption))) (by omega)
  exact L0 _ P hP rfl (Nat.lt_succ_self _)
set_option maxHeartbeats 4000000 in
set_option maxRecDepth 100000 in
theorem c_X5_takes (cI cS : ClassId) (a : Nat → Nat) (q : Nat → Nat → Int32) {L P : Nat} (htp : q 18 4 = nI L) (hL : L ≤ 120) (hpc : q 18 5 = nI P) (hP : P ≤ L) (c : Int32) : CT cI cS yX5_takes cX5_takes 3 (some .boolean) 1 [.ref (a 0), .int c] (modelW cI a q) 0 0 (fun u : Int32 => u = if bt (q 5) L (sk (q 5) L P) = c then 1 else 0) (fun u => some (.int u)) (fun u => (modelW cI a (pA q 18 (upd (q 18) 5 (nI (psP (q 5) L P c)))))) := by
  refine ct_intro (by decide) (Nat.le_of_ble_eq_true rfl) (fun E Q hE hQ hI => ?_)
  have hE : CxOk E cI cS RX5 cX5_takes 3 (some .boolean) 1 0 0 := hE
  show Go E Q 3 0 0 0 [(0, .ref (a 0)), (1, .int c)] [] (modelW cI a q)
  refine g_world (modelW cI a (pA q 18 (upd (q 18) 5 (nI P)))) (congrArg (modelW cI a) (pl_w hpc)) ?_
  refine g_aload_n hE dX5_takes_0 0 rfl ?_
  refine g_callV hE (c_X5_nextByte cI cS a (pA q 18 (upd (q 18) 5 (nI P))) htp hL rfl hP) mk_X5_nextByte mv_X5_nextByte ml_X5_122 dX5_takes_1 (As := []) (rest := []) rfl rfl 0 rfl (show vwCl[5]? = some (RX5, TX5, 32) from rfl) (by decide) (by decide) (Nat.le_of_ble_eq_true rfl) (by decide) (by decide) [0, 1, 2, 3, 4, 5, 6, 7, 8, 9, 10, 11, 12, 13, 14, 15, 16, 17, 18] rfl (by decide) (fun u => Nat.le_of_ble_eq_true rfl) (ws' := fun u => modelW cI a (pA q 18 (upd (q 18) 5 (nI (sk (q 5) L P))))) (fun u => rfl) (fun u hu => ?_)
  obtain ⟨r_1, rfl⟩ : ∃ z, z = u := ⟨_, rfl⟩
  have h2 : r_1 = (bt (q 5) L (sk (q 5) L P)) := hu
  subst h2
  show Go E Q 3 0 0 4 [(0, .ref (a 0)), (1, .int c)] [.int (bt (q 5) L (sk (q 5) L P))] (modelW cI a (pA q 18 (upd (q 18) 5 (nI (sk (q 5) L P)))))
  refine g_iload_n hE dX5_takes_4 1 rfl ?_
  refine g_icmp_ne hE 12 dX5_takes_5 (by decide) (fun c3 => ?_) (fun c3 => ?_)
  · refine g_iconst hE dX5_takes_12 0 (by decide) ?_
    refine g_istore_n hE dX5_takes_13 [(2, .int 0), (0, .ref (a 0)), (1, .int c)] rfl (by decide) rfl ?_
    refine g_aload_n hE dX5_takes_14 1 rfl ?_
    refine g_dup hE dX5_takes_15 rfl ?_
    refine g_get hE fl_X5_119 dX5_takes_16 0 rfl rfl ?_
    refine g_iload_n hE dX5_takes_19 0 rfl ?_
    refine g_if_eq hE 27 dX5_takes_20 (by decide) (fun c4 => ?_) (fun c4 => absurd (by decide) c4)
    refine g_iconst hE dX5_takes_27 0 (by decide) ?_
    refine g_iadd_n hE dX5_takes_28 (show (nI (sk (q 5) L P)) = nI (sk (q 5) L P) from rfl) (show 0 = nI 0 from rfl) ?_
    refine g_put hE fl_X5_119 fp_5_11 dX5_takes_29 0 rfl rfl rfl (Nat.le_of_ble_eq_true rfl) (modelW cI a (pA q 18 (upd (q 18) 5 (nI ((sk (q 5) L P) + 0))))) (by rfl) ?_
    refine g_iload_n hE dX5_takes_32 0 rfl ?_
    refine g_world (modelW cI a (pA q 18 (upd (q 18) 5 (nI (psP (q 5) L P c))))) (by simp only [psP_n rfl (show ¬ (bt (q 5) L (sk (q 5) L P)) = c from c3), Nat.add_zero]) ?_
    exact g_iret hE hQ dX5_takes_33 (by first | rfl | decide) 0 rfl rfl (if_neg (show ¬ (bt (q 5) L (sk (q 5) L P)) = c from c3)).symm
  · refine g_iconst hE dX5_takes_8 1 (by decide) ?_
    refine g_goto hE 13 dX5_takes_9 (by decide) ?_
    refine g_istore_n hE dX5_takes_13 [(2, .int 1), (0, .ref (a 0)), (1, .int c)] rfl (by decide) rfl ?_
    refine g_aload_n hE dX5_takes_14 1 rfl ?_
    refine g_dup hE dX5_takes_15 rfl ?_
    refine g_get hE fl_X5_119 dX5_takes_16 0 rfl rfl ?_
    refine g_iload_n hE dX5_takes_19 0 rfl ?_
    refine g_if_eq hE 27 dX5_takes_20 (by decide) (fun c5 => absurd c5 (by decide)) (fun c5 => ?_)
    refine g_iconst hE dX5_takes_23 1 (by decide) ?_
    refine g_goto hE 28 dX5_takes_24 (by decide) ?_
    refine g_iadd_n hE dX5_takes_28 (show (nI (sk (q 5) L P)) = nI (sk (q 5) L P) from rfl) (show 1 = nI 1 from rfl) ?_
    refine g_put hE fl_X5_119 fp_5_11 dX5_takes_29 0 rfl rfl rfl (Nat.le_of_ble_eq_true rfl) (modelW cI a (pA q 18 (upd (q 18) 5 (nI ((sk (q 5) L P) + 1))))) (by rfl) ?_
    refine g_iload_n hE dX5_takes_32 0 rfl ?_
    refine g_world (modelW cI a (pA q 18 (upd (q 18) 5 (nI (psP (q 5) L P c))))) (by simp only [psP_y rfl (show (bt (q 5) L (sk (q 5) L P)) = c from c3), Nat.add_zero]) ?_
    exact g_iret hE hQ dX5_takes_33 (by first | rfl | decide) 1 rfl rfl (if_pos (show (bt (q 5) L (sk (q 5) L P)) = c from c3)).symm
set_option maxHeartbeats 4000000 in
set_option maxRecDepth 100000 in
theorem c_X5_readNumber (cI cS : ClassId) (a : Nat → Nat) (q : Nat → Nat → Int32) {L P : Nat} (htp : q 18 4 = nI L) (hL : L ≤ 120) (hpc : q 18 5 = nI P) (hP : P ≤ L) (lo hi : Int32) (hhi : hi ≤ 99999) : CT cI cS yX5_readNumber cX5_readNumber 5 (some .int) 1 [.ref (a 0), .int lo, .int hi] (modelW cI a q) 0 0 (fun u : Int32 => u = rnV (q 5) L P lo hi) (fun u => some (.int u)) (fun u => (modelW cI a (pA q 18 (upd (q 18) 5 (nI (rnP (q 5) L P lo hi)))))) := by
  refine ct_intro (by decide) (Nat.le_of_ble_eq_true rfl) (fun E Q hE hQ hI => ?_)
  have hE : CxOk E cI cS RX5 cX5_readNumber 5 (some .int) 1 0 0 := hE
  show Go E Q 5 0 0 0 [(0, .ref (a 0)), (1, .int lo), (2, .int hi)] [] (modelW cI a q)
  have hsk := sk_le (B := q 5) hP
  refine g_world (modelW cI a (pA q 18 (upd (q 18) 5 (nI P)))) (congrArg (modelW cI a) (pl_w hpc)) ?_
  refine g_aload_n hE dX5_readNumber_0 0 rfl ?_
  refine g_callV hE (c_X5_nextByte cI cS a (pA q 18 (upd (q 18) 5 (nI P))) htp hL rfl hP) mk_X5_nextByte mv_X5_nextByte ml_X5_122 dX5_readNumber_1 (As := []) (rest := []) rfl rfl 0 rfl (show vwCl[5]? = some (RX5, TX5, 32) from rfl) (by decide) (by decide) (Nat.le_of_ble_eq_true rfl) (by decide) (by decide) [0, 1, 2, 3, 4, 5, 6, 7, 8, 9, 10, 11, 12, 13, 14, 15, 16, 17, 18] rfl (by decide) (fun u => Nat.le_of_ble_eq_true rfl) (ws' := fun u => modelW cI a (pA q 18 (upd (q 18) 5 (nI (sk (q 5) L P))))) (fun u => rfl) (fun u hu => ?_)
  obtain ⟨r_1, rfl⟩ : ∃ z, z = u := ⟨_, rfl⟩
  have h2 : r_1 = (bt (q 5) L (sk (q 5) L P)) := hu
  subst h2
  show Go E Q 5 0 0 4 [(0, .ref (a 0)), (1, .int lo), (2, .int hi)] [.int (bt (q 5) L (sk (q 5) L P))] (modelW cI a (pA q 18 (upd (q 18) 5 (nI (sk (q 5) L P)))))
  refine g_pop hE dX5_readNumber_4 rfl ?_
  refine g_aload_n hE dX5_readNumber_5 0 rfl ?_
  refine g_get hE fl_X5_119 dX5_readNumber_6 0 rfl rfl ?_
  refine g_istore_n hE dX5_readNumber_9 [(3, .int (nI (sk (q 5) L P))), (0, .ref (a 0)), (1, .int lo), (2, .int hi)] rfl (by decide) rfl ?_
  refine g_iconst hE dX5_readNumber_10 0 (by decide) ?_
  refine g_istore hE dX5_readNumber_11 [(4, .int 0), (3, .int (nI (sk (q 5) L P))), (0, .ref (a 0)), (1, .int lo), (2, .int hi)] (by decide) rfl ?_
  have L13 : ∀ (n_13 : Nat) (Q5 : Nat) (acc : Int32), (Q5 ≤ L) → ((nqR (q 5) L (L - sk (q 5) L P) (sk (q 5) L P) 0) = nqR (q 5) L (L - Q5) Q5 acc) → (L - Q5 < n_13) → Go E Q 5 0 0 13 [(0, .ref (a 0)), (1, .int lo), (2, .int hi), (3, .int (nI (sk (q 5) L P))), (4, .int acc)] [] (modelW cI a (pA q 18 (upd (q 18) 5 (nI Q5)))) := by
    intro n_13
    induction n_13 with
    | zero => intro Q5 acc hQ5 hs hm_13; exact absurd hm_13 (Nat.not_lt_zero _)
    | succ n_13 ih_13 =>
      intro Q5 acc hQ5 hs hm_13
      refine g_aload_n hE dX5_readNumber_13 0 rfl ?_
      refine g_get hE fl_X5_119 dX5_readNumber_14 0 rfl rfl ?_
      refine g_aload_n hE dX5_readNumber_17 0 rfl ?_
      refine g_get hE fl_X5_116 dX5_readNumber_18 0 rfl rfl ?_
      refine g_icmp_ge hE 91 dX5_readNumber_21 (by decide) (fun c3 => ?_) (fun c3 => ?_)
      · have kc3 := nat_le_t (show (q 18 4) = nI L from htp) (show (nI Q5) = nI Q5 from rfl) (by omega) (by omega) c3
        have hk := hs.trans (nq_e (acc := acc) (show L ≤ Q5 by omega))
        refine g_aload_n hE dX5_readNumber_91 0 rfl ?_
        refine g_get hE fl_X5_119 dX5_readNumber_92 0 rfl rfl ?_
        refine g_iload_n hE dX5_readNumber_95 3 rfl ?_
        refine g_icmp_ne hE 101 dX5_readNumber_96 (by decide) (fun c4 => ?_) (fun c4 => ?_)
        · refine g_iload hE dX5_readNumber_101 4 rfl ?_
          refine g_i2l hE dX5_readNumber_103 ?_
          refine g_iload_n hE dX5_readNumber_104 1 rfl ?_
          refine g_i2l hE dX5_readNumber_105 ?_
          refine g_iload_n hE dX5_readNumber_106 2 rfl ?_
          refine g_i2l hE dX5_readNumber_107 ?_
          refine g_callS hE (c_X5_in cI cS (Int32.toInt64 acc) (Int32.toInt64 lo) (Int32.toInt64 hi)) mk_X5_in st_X5_in ml_X5_68 dX5_readNumber_108 (As := [.long (Int32.toInt64 acc), .long (Int32.toInt64 lo), .long (Int32.toInt64 hi)]) (rest := []) rfl rfl (by decide) (by decide) (Nat.le_of_ble_eq_true rfl) (by decide) (by decide) [] rfl (by decide) (fun u => Nat.le_of_ble_eq_true rfl) (ws' := fun u => modelW cI a (pA q 18 (upd (q 18) 5 (nI Q5)))) (fun u => rfl) (fun u hu => ?_)
          obtain ⟨r_5, rfl⟩ : ∃ z, z = u := ⟨_, rfl⟩
          have h6 : r_5 = if lo ≤ acc ∧ acc ≤ hi then 1 else 0 := (in_i (x := acc) (lo := lo) (hi := hi) rfl rfl hu)
          by_cases c7 : lo ≤ acc ∧ acc ≤ hi
          · rw [if_pos c7] at h6
            subst h6
            show Go E Q 5 0 0 111 [(0, .ref (a 0)), (1, .int lo), (2, .int hi), (3, .int (nI (sk (q 5) L P))), (4, .int acc)] [.int 1] (modelW cI a (pA q 18 (upd (q 18) 5 (nI Q5))))
            refine g_if_ne hE 121 dX5_readNumber_111 (by decide) (fun c8 => ?_) (fun c8 => absurd c8 (by decide))
            refine g_iload hE dX5_readNumber_121 4 rfl ?_
            have hr := rn_c hhi hk (fun z => (show ¬ (nI Q5) = (nI (sk (q 5) L P)) from c4) (congrArg nI z)) c7
            refine g_world (modelW cI a (pA q 18 (upd (q 18) 5 (nI (rnP (q 5) L P lo hi))))) (by rw [← hr.2]) ?_
            exact g_iret hE hQ dX5_readNumber_123 rfl acc rfl rfl hr.1
          · rw [if_neg c7] at h6
            subst h6
            show Go E Q 5 0 0 111 [(0, .ref (a 0)), (1, .int lo), (2, .int hi), (3, .int (nI (sk (q 5) L P))), (4, .int acc)] [.int 0] (modelW cI a (pA q 18 (upd (q 18) 5 (nI Q5))))
            refine g_if_ne hE 121 dX5_readNumber_111 (by decide) (fun c9 => absurd (by decide) c9) (fun c9 => ?_)
            refine g_aload_n hE dX5_readNumber_114 0 rfl ?_
            refine g_iload_n hE dX5_readNumber_115 3 rfl ?_
            refine g_put hE fl_X5_119 fp_5_11 dX5_readNumber_116 0 rfl rfl rfl (Nat.le_of_ble_eq_true rfl) (modelW cI a (pA q 18 (upd (q 18) 5 (nI (sk (q 5) L P))))) (by rfl) ?_
            refine g_iconst hE dX5_readNumber_119 (-1) (by decide) ?_
            have hr := rn_b (show sk (q 5) L P < 2 ^ 31 by omega) hhi hk (fun z => (show ¬ (nI Q5) = (nI (sk (q 5) L P)) from c4) (congrArg nI z)) c7
            refine g_world (modelW cI a (pA q 18 (upd (q 18) 5 (nI (rnP (q 5) L P lo hi))))) (by rw [← hr.2]) ?_
            exact g_iret hE hQ dX5_readNumber_120 rfl (-1) rfl rfl hr.1
        · refine g_iconst hE dX5_readNumber_99 (-1) (by decide) ?_
          have hr := rn_a (lo := lo) (hi := hi) (show sk (q 5) L P < 2 ^ 31 by omega) hk ((nI_eq (by omega) (by omega)).mp (show (nI Q5) = (nI (sk (q 5) L P)) from c4))
          refine g_world (modelW cI a (pA q 18 (upd (q 18) 5 (nI (rnP (q 5) L P lo hi))))) (by rw [← hr.2]) ?_
          exact g_iret hE hQ dX5_readNumber_100 rfl (-1) rfl rfl hr.1
      · have kc3 := nat_le_f (show (q 18 4) = nI L from htp) (show (nI Q5) = nI Q5 from rfl) (by omega) (by omega) c3
        refine g_aload_n hE dX5_readNumber_24 0 rfl ?_
        refine g_get hE fl_X5_25 dX5_readNumber_25 0 rfl rfl ?_
        refine g_aload_n hE dX5_readNumber_28 0 rfl ?_
        refine g_get hE fl_X5_119 dX5_readNumber_29 0 rfl rfl ?_
        refine g_iald_n hE dX5_readNumber_32 6 rfl (show (nI Q5) = nI Q5 from rfl) (by omega) ?_
        refine g_i2l hE dX5_readNumber_33 ?_
        refine g_ldc2 hE dX5_readNumber_34 cl_X5_126 ?_
        refine g_ldc2 hE dX5_readNumber_37 cl_X5_128 ?_
        refine g_callS hE (c_X5_in cI cS (Int32.toInt64 ((q 5) Q5)) 48 57) mk_X5_in st_X5_in ml_X5_68 dX5_readNumber_40 (As := [.long (Int32.toInt64 ((q 5) Q5)), .long 48, .long 57]) (rest := []) rfl rfl (by decide) (by decide) (Nat.le_of_ble_eq_true rfl) (by decide) (by decide) [] rfl (by decide) (fun u => Nat.le_of_ble_eq_true rfl) (ws' := fun u => modelW cI a (pA q 18 (upd (q 18) 5 (nI Q5)))) (fun u => rfl) (fun u hu => ?_)
        obtain ⟨r_10, rfl⟩ : ∃ z, z = u := ⟨_, rfl⟩
        have h11 : r_10 = if 48 ≤ ((q 5) Q5) ∧ ((q 5) Q5) ≤ 57 then 1 else 0 := (in_i (x := ((q 5) Q5)) (lo := 48) (hi := 57) rfl rfl hu)
        by_cases c12 : 48 ≤ ((q 5) Q5) ∧ ((q 5) Q5) ≤ 57
        · rw [if_pos c12] at h11
          subst h11
          show Go E Q 5 0 0 43 [(0, .ref (a 0)), (1, .int lo), (2, .int hi), (3, .int (nI (sk (q 5) L P))), (4, .int acc)] [.int 1] (modelW cI a (pA q 18 (upd (q 18) 5 (nI Q5))))
          refine g_if_eq hE 91 dX5_readNumber_43 (by decide) (fun c13 => absurd c13 (by decide)) (fun c13 => ?_)
          refine g_iload hE dX5_readNumber_46 4 rfl ?_
          refine g_ldc hE dX5_readNumber_48 ck_X5_130 ?_
          refine g_icmp_le hE 58 dX5_readNumber_50 (by decide) (fun c14 => ?_) (fun c14 => ?_)
          · refine g_bipush hE dX5_readNumber_58 10 (by decide) ?_
            refine g_iload hE dX5_readNumber_60 4 rfl ?_
            refine g_imul hE dX5_readNumber_62 ?_
            refine g_aload_n hE dX5_readNumber_63 0 rfl ?_
            refine g_get hE fl_X5_25 dX5_readNumber_64 0 rfl rfl ?_
            refine g_aload_n hE dX5_readNumber_67 0 rfl ?_
            refine g_get hE fl_X5_119 dX5_readNumber_68 0 rfl rfl ?_
            refine g_iald_n hE dX5_readNumber_71 6 rfl (show (nI Q5) = nI Q5 from rfl) (by omega) ?_
            refine g_iadd hE dX5_readNumber_72 ?_
            refine g_bipush hE dX5_readNumber_73 48 (by decide) ?_
            refine g_isub hE dX5_readNumber_75 ?_
            refine g_istore hE dX5_readNumber_76 [(4, .int (((10 * acc) + ((q 5) Q5)) - 48)), (0, .ref (a 0)), (1, .int lo), (2, .int hi), (3, .int (nI (sk (q 5) L P)))] (by decide) rfl ?_
            refine g_aload_n hE dX5_readNumber_78 1 rfl ?_
            refine g_dup hE dX5_readNumber_79 rfl ?_
            refine g_get hE fl_X5_119 dX5_readNumber_80 0 rfl rfl ?_
            refine g_iconst hE dX5_readNumber_83 1 (by decide) ?_
            refine g_iadd_n hE dX5_readNumber_84 (show (nI Q5) = nI Q5 from rfl) (show 1 = nI 1 from rfl) ?_
            refine g_put hE fl_X5_119 fp_5_11 dX5_readNumber_85 0 rfl rfl rfl (Nat.le_of_ble_eq_true rfl) (modelW cI a (pA q 18 (upd (q 18) 5 (nI (Q5 + 1))))) (by rfl) ?_
            refine g_goto hE 13 dX5_readNumber_88 (by decide) ?_
            refine g_locals [1, 2, 3, 4, 0] [(0, .ref (a 0)), (1, .int lo), (2, .int hi), (3, .int (nI (sk (q 5) L P))), (4, .int (((10 * acc) + ((q 5) Q5)) - 48))] rfl ?_
            exact ih_13 (Q5 + 1) (((10 * acc) + ((q 5) Q5)) - 48) (by first | assumption | omega) (hs.trans (nq_s (by omega) c12 (if_neg (show ¬ 999999 < acc from (Int32.not_lt.mpr c14))).symm)) (by omega)
          · refine g_iload hE dX5_readNumber_53 4 rfl ?_
            refine g_goto hE 76 dX5_readNumber_55 (by decide) ?_
            refine g_istore hE dX5_readNumber_76 [(4, .int acc), (0, .ref (a 0)), (1, .int lo), (2, .int hi), (3, .int (nI (sk (q 5) L P)))] (by decide) rfl ?_
            refine g_aload_n hE dX5_readNumber_78 1 rfl ?_
            refine g_dup hE dX5_readNumber_79 rfl ?_
            refine g_get hE fl_X5_119 dX5_readNumber_80 0 rfl rfl ?_
            refine g_iconst hE dX5_readNumber_83 1 (by decide) ?_
            refine g_iadd_n hE dX5_readNumber_84 (show (nI Q5) = nI Q5 from rfl) (show 1 = nI 1 from rfl) ?_
            refine g_put hE fl_X5_119 fp_5_11 dX5_readNumber_85 0 rfl rfl rfl (Nat.le_of_ble_eq_true rfl) (modelW cI a (pA q 18 (upd (q 18) 5 (nI (Q5 + 1))))) (by rfl) ?_
            refine g_goto hE 13 dX5_readNumber_88 (by decide) ?_
            refine g_locals [1, 2, 3, 4, 0] [(0, .ref (a 0)), (1, .int lo), (2, .int hi), (3, .int (nI (sk (q 5) L P))), (4, .int acc)] rfl ?_
            exact ih_13 (Q5 + 1) acc (by first | assumption | omega) (hs.trans (nq_s (by omega) c12 (if_pos (show 999999 < acc from (Int32.not_le.mp c14))).symm)) (by omega)
        · rw [if_neg c12] at h11
          subst h11
          show Go E Q 5 0 0 43 [(0, .ref (a 0)), (1, .int lo), (2, .int hi), (3, .int (nI (sk (q 5) L P))), (4, .int acc)] [.int 0] (modelW cI a (pA q 18 (upd (q 18) 5 (nI Q5))))
          refine g_if_eq hE 91 dX5_readNumber_43 (by decide) (fun c15 => ?_) (fun c15 => absurd (by decide) c15)
          have hk := hs.trans (nq_b c12)
          refine g_aload_n hE dX5_readNumber_91 0 rfl ?_
          refine g_get hE fl_X5_119 dX5_readNumber_92 0 rfl rfl ?_
          refine g_iload_n hE dX5_readNumber_95 3 rfl ?_
          refine g_icmp_ne hE 101 dX5_readNumber_96 (by decide) (fun c16 => ?_) (fun c16 => ?_)
          · refine g_iload hE dX5_readNumber_101 4 rfl ?_
            refine g_i2l hE dX5_readNumber_103 ?_
            refine g_iload_n hE dX5_readNumber_104 1 rfl ?_
            refine g_i2l hE dX5_readNumber_105 ?_
            refine g_iload_n hE dX5_readNumber_106 2 rfl ?_
            refine g_i2l hE dX5_readNumber_107 ?_
            refine g_callS hE (c_X5_in cI cS (Int32.toInt64 acc) (Int32.toInt64 lo) (Int32.toInt64 hi)) mk_X5_in st_X5_in ml_X5_68 dX5_readNumber_108 (As := [.long (Int32.toInt64 acc), .long (Int32.toInt64 lo), .long (Int32.toInt64 hi)]) (rest := []) rfl rfl (by decide) (by decide) (Nat.le_of_ble_eq_true rfl) (by decide) (by decide) [] rfl (by decide) (fun u => Nat.le_of_ble_eq_true rfl) (ws' := fun u => modelW cI a (pA q 18 (upd (q 18) 5 (nI Q5)))) (fun u => rfl) (fun u hu => ?_)
            obtain ⟨r_17, rfl⟩ : ∃ z, z = u := ⟨_, rfl⟩
            have h18 : r_17 = if lo ≤ acc ∧ acc ≤ hi then 1 else 0 := (in_i (x := acc) (lo := lo) (hi := hi) rfl rfl hu)
            by_cases c19 : lo ≤ acc ∧ acc ≤ hi
            · rw [if_pos c19] at h18
              subst h18
              show Go E Q 5 0 0 111 [(0, .ref (a 0)), (1, .int lo), (2, .int hi), (3, .int (nI (sk (q 5) L P))), (4, .int acc)] [.int 1] (modelW cI a (pA q 18 (upd (q 18) 5 (nI Q5))))
              refine g_if_ne hE 121 dX5_readNumber_111 (by decide) (fun c20 => ?_) (fun c20 => absurd c20 (by decide))
              refine g_iload hE dX5_readNumber_121 4 rfl ?_
              have hr := rn_c hhi hk (fun z => (show ¬ (nI Q5) = (nI (sk (q 5) L P)) from c16) (congrArg nI z)) c19
              refine g_world (modelW cI a (pA q 18 (upd (q 18) 5 (nI (rnP (q 5) L P lo hi))))) (by rw [← hr.2]) ?_
              exact g_iret hE hQ dX5_readNumber_123 rfl acc rfl rfl hr.1
            · rw [if_neg c19] at h18
              subst h18
              show Go E Q 5 0 0 111 [(0, .ref (a 0)), (1, .int lo), (2, .int hi), (3, .int (nI (sk (q 5) L P))), (4, .int acc)] [.int 0] (modelW cI a (pA q 18 (upd (q 18) 5 (nI Q5))))
              refine g_if_ne hE 121 dX5_readNumber_111 (by decide) (fun c21 => absurd (by decide) c21) (fun c21 => ?_)
              refine g_aload_n hE dX5_readNumber_114 0 rfl ?_
              refine g_iload_n hE dX5_readNumber_115 3 rfl ?_
              refine g_put hE fl_X5_119 fp_5_11 dX5_readNumber_116 0 rfl rfl rfl (Nat.le_of_ble_eq_true rfl) (modelW cI a (pA q 18 (upd (q 18) 5 (nI (sk (q 5) L P))))) (by rfl) ?_
              refine g_iconst hE dX5_readNumber_119 (-1) (by decide) ?_
              have hr := rn_b (show sk (q 5) L P < 2 ^ 31 by omega) hhi hk (fun z => (show ¬ (nI Q5) = (nI (sk (q 5) L P)) from c16) (congrArg nI z)) c19
              refine g_world (modelW cI a (pA q 18 (upd (q 18) 5 (nI (rnP (q 5) L P lo hi))))) (by rw [← hr.2]) ?_
              exact g_iret hE hQ dX5_readNumber_120 rfl (-1) rfl rfl hr.1
          · refine g_iconst hE dX5_readNumber_99 (-1) (by decide) ?_
            have hr := rn_a (lo := lo) (hi := hi) (show sk (q 5) L P < 2 ^ 31 by omega) hk ((nI_eq (by omega) (by omega)).mp (show (nI Q5) = (nI (sk (q 5) L P)) from c16))
            refine g_world (modelW cI a (pA q 18 (upd (q 18) 5 (nI (rnP (q 5) L P lo hi))))) (by rw [← hr.2]) ?_
            exact g_iret hE hQ dX5_readNumber_100 rfl (-1) rfl rfl hr.1
  refine g_locals [2, 3, 4, 1, 0] [(0, .ref (a 0)), (1, .int lo), (2, .int hi), (3, .int (nI (sk (q 5) L P))), (4, .int 0)] rfl ?_
  exact L13 _ (sk (q 5) L P) 0 hsk rfl (Nat.lt_succ_self _)
set_option maxHeartbeats 4000000 in
set_option maxRecDepth 100000 in
theorem c_X5_end0 (cI cS : ClassId) (a : Nat → Nat) (q : Nat → Nat → Int32) {L P : Nat} (htp : q 18 4 = nI L) (hL : L ≤ 120) (hpc : q 18 5 = nI P) (hP : P ≤ L) : CT cI cS yX5_end cX5_end 2 (some .int) 1 [.ref (a 0), .int 0] (modelW cI a q) 0 0 (fun u : Int32 => u = -20 - nI (sk (q 5) L P)) (fun u => some (.int u)) (fun u => (modelW cI a (pA q 18 (upd (upd (q 18) 4 0) 5 (nI (sk (q 5) L P)))))) := by
  refine ct_intro (by decide) (Nat.le_of_ble_eq_true rfl) (fun E Q hE hQ hI => ?_)
  have hE : CxOk E cI cS RX5 cX5_end 2 (some .int) 1 0 0 := hE
  show Go E Q 2 0 0 0 [(0, .ref (a 0)), (1, .int 0)] [] (modelW cI a q)
  refine g_world (modelW cI a (pA q 18 (upd (q 18) 5 (nI P)))) (congrArg (modelW cI a) (pl_w hpc)) ?_
  refine g_iload_n hE dX5_end_0 1 rfl ?_
  refine g_if_ne hE 9 dX5_end_1 (by decide) (fun c1 => absurd (by decide) c1) (fun c1 => ?_)
  refine g_aload_n hE dX5_end_4 0 rfl ?_
  refine g_callV hE (c_X5_nextByte cI cS a (pA q 18 (upd (q 18) 5 (nI P))) htp hL rfl hP) mk_X5_nextByte mv_X5_nextByte ml_X5_122 dX5_end_5 (As := []) (rest := []) rfl rfl 0 rfl (show vwCl[5]? = some (RX5, TX5, 32) from rfl) (by decide) (by decide) (Nat.le_of_ble_eq_true rfl) (by decide) (by decide) [0, 1, 2, 3, 4, 5, 6, 7, 8, 9, 10, 11, 12, 13, 14, 15, 16, 17, 18] rfl (by decide) (fun u => Nat.le_of_ble_eq_true rfl) (ws' := fun u => modelW cI a (pA q 18 (upd (q 18) 5 (nI (sk (q 5) L P))))) (fun u => rfl) (fun u hu => ?_)
  obtain ⟨r_2, rfl⟩ : ∃ z, z = u := ⟨_, rfl⟩
  have h3 : r_2 = (bt (q 5) L (sk (q 5) L P)) := hu
  subst h3
  show Go E Q 2 0 0 8 [(0, .ref (a 0)), (1, .int 0)] [.int (bt (q 5) L (sk (q 5) L P))] (modelW cI a (pA q 18 (upd (q 18) 5 (nI (sk (q 5) L P)))))
  refine g_pop hE dX5_end_8 rfl ?_
  refine g_aload_n hE dX5_end_9 0 rfl ?_
  refine g_iconst hE dX5_end_10 0 (by decide) ?_
  refine g_put hE fl_X5_116 fp_5_10 dX5_end_11 0 rfl rfl rfl (Nat.le_of_ble_eq_true rfl) (modelW cI a (pA q 18 (upd (upd (q 18) 4 0) 5 (nI (sk (q 5) L P))))) (by rfl) ?_
  refine g_iload_n hE dX5_end_14 1 rfl ?_
  refine g_if_eq hE 22 dX5_end_15 (by decide) (fun c4 => ?_) (fun c4 => absurd (by decide) c4)
  refine g_bipush hE dX5_end_22 (-20) (by decide) ?_
  refine g_aload_n hE dX5_end_24 0 rfl ?_
  refine g_get hE fl_X5_119 dX5_end_25 0 rfl rfl ?_
  refine g_isub hE dX5_end_28 ?_
  exact g_iret hE hQ dX5_end_29 rfl ((-20) - (nI (sk (q 5) L P))) rfl rfl rfl
set_option maxHeartbeats 4000000 in
set_option maxRecDepth 100000 in
theorem c_X5_end1 (cI cS : ClassId) (a : Nat → Nat) (q : Nat → Nat → Int32) {L P : Nat} (htp : q 18 4 = nI L) (hL : L ≤ 120) (hpc : q 18 5 = nI P) (hP : P ≤ L) : CT cI cS yX5_end cX5_end 2 (some .int) 1 [.ref (a 0), .int 1] (modelW cI a q) 0 0 (fun u : Int32 => u = 0) (fun u => some (.int u)) (fun u => (modelW cI a (pA q 18 (upd (upd (q 18) 4 0) 5 (nI P))))) := by
  refine ct_intro (by decide) (Nat.le_of_ble_eq_true rfl) (fun E Q hE hQ hI => ?_)
  have hE : CxOk E cI cS RX5 cX5_end 2 (some .int) 1 0 0 := hE
  show Go E Q 2 0 0 0 [(0, .ref (a 0)), (1, .int 1)] [] (modelW cI a q)
  refine g_world (modelW cI a (pA q 18 (upd (q 18) 5 (nI P)))) (congrArg (modelW cI a) (pl_w hpc)) ?_
  refine g_iload_n hE dX5_end_0 1 rfl ?_
  refine g_if_ne hE 9 dX5_end_1 (by decide) (fun c1 => ?_) (fun c1 => absurd c1 (by decide))
  refine g_aload_n hE dX5_end_9 0 rfl ?_
  refine g_iconst hE dX5_end_10 0 (by decide) ?_
  refine g_put hE fl_X5_116 fp_5_10 dX5_end_11 0 rfl rfl rfl (Nat.le_of_ble_eq_true rfl) (modelW cI a (pA q 18 (upd (upd (q 18) 4 0) 5 (nI P)))) (by rfl) ?_
  refine g_iload_n hE dX5_end_14 1 rfl ?_
  refine g_if_eq hE 22 dX5_end_15 (by decide) (fun c2 => absurd c2 (by decide)) (fun c2 => ?_)
  refine g_iconst hE dX5_end_18 0 (by decide) ?_
  refine g_goto hE 29 dX5_end_19 (by decide) ?_
  exact g_iret hE hQ dX5_end_29 rfl 0 rfl rfl rfl
