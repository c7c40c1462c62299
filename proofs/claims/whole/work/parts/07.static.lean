/-! the class' static helpers -/
theorem vp_in_i {i : Int32} {n : Nat} (h : 0 ≤ i) (h2 : i < nI n) (hn : n < 2 ^ 31) : vp_in i n := by
  rw [vp_in_iff]
  rw [Int32.le_iff_toInt_le] at h
  rw [Int32.lt_iff_toInt_lt, nI_toInt hn] at h2
  exact ⟨h, h2⟩
/-- a list's value, 0 off it -/
def atv (f : Nat → Int32) (n : Nat) (i : Int32) : Int32 := if 0 ≤ i ∧ i < nI n then f i.toNatClampNeg else 0
def putv (f : Nat → Int32) (n : Nat) (i v : Int32) : Nat → Int32 := if 0 ≤ i ∧ i < nI n then upd f i.toNatClampNeg v else f
theorem atv_n {f : Nat → Int32} {n g : Nat} (h : g < n) (hn : n < 2 ^ 31) : atv f n (nI g) = f g := by
  unfold atv
  rw [if_pos ⟨nI_pos' (by omega), nI_lt h hn⟩, nI_clamp (by omega)]
theorem putv_n {f : Nat → Int32} {n g : Nat} {v : Int32} (h : g < n) (hn : n < 2 ^ 31) : putv f n (nI g) v = upd f g v := by
  unfold putv
  rw [if_pos ⟨nI_pos' (by omega), nI_lt h hn⟩, nI_clamp (by omega)]
set_option maxHeartbeats 4000000 in
set_option maxRecDepth 100000 in
theorem c_X4_within (cI cS : ClassId) (v lo hi : Int32) : CT cI cS yX4_within cX4_within 3 (some .boolean) 0 [.int v, .int lo, .int hi] ([] : va_W) 0 0 (fun u : Int32 => u = if lo ≤ v ∧ v ≤ hi then 1 else 0) (fun u => some (.int u)) (fun u => ([] : va_W)) := by
  refine ct_intro (by decide) (Nat.le_of_ble_eq_true rfl) (fun E Q hE hQ hI => ?_)
  have hE : CxOk E cI cS RX4 cX4_within 3 (some .boolean) 0 0 0 := hE
  show Go E Q 3 0 0 0 [(0, .int v), (1, .int lo), (2, .int hi)] [] ([] : va_W)
  refine g_iload_n hE dX4_within_0 0 rfl ?_
  refine g_iload_n hE dX4_within_1 1 rfl ?_
  refine g_icmp_lt hE 14 dX4_within_2 (by decide) (fun c1 => ?_) (fun c1 => ?_)
  · refine g_iconst hE dX4_within_14 0 (by decide) ?_
    exact g_iret hE hQ dX4_within_15 (by first | rfl | decide) 0 rfl rfl (if_neg (fun q => by obtain ⟨q1, q2⟩ := q; first | exact absurd q1 (by assumption) | exact absurd q2 (by assumption) | exact absurd q1 (Int32.not_lt.mpr (by assumption)) | exact absurd q2 (Int32.not_lt.mpr (by assumption)) | exact absurd q1 (Int32.not_le.mpr (by assumption)) | exact absurd q2 (Int32.not_le.mpr (by assumption)))).symm
  · refine g_iload_n hE dX4_within_5 0 rfl ?_
    refine g_iload_n hE dX4_within_6 2 rfl ?_
    refine g_icmp_gt hE 14 dX4_within_7 (by decide) (fun c2 => ?_) (fun c2 => ?_)
    · refine g_iconst hE dX4_within_14 0 (by decide) ?_
      exact g_iret hE hQ dX4_within_15 (by first | rfl | decide) 0 rfl rfl (if_neg (fun q => by obtain ⟨q1, q2⟩ := q; first | exact absurd q1 (by assumption) | exact absurd q2 (by assumption) | exact absurd q1 (Int32.not_lt.mpr (by assumption)) | exact absurd q2 (Int32.not_lt.mpr (by assumption)) | exact absurd q1 (Int32.not_le.mpr (by assumption)) | exact absurd q2 (Int32.not_le.mpr (by assumption)))).symm
    · refine g_iconst hE dX4_within_10 1 (by decide) ?_
      refine g_goto hE 15 dX4_within_11 (by decide) ?_
      exact g_iret hE hQ dX4_within_15 (by first | rfl | decide) 1 rfl rfl (if_pos (by (repeat' apply And.intro) <;> first | assumption | exact Int32.not_lt.mp (by assumption) | exact Int32.not_le.mp (by assumption))).symm
set_option maxHeartbeats 4000000 in
set_option maxRecDepth 100000 in
theorem c_X4_at (cI cS : ClassId) (q n : Nat) (f : Nat → Int32) (i : Int32) (hn : n < 2 ^ 31) : CT cI cS yX4_at cX4_at 2 (some .int) 0 [.ref q, .int i] ([(q, .inl (cI, n, .inl f))]) 0 0 (fun u : Int32 => u = atv f n i) (fun u => some (.int u)) (fun u => ([(q, .inl (cI, n, .inl f))])) := by
  refine ct_intro (by decide) (Nat.le_of_ble_eq_true rfl) (fun E Q hE hQ hI => ?_)
  have hE : CxOk E cI cS RX4 cX4_at 2 (some .int) 0 0 0 := hE
  show Go E Q 2 0 0 0 [(0, .ref q), (1, .int i)] [] ([(q, .inl (cI, n, .inl f))])
  refine g_iload_n hE dX4_at_0 1 rfl ?_
  refine g_if_lt hE 16 dX4_at_1 (by decide) (fun c1 => ?_) (fun c1 => ?_)
  · refine g_iconst hE dX4_at_16 0 (by decide) ?_
    exact g_iret hE hQ dX4_at_17 rfl 0 rfl rfl (by unfold atv; first | rw [if_pos ⟨by first | assumption | exact Int32.not_lt.mp (by assumption), by first | assumption | exact Int32.not_le.mp (by assumption)⟩] | rw [if_neg (fun q => by obtain ⟨q1, q2⟩ := q; first | exact absurd q1 (by assumption) | exact absurd q2 (by assumption) | exact absurd q1 (Int32.not_lt.mpr (by assumption)) | exact absurd q2 (Int32.not_lt.mpr (by assumption)) | exact absurd q1 (Int32.not_le.mpr (by assumption)) | exact absurd q2 (Int32.not_le.mpr (by assumption)))])
  · refine g_iload_n hE dX4_at_4 1 rfl ?_
    refine g_aload_n hE dX4_at_5 0 rfl ?_
    refine g_alen hE dX4_at_6 0 (nI n) rfl rfl ?_
    refine g_icmp_ge hE 16 dX4_at_7 (by decide) (fun c2 => ?_) (fun c2 => ?_)
    · refine g_iconst hE dX4_at_16 0 (by decide) ?_
      exact g_iret hE hQ dX4_at_17 rfl 0 rfl rfl (by unfold atv; first | rw [if_pos ⟨by first | assumption | exact Int32.not_lt.mp (by assumption), by first | assumption | exact Int32.not_le.mp (by assumption)⟩] | rw [if_neg (fun q => by obtain ⟨q1, q2⟩ := q; first | exact absurd q1 (by assumption) | exact absurd q2 (by assumption) | exact absurd q1 (Int32.not_lt.mpr (by assumption)) | exact absurd q2 (Int32.not_lt.mpr (by assumption)) | exact absurd q1 (Int32.not_le.mpr (by assumption)) | exact absurd q2 (Int32.not_le.mpr (by assumption)))])
    · refine g_aload_n hE dX4_at_10 0 rfl ?_
      refine g_iload_n hE dX4_at_11 1 rfl ?_
      refine g_iald hE dX4_at_12 0 rfl (vp_in_i (Int32.not_lt.mp (by assumption)) (Int32.not_le.mp (by assumption)) hn) ?_
      refine g_goto hE 17 dX4_at_13 (by decide) ?_
      exact g_iret hE hQ dX4_at_17 rfl (f (Int32.toNatClampNeg i)) rfl rfl (by unfold atv; first | rw [if_pos ⟨by first | assumption | exact Int32.not_lt.mp (by assumption), by first | assumption | exact Int32.not_le.mp (by assumption)⟩] | rw [if_neg (fun q => by obtain ⟨q1, q2⟩ := q; first | exact absurd q1 (by assumption) | exact absurd q2 (by assumption) | exact absurd q1 (Int32.not_lt.mpr (by assumption)) | exact absurd q2 (Int32.not_lt.mpr (by assumption)) | exact absurd q1 (Int32.not_le.mpr (by assumption)) | exact absurd q2 (Int32.not_le.mpr (by assumption)))])
set_option maxHeartbeats 4000000 in
set_option maxRecDepth 100000 in
theorem c_X4_put (cI cS : ClassId) (q n : Nat) (f : Nat → Int32) (i v : Int32) (hn : n < 2 ^ 31) : CT cI cS yX4_put cX4_put 3 none 0 [.ref q, .int i, .int v] ([(q, .inl (cI, n, .inl f))]) 0 0 (fun u : (Nat → Int32) => u = putv f n i v) (fun u => none) (fun u => ([(q, .inl (cI, n, .inl u))])) := by
  refine ct_intro (by decide) (Nat.le_of_ble_eq_true rfl) (fun E Q hE hQ hI => ?_)
  have hE : CxOk E cI cS RX4 cX4_put 3 none 0 0 0 := hE
  show Go E Q 3 0 0 0 [(0, .ref q), (1, .int i), (2, .int v)] [] ([(q, .inl (cI, n, .inl f))])
  refine g_iload_n hE dX4_put_0 1 rfl ?_
  refine g_if_lt hE 14 dX4_put_1 (by decide) (fun c1 => ?_) (fun c1 => ?_)
  · exact g_vret hE hQ dX4_put_14 f rfl rfl (by unfold putv; first | rw [if_pos ⟨by first | assumption | exact Int32.not_lt.mp (by assumption), by first | assumption | exact Int32.not_le.mp (by assumption)⟩] | rw [if_neg (fun q => by obtain ⟨q1, q2⟩ := q; first | exact absurd q1 (by assumption) | exact absurd q2 (by assumption) | exact absurd q1 (Int32.not_lt.mpr (by assumption)) | exact absurd q2 (Int32.not_lt.mpr (by assumption)) | exact absurd q1 (Int32.not_le.mpr (by assumption)) | exact absurd q2 (Int32.not_le.mpr (by assumption)))])
  · refine g_iload_n hE dX4_put_4 1 rfl ?_
    refine g_aload_n hE dX4_put_5 0 rfl ?_
    refine g_alen hE dX4_put_6 0 (nI n) rfl rfl ?_
    refine g_icmp_ge hE 14 dX4_put_7 (by decide) (fun c2 => ?_) (fun c2 => ?_)
    · exact g_vret hE hQ dX4_put_14 f rfl rfl (by unfold putv; first | rw [if_pos ⟨by first | assumption | exact Int32.not_lt.mp (by assumption), by first | assumption | exact Int32.not_le.mp (by assumption)⟩] | rw [if_neg (fun q => by obtain ⟨q1, q2⟩ := q; first | exact absurd q1 (by assumption) | exact absurd q2 (by assumption) | exact absurd q1 (Int32.not_lt.mpr (by assumption)) | exact absurd q2 (Int32.not_lt.mpr (by assumption)) | exact absurd q1 (Int32.not_le.mpr (by assumption)) | exact absurd q2 (Int32.not_le.mpr (by assumption)))])
    · refine g_aload_n hE dX4_put_10 0 rfl ?_
      refine g_iload_n hE dX4_put_11 1 rfl ?_
      refine g_iload_n hE dX4_put_12 2 rfl ?_
      refine g_iast hE dX4_put_13 0 rfl (vp_in_i (Int32.not_lt.mp (by assumption)) (Int32.not_le.mp (by assumption)) hn) ([(q, .inl (cI, n, .inl (upd f (Int32.toNatClampNeg i) v)))]) rfl ?_
      exact g_vret hE hQ dX4_put_14 (upd f (Int32.toNatClampNeg i) v) rfl rfl (by unfold putv; first | rw [if_pos ⟨by first | assumption | exact Int32.not_lt.mp (by assumption), by first | assumption | exact Int32.not_le.mp (by assumption)⟩] | rw [if_neg (fun q => by obtain ⟨q1, q2⟩ := q; first | exact absurd q1 (by assumption) | exact absurd q2 (by assumption) | exact absurd q1 (Int32.not_lt.mpr (by assumption)) | exact absurd q2 (Int32.not_lt.mpr (by assumption)) | exact absurd q1 (Int32.not_le.mpr (by assumption)) | exact absurd q2 (Int32.not_le.mpr (by assumption)))])
