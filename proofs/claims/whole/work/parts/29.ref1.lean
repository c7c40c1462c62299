/-! the reference: its small methods -/
theorem w_le (a b : Int32) : a.toInt64 ≤ b.toInt64 ↔ a ≤ b := by
  rw [Int64.le_iff_toInt_le, Int32.le_iff_toInt_le, Int32.toInt_toInt64, Int32.toInt_toInt64]
theorem in_i {x lo hi : Int32} {c d : Int64} {r : Int32} (ha : lo.toInt64 = c) (hb : hi.toInt64 = d) (h : r = if c ≤ x.toInt64 ∧ x.toInt64 ≤ d then 1 else 0) : r = if lo ≤ x ∧ x ≤ hi then 1 else 0 := by
  subst ha; subst hb
  rw [h]
  simp only [w_le]
theorem lc_lt {x y : Int64} (h : lg_cmp x y < 0) : ¬ y ≤ x := by
  unfold lg_cmp at h
  split at h
  · exact absurd h (by decide)
  · rename_i h1
    split at h
    · exact absurd h (by decide)
    · rename_i h2
      intro q
      rcases Int64.lt_or_eq_of_le q with q | q
      · exact h1 q
      · exact h2 q.symm
theorem lc_ge {x y : Int64} (h : ¬ lg_cmp x y < 0) : y ≤ x := by
  unfold lg_cmp at h
  split at h
  · rename_i h1; exact Int64.le_of_lt h1
  · split at h
    · rename_i h2; rw [h2]; exact Int64.le_refl _
    · exact absurd (by decide) h
theorem lc_gt {x y : Int64} (h : 0 < lg_cmp x y) : ¬ x ≤ y := by
  unfold lg_cmp at h
  split at h
  · rename_i h1; exact fun q => absurd h1 (Int64.not_lt.mpr q)
  · split at h
    · exact absurd h (by decide)
    · exact absurd h (by decide)
theorem lc_le {x y : Int64} (h : ¬ 0 < lg_cmp x y) : x ≤ y := by
  unfold lg_cmp at h
  split at h
  · exact absurd (by decide) h
  · rename_i h1; exact Int64.not_lt.mp h1
theorem pred_t {x g : Int32} {n : Nat} (hx : x = nI n) (hn : n < 2 ^ 30) (h : 0 ≤ g ∧ g ≤ x - 1) : 0 ≤ g ∧ g < x := by
  subst hx
  refine ⟨h.1, ?_⟩
  cases n with
  | zero =>
    have h2 : g ≤ (-1 : Int32) := h.2
    exact absurd (Int32.le_trans h.1 h2) (by decide)
  | succ n =>
    have h2 := h.2
    rw [nI_pred] at h2
    obtain ⟨j, j1, j2, j3⟩ := nat_of_le (b := n) ⟨h.1, h2⟩ rfl (by omega)
    subst j2
    exact nI_lt (by omega) (by omega)
theorem pred_f {x g : Int32} {n : Nat} (hx : x = nI n) (hn : n < 2 ^ 30) (h : ¬ (0 ≤ g ∧ g ≤ x - 1)) : ¬ (0 ≤ g ∧ g < x) := by
  intro q
  apply h
  subst hx
  refine ⟨q.1, ?_⟩
  obtain ⟨j, j1, j2, j3⟩ := nat_of_lt (b := n) q rfl (by omega)
  subst j2
  cases n with
  | zero => omega
  | succ n => rw [nI_pred]; exact nI_le (by omega) (by omega)
set_option maxHeartbeats 4000000 in
set_option maxRecDepth 100000 in
theorem c_X5_in (cI cS : ClassId) (v lo hi : Int64) : CT cI cS yX5_in cX5_in 6 (some .boolean) 0 [.long v, .long lo, .long hi] (([] : va_W)) 0 0 (fun u : Int32 => u = if lo ≤ v ∧ v ≤ hi then 1 else 0) (fun u => some (.int u)) (fun u => (([] : va_W))) := by
  refine ct_intro (by decide) (Nat.le_of_ble_eq_true rfl) (fun E Q hE hQ hI => ?_)
  have hE : CxOk E cI cS RX5 cX5_in 6 (some .boolean) 0 0 0 := hE
  show Go E Q 6 0 0 0 [(0, .long v), (2, .long lo), (4, .long hi)] [] (([] : va_W))
  refine g_lload_n hE dX5_in_0 0 rfl ?_
  refine g_lload_n hE dX5_in_1 1 rfl ?_
  refine g_lcmp hE dX5_in_2 ?_
  refine g_if_lt hE 17 dX5_in_3 (by decide) (fun c1 => ?_) (fun c1 => ?_)
  · refine g_iconst hE dX5_in_17 0 (by decide) ?_
    exact g_iret hE hQ dX5_in_18 (by first | rfl | decide) 0 rfl rfl (by first | exact (if_pos ⟨lc_ge (by assumption), lc_le (by assumption)⟩).symm | exact (if_neg (fun z => lc_lt (by assumption) z.1)).symm | exact (if_neg (fun z => lc_gt (by assumption) z.2)).symm)
  · refine g_lload_n hE dX5_in_6 0 rfl ?_
    refine g_lload hE dX5_in_7 2 rfl ?_
    refine g_lcmp hE dX5_in_9 ?_
    refine g_if_gt hE 17 dX5_in_10 (by decide) (fun c2 => ?_) (fun c2 => ?_)
    · refine g_iconst hE dX5_in_17 0 (by decide) ?_
      exact g_iret hE hQ dX5_in_18 (by first | rfl | decide) 0 rfl rfl (by first | exact (if_pos ⟨lc_ge (by assumption), lc_le (by assumption)⟩).symm | exact (if_neg (fun z => lc_lt (by assumption) z.1)).symm | exact (if_neg (fun z => lc_gt (by assumption) z.2)).symm)
    · refine g_iconst hE dX5_in_13 1 (by decide) ?_
      refine g_goto hE 18 dX5_in_14 (by decide) ?_
      exact g_iret hE hQ dX5_in_18 (by first | rfl | decide) 1 rfl rfl (by first | exact (if_pos ⟨lc_ge (by assumption), lc_le (by assumption)⟩).symm | exact (if_neg (fun z => lc_lt (by assumption) z.1)).symm | exact (if_neg (fun z => lc_gt (by assumption) z.2)).symm)
set_option maxHeartbeats 4000000 in
set_option maxRecDepth 100000 in
theorem c_X5_has (cI cS : ClassId) (z k : Int32) : CT cI cS yX5_has cX5_has 2 (some .boolean) 0 [.int z, .int k] (([] : va_W)) 0 0 (fun u : Int32 => u = if ((z >>> (k &&& 31)) &&& 1) = 1 then 1 else 0) (fun u => some (.int u)) (fun u => (([] : va_W))) := by
  refine ct_intro (by decide) (Nat.le_of_ble_eq_true rfl) (fun E Q hE hQ hI => ?_)
  have hE : CxOk E cI cS RX5 cX5_has 2 (some .boolean) 0 0 0 := hE
  show Go E Q 2 0 0 0 [(0, .int z), (1, .int k)] [] (([] : va_W))
  refine g_iload_n hE dX5_has_0 0 rfl ?_
  refine g_iload_n hE dX5_has_1 1 rfl ?_
  refine g_ishr hE dX5_has_2 ?_
  refine g_iconst hE dX5_has_3 1 (by decide) ?_
  refine g_iand hE dX5_has_4 ?_
  refine g_iconst hE dX5_has_5 1 (by decide) ?_
  refine g_icmp_ne hE 13 dX5_has_6 (by decide) (fun c1 => ?_) (fun c1 => ?_)
  · refine g_iconst hE dX5_has_13 0 (by decide) ?_
    exact g_iret hE hQ dX5_has_14 (by first | rfl | decide) 0 rfl rfl (by first | exact (if_pos (by assumption)).symm | exact (if_neg (by assumption)).symm)
  · refine g_iconst hE dX5_has_9 1 (by decide) ?_
    refine g_goto hE 14 dX5_has_10 (by decide) ?_
    exact g_iret hE hQ dX5_has_14 (by first | rfl | decide) 1 rfl rfl (by first | exact (if_pos (by assumption)).symm | exact (if_neg (by assumption)).symm)
set_option maxHeartbeats 4000000 in
set_option maxRecDepth 100000 in
theorem c_X5_isGrain (cI cS : ClassId) (a : Nat → Nat) (q : Nat → Nat → Int32) {n : Nat} (hgr : q 18 0 = nI n) (hn6 : n ≤ 6) (g : Int32) : CT cI cS yX5_isGrain cX5_isGrain 2 (some .boolean) 1 [.ref (a 0), .int g] (modelW cI a q) 0 0 (fun u : Int32 => u = if 0 ≤ g ∧ g < q 18 0 then 1 else 0) (fun u => some (.int u)) (fun u => (modelW cI a q)) := by
  refine ct_intro (by decide) (Nat.le_of_ble_eq_true rfl) (fun E Q hE hQ hI => ?_)
  have hE : CxOk E cI cS RX5 cX5_isGrain 2 (some .boolean) 1 0 0 := hE
  show Go E Q 2 0 0 0 [(0, .ref (a 0)), (1, .int g)] [] (modelW cI a q)
  refine g_iload_n hE dX5_isGrain_0 1 rfl ?_
  refine g_i2l hE dX5_isGrain_1 ?_
  refine g_lconst hE dX5_isGrain_2 0 (by decide) ?_
  refine g_aload_n hE dX5_isGrain_3 0 rfl ?_
  refine g_get hE fl_X5_64 dX5_isGrain_4 0 rfl rfl ?_
  refine g_iconst hE dX5_isGrain_7 1 (by decide) ?_
  refine g_isub hE dX5_isGrain_8 ?_
  refine g_i2l hE dX5_isGrain_9 ?_
  refine g_callS hE (c_X5_in cI cS (Int32.toInt64 g) 0 (Int32.toInt64 ((q 18 0) - 1))) mk_X5_in st_X5_in ml_X5_68 dX5_isGrain_10 (As := [.long (Int32.toInt64 g), .long 0, .long (Int32.toInt64 ((q 18 0) - 1))]) (rest := []) rfl rfl (by decide) (by decide) (Nat.le_of_ble_eq_true rfl) (by decide) (by decide) [] rfl (by decide) (fun u => Nat.le_of_ble_eq_true rfl) (ws' := fun u => modelW cI a q) (fun u => rfl) (fun u hu => ?_)
  obtain ⟨r_1, rfl⟩ : ∃ z, z = u := ⟨_, rfl⟩
  have h2 : r_1 = if 0 ≤ g ∧ g ≤ ((q 18 0) - 1) then 1 else 0 := (in_i (x := g) (lo := 0) (hi := ((q 18 0) - 1)) rfl rfl hu)
  by_cases c3 : 0 ≤ g ∧ g ≤ ((q 18 0) - 1)
  · rw [if_pos c3] at h2
    subst h2
    show Go E Q 2 0 0 13 [(0, .ref (a 0)), (1, .int g)] [.int 1] (modelW cI a q)
    exact g_iret hE hQ dX5_isGrain_13 (by first | rfl | decide) 1 rfl rfl (by first | exact (if_pos (pred_t hgr (by omega) (by assumption))).symm | exact (if_neg (pred_f hgr (by omega) (by assumption))).symm)
  · rw [if_neg c3] at h2
    subst h2
    show Go E Q 2 0 0 13 [(0, .ref (a 0)), (1, .int g)] [.int 0] (modelW cI a q)
    exact g_iret hE hQ dX5_isGrain_13 (by first | rfl | decide) 0 rfl rfl (by first | exact (if_pos (pred_t hgr (by omega) (by assumption))).symm | exact (if_neg (pred_f hgr (by omega) (by assumption))).symm)
set_option maxHeartbeats 4000000 in
set_option maxRecDepth 100000 in
theorem c_X5_isSieve (cI cS : ClassId) (a : Nat → Nat) (q : Nat → Nat → Int32) {sv : Nat} (hsv : q 18 1 = nI sv) (hsv8 : sv ≤ 8) (g : Int32) : CT cI cS yX5_isSieve cX5_isSieve 2 (some .boolean) 1 [.ref (a 0), .int g] (modelW cI a q) 0 0 (fun u : Int32 => u = if 0 ≤ g ∧ g < q 18 1 then 1 else 0) (fun u => some (.int u)) (fun u => (modelW cI a q)) := by
  refine ct_intro (by decide) (Nat.le_of_ble_eq_true rfl) (fun E Q hE hQ hI => ?_)
  have hE : CxOk E cI cS RX5 cX5_isSieve 2 (some .boolean) 1 0 0 := hE
  show Go E Q 2 0 0 0 [(0, .ref (a 0)), (1, .int g)] [] (modelW cI a q)
  refine g_iload_n hE dX5_isSieve_0 1 rfl ?_
  refine g_i2l hE dX5_isSieve_1 ?_
  refine g_lconst hE dX5_isSieve_2 0 (by decide) ?_
  refine g_aload_n hE dX5_isSieve_3 0 rfl ?_
  refine g_get hE fl_X5_72 dX5_isSieve_4 0 rfl rfl ?_
  refine g_iconst hE dX5_isSieve_7 1 (by decide) ?_
  refine g_isub hE dX5_isSieve_8 ?_
  refine g_i2l hE dX5_isSieve_9 ?_
  refine g_callS hE (c_X5_in cI cS (Int32.toInt64 g) 0 (Int32.toInt64 ((q 18 1) - 1))) mk_X5_in st_X5_in ml_X5_68 dX5_isSieve_10 (As := [.long (Int32.toInt64 g), .long 0, .long (Int32.toInt64 ((q 18 1) - 1))]) (rest := []) rfl rfl (by decide) (by decide) (Nat.le_of_ble_eq_true rfl) (by decide) (by decide) [] rfl (by decide) (fun u => Nat.le_of_ble_eq_true rfl) (ws' := fun u => modelW cI a q) (fun u => rfl) (fun u hu => ?_)
  obtain ⟨r_1, rfl⟩ : ∃ z, z = u := ⟨_, rfl⟩
  have h2 : r_1 = if 0 ≤ g ∧ g ≤ ((q 18 1) - 1) then 1 else 0 := (in_i (x := g) (lo := 0) (hi := ((q 18 1) - 1)) rfl rfl hu)
  by_cases c3 : 0 ≤ g ∧ g ≤ ((q 18 1) - 1)
  · rw [if_pos c3] at h2
    subst h2
    show Go E Q 2 0 0 13 [(0, .ref (a 0)), (1, .int g)] [.int 1] (modelW cI a q)
    exact g_iret hE hQ dX5_isSieve_13 (by first | rfl | decide) 1 rfl rfl (by first | exact (if_pos (pred_t hsv (by omega) (by assumption))).symm | exact (if_neg (pred_f hsv (by omega) (by assumption))).symm)
  · rw [if_neg c3] at h2
    subst h2
    show Go E Q 2 0 0 13 [(0, .ref (a 0)), (1, .int g)] [.int 0] (modelW cI a q)
    exact g_iret hE hQ dX5_isSieve_13 (by first | rfl | decide) 0 rfl rfl (by first | exact (if_pos (pred_t hsv (by omega) (by assumption))).symm | exact (if_neg (pred_f hsv (by omega) (by assumption))).symm)
set_option maxHeartbeats 4000000 in
set_option maxRecDepth 100000 in
theorem c_X5_passes (cI cS : ClassId) (a : Nat → Nat) (q : Nat → Nat → Int32) (s : Int32) (sn : Nat) (hs : s = nI sn) (hs8 : sn < 8) (z : Int32) : CT cI cS yX5_passes cX5_passes 3 (some .boolean) 0 [.ref (a 0), .int s, .int z] (modelW cI a q) 0 0 (fun u : Int32 => u = if q 8 sn = 3 ∨ z ≤ q 9 sn then 1 else 0) (fun u => some (.int u)) (fun u => (modelW cI a q)) := by
  refine ct_intro (by decide) (Nat.le_of_ble_eq_true rfl) (fun E Q hE hQ hI => ?_)
  have hE : CxOk E cI cS RX5 cX5_passes 3 (some .boolean) 0 0 0 := hE
  show Go E Q 3 0 0 0 [(0, .ref (a 0)), (1, .int s), (2, .int z)] [] (modelW cI a q)
  refine g_aload_n hE dX5_passes_0 0 rfl ?_
  refine g_get hE fl_X5_34 dX5_passes_1 0 rfl rfl ?_
  refine g_iload_n hE dX5_passes_4 1 rfl ?_
  refine g_iald_n hE dX5_passes_5 9 rfl (show s = nI sn from hs) hs8 ?_
  refine g_iconst hE dX5_passes_6 3 (by decide) ?_
  refine g_icmp_eq hE 20 dX5_passes_7 (by decide) (fun c1 => ?_) (fun c1 => ?_)
  · refine g_iconst hE dX5_passes_20 1 (by decide) ?_
    refine g_goto hE 25 dX5_passes_21 (by decide) ?_
    exact g_iret hE hQ dX5_passes_25 (by first | rfl | decide) 1 rfl rfl (by first | exact (if_pos (Or.inl (by assumption))).symm | exact (if_pos (Or.inr (by first | assumption | exact Int32.not_lt.mp (by assumption)))).symm | exact (if_neg (fun q => q.elim (by assumption) (fun q => absurd q (Int32.not_le.mpr (by first | assumption | exact Int32.not_le.mp (by assumption)))))).symm)
  · refine g_iload_n hE dX5_passes_10 2 rfl ?_
    refine g_aload_n hE dX5_passes_11 0 rfl ?_
    refine g_get hE fl_X5_37 dX5_passes_12 0 rfl rfl ?_
    refine g_iload_n hE dX5_passes_15 1 rfl ?_
    refine g_iald_n hE dX5_passes_16 10 rfl (show s = nI sn from hs) hs8 ?_
    refine g_icmp_gt hE 24 dX5_passes_17 (by decide) (fun c2 => ?_) (fun c2 => ?_)
    · refine g_iconst hE dX5_passes_24 0 (by decide) ?_
      exact g_iret hE hQ dX5_passes_25 (by first | rfl | decide) 0 rfl rfl (by first | exact (if_pos (Or.inl (by assumption))).symm | exact (if_pos (Or.inr (by first | assumption | exact Int32.not_lt.mp (by assumption)))).symm | exact (if_neg (fun q => q.elim (by assumption) (fun q => absurd q (Int32.not_le.mpr (by first | assumption | exact Int32.not_le.mp (by assumption)))))).symm)
    · refine g_iconst hE dX5_passes_20 1 (by decide) ?_
      refine g_goto hE 25 dX5_passes_21 (by decide) ?_
      exact g_iret hE hQ dX5_passes_25 (by first | rfl | decide) 1 rfl rfl (by first | exact (if_pos (Or.inl (by assumption))).symm | exact (if_pos (Or.inr (by first | assumption | exact Int32.not_lt.mp (by assumption)))).symm | exact (if_neg (fun q => q.elim (by assumption) (fun q => absurd q (Int32.not_le.mpr (by first | assumption | exact Int32.not_le.mp (by assumption)))))).symm)
set_option maxHeartbeats 4000000 in
set_option maxRecDepth 100000 in
theorem c_X5_begin (cI cS : ClassId) (a : Nat → Nat) (q : Nat → Nat → Int32) {sv : Nat} (hsv : q 18 1 = nI sv) (hsv8 : sv ≤ 8) : CT cI cS yX5_begin cX5_begin 2 none 0 [.ref (a 0)] (modelW cI a q) 0 0 (fun u : (Nat → Int32) × (Nat → Int32) => ∀ s, s < sv → u.1 s = q 3 (4 * s) ∧ u.2 s = q 3 (4 * s + 1)) (fun u => none) (fun u => (modelW cI a (pA (pA q 8 u.1) 9 u.2))) := by
  refine ct_intro (by decide) (Nat.le_of_ble_eq_true rfl) (fun E Q hE hQ hI => ?_)
  have hE : CxOk E cI cS RX5 cX5_begin 2 none 0 0 0 := hE
  show Go E Q 2 0 0 0 [(0, .ref (a 0))] [] (modelW cI a q)
  refine g_iconst hE dX5_begin_0 0 (by decide) ?_
  refine g_istore_n hE dX5_begin_1 [(1, .int 0), (0, .ref (a 0))] rfl (by decide) rfl ?_
  have L2 : ∀ (n_2 : Nat) (s : Nat) (tk : Nat → Int32) (mh : Nat → Int32), (s ≤ sv) → (∀ j, j < s → tk j = q 3 (4 * j)) → (∀ j, j < s → mh j = q 3 (4 * j + 1)) → (sv - s < n_2) → Go E Q 2 0 0 2 [(0, .ref (a 0)), (1, .int (nI s))] [] (modelW cI a (pA (pA q 8 tk) 9 mh)) := by
    intro n_2
    induction n_2 with
    | zero => intro s tk mh hs h1 h2 hm_2; exact absurd hm_2 (Nat.not_lt_zero _)
    | succ n_2 ih_2 =>
      intro s tk mh hs h1 h2 hm_2
      refine g_iload_n hE dX5_begin_2 1 rfl ?_
      refine g_aload_n hE dX5_begin_3 0 rfl ?_
      refine g_get hE fl_X5_72 dX5_begin_4 0 rfl rfl ?_
      refine g_icmp_ge hE 46 dX5_begin_7 (by decide) (fun c1 => ?_) (fun c1 => ?_)
      · have kc1 := nat_le_t (show (q 18 1) = nI sv from hsv) (show (nI s) = nI s from rfl) (by omega) (by omega) c1
        exact g_vret hE hQ dX5_begin_46 (tk, mh) rfl rfl (fun j hj => ⟨h1 j (by omega), h2 j (by omega)⟩)
      · have kc1 := nat_le_f (show (q 18 1) = nI sv from hsv) (show (nI s) = nI s from rfl) (by omega) (by omega) c1
        refine g_aload_n hE dX5_begin_10 0 rfl ?_
        refine g_get hE fl_X5_34 dX5_begin_11 0 rfl rfl ?_
        refine g_iload_n hE dX5_begin_14 1 rfl ?_
        refine g_aload_n hE dX5_begin_15 0 rfl ?_
        refine g_get hE fl_X5_19 dX5_begin_16 0 rfl rfl ?_
        refine g_iconst hE dX5_begin_19 4 (by decide) ?_
        refine g_iload_n hE dX5_begin_20 1 rfl ?_
        refine g_imul_n hE dX5_begin_21 (show 4 = nI 4 from rfl) (show (nI s) = nI s from rfl) ?_
        refine g_iald_n hE dX5_begin_22 4 rfl (show (nI (4 * s)) = nI (4 * s) from rfl) (by omega) ?_
        refine g_iast_n hE dX5_begin_23 9 rfl (show (nI s) = nI s from rfl) (by omega) (modelW cI a (pA (pA (pA q 8 tk) 9 mh) 8 (upd tk s ((q 3) (4 * s))))) rfl ?_
        refine g_aload_n hE dX5_begin_24 0 rfl ?_
        refine g_get hE fl_X5_37 dX5_begin_25 0 rfl rfl ?_
        refine g_iload_n hE dX5_begin_28 1 rfl ?_
        refine g_aload_n hE dX5_begin_29 0 rfl ?_
        refine g_get hE fl_X5_19 dX5_begin_30 0 rfl rfl ?_
        refine g_iconst hE dX5_begin_33 4 (by decide) ?_
        refine g_iload_n hE dX5_begin_34 1 rfl ?_
        refine g_imul_n hE dX5_begin_35 (show 4 = nI 4 from rfl) (show (nI s) = nI s from rfl) ?_
        refine g_iconst hE dX5_begin_36 1 (by decide) ?_
        refine g_iadd_n hE dX5_begin_37 (show (nI (4 * s)) = nI (4 * s) from rfl) (show 1 = nI 1 from rfl) ?_
        refine g_iald_n hE dX5_begin_38 4 rfl (show (nI ((4 * s) + 1)) = nI ((4 * s) + 1) from rfl) (by omega) ?_
        refine g_iast_n hE dX5_begin_39 10 rfl (show (nI s) = nI s from rfl) (by omega) (modelW cI a (pA (pA (pA (pA q 8 tk) 9 mh) 8 (upd tk s ((q 3) (4 * s)))) 9 (upd mh s ((q 3) ((4 * s) + 1))))) rfl ?_
        refine g_iinc hE dX5_begin_40 1 (nI (s + 1)) [(1, .int (nI (s + 1))), (0, .ref (a 0))] rfl (nI_1 _) (by decide) rfl ?_
        refine g_goto hE 2 dX5_begin_43 (by decide) ?_
        refine g_locals [1, 0] [(0, .ref (a 0)), (1, .int (nI (s + 1)))] rfl ?_
        exact ih_2 (s + 1) (upd tk s ((q 3) (4 * s))) (upd mh s ((q 3) ((4 * s) + 1))) (by first | assumption | omega) (upd_pre (f := fun j => q 3 (4 * j)) h1 rfl) (upd_pre (f := fun j => q 3 (4 * j + 1)) h2 rfl) (by omega)
  refine g_locals [1, 0] [(0, .ref (a 0)), (1, .int 0)] rfl ?_
  exact L2 _ 0 (q 8) (q 9) (Nat.zero_le _) (fun j hj => absurd hj (Nat.not_lt_zero _)) (fun j hj => absurd hj (Nat.not_lt_zero _)) (Nat.lt_succ_self _)
set_option maxHeartbeats 4000000 in
set_option maxRecDepth 100000 in
theorem c_X5_takeRow (cI cS : ClassId) (a : Nat → Nat) (q : Nat → Nat → Int32) {pl : Nat} (hpl : q 18 2 = nI pl) (hpl6 : pl ≤ 6) : CT cI cS yX5_takeRow cX5_takeRow 2 none 0 [.ref (a 0)] (modelW cI a q) 0 0 (fun u : (Nat → Int32) => ∀ k, k < pl → u k = q 4 k) (fun u => none) (fun u => (modelW cI a (pA (pA q 18 (upd (q 18) 7 (q 18 2))) 7 u))) := by
  refine ct_intro (by decide) (Nat.le_of_ble_eq_true rfl) (fun E Q hE hQ hI => ?_)
  have hE : CxOk E cI cS RX5 cX5_takeRow 2 none 0 0 0 := hE
  show Go E Q 2 0 0 0 [(0, .ref (a 0))] [] (modelW cI a q)
  refine g_aload_n hE dX5_takeRow_0 0 rfl ?_
  refine g_aload_n hE dX5_takeRow_1 0 rfl ?_
  refine g_get hE fl_X5_102 dX5_takeRow_2 0 rfl rfl ?_
  refine g_put hE fl_X5_164 fp_5_15 dX5_takeRow_5 0 rfl rfl rfl (Nat.le_of_ble_eq_true rfl) (modelW cI a (pA q 18 (upd (q 18) 7 (q 18 2)))) (by rfl) ?_
  refine g_iconst hE dX5_takeRow_8 0 (by decide) ?_
  refine g_istore_n hE dX5_takeRow_9 [(1, .int 0), (0, .ref (a 0))] rfl (by decide) rfl ?_
  have L10 : ∀ (n_10 : Nat) (k : Nat) (tr : Nat → Int32), (k ≤ pl) → (∀ j, j < k → tr j = q 4 j) → (pl - k < n_10) → Go E Q 2 0 0 10 [(0, .ref (a 0)), (1, .int (nI k))] [] (modelW cI a (pA (pA q 18 (upd (q 18) 7 (q 18 2))) 7 tr)) := by
    intro n_10
    induction n_10 with
    | zero => intro k tr hk h1 hm_10; exact absurd hm_10 (Nat.not_lt_zero _)
    | succ n_10 ih_10 =>
      intro k tr hk h1 hm_10
      refine g_iload_n hE dX5_takeRow_10 1 rfl ?_
      refine g_aload_n hE dX5_takeRow_11 0 rfl ?_
      refine g_get hE fl_X5_102 dX5_takeRow_12 0 rfl rfl ?_
      refine g_icmp_ge hE 36 dX5_takeRow_15 (by decide) (fun c1 => ?_) (fun c1 => ?_)
      · have kc1 := nat_le_t (show (q 18 2) = nI pl from hpl) (show (nI k) = nI k from rfl) (by omega) (by omega) c1
        exact g_vret hE hQ dX5_takeRow_36 tr rfl rfl (fun j hj => h1 j (by omega))
      · have kc1 := nat_le_f (show (q 18 2) = nI pl from hpl) (show (nI k) = nI k from rfl) (by omega) (by omega) c1
        refine g_aload_n hE dX5_takeRow_18 0 rfl ?_
        refine g_get hE fl_X5_31 dX5_takeRow_19 0 rfl rfl ?_
        refine g_iload_n hE dX5_takeRow_22 1 rfl ?_
        refine g_aload_n hE dX5_takeRow_23 0 rfl ?_
        refine g_get hE fl_X5_22 dX5_takeRow_24 0 rfl rfl ?_
        refine g_iload_n hE dX5_takeRow_27 1 rfl ?_
        refine g_iald_n hE dX5_takeRow_28 5 rfl (show (nI k) = nI k from rfl) (by omega) ?_
        refine g_iast_n hE dX5_takeRow_29 8 rfl (show (nI k) = nI k from rfl) (by omega) (modelW cI a (pA (pA (pA q 18 (upd (q 18) 7 (q 18 2))) 7 tr) 7 (upd tr k ((q 4) k)))) rfl ?_
        refine g_iinc hE dX5_takeRow_30 1 (nI (k + 1)) [(1, .int (nI (k + 1))), (0, .ref (a 0))] rfl (nI_1 _) (by decide) rfl ?_
        refine g_goto hE 10 dX5_takeRow_33 (by decide) ?_
        refine g_locals [1, 0] [(0, .ref (a 0)), (1, .int (nI (k + 1)))] rfl ?_
        exact ih_10 (k + 1) (upd tr k ((q 4) k)) (by first | assumption | omega) (upd_pre h1 rfl) (by omega)
  refine g_locals [1, 0] [(0, .ref (a 0)), (1, .int 0)] rfl ?_
  exact L10 _ 0 (q 7) (Nat.zero_le _) (fun j hj => absurd hj (Nat.not_lt_zero _)) (Nat.lt_succ_self _)
