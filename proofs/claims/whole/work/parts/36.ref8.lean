/-! the reference: copy, film, what would be found -/
theorem sk_n4 {k : Nat} {x : Int32} (h : SK k x) (hx : 0 ≤ x ∧ x ≤ 3) : ¬ k = 4 := by
  have := (sk_good h hx).1
  omega
theorem has_l {q : MS} {sh : SHS} {k : Nat} {i w : Int32} (h : SQ q sh) (hk : k < 4) (hn : ¬ sh k 1 0 = -1) (hw : 0 ≤ w) : ((0 : Int64) ≤ i.toInt64 ∧ i.toInt64 ≤ (q 15 k).toInt64 - w.toInt64) ↔ hasI (sh k 1 1) i w := by
  have r := (h k hk).2.2.resolve_left hn
  obtain ⟨L, _, hL, hLn⟩ := rng_n (a := 0) (b := 24) r.2.2.1 (h k hk).2.1 rfl rfl (by decide) (by decide)
  rw [r.2.1]
  exact has_long hLn hL hw
theorem has_nat2 {le i w : Int32} (h : hasI le i w) (hl : le ≤ 24) : ∃ j W, j + W ≤ 24 ∧ i = nI j ∧ w = nI W := by
  obtain ⟨L, l1, l2, _⟩ := nat_of_le (b := 24) (x := le) (y := 24) ⟨Int32.le_trans h.1 h.2.1, hl⟩ rfl (by decide)
  obtain ⟨j, j1, j2, _⟩ := nat_of_le (b := L) (x := i) (y := le) ⟨h.1, h.2.1⟩ l2 (by omega)
  have h3 := h.2.2.2
  rw [l2, j2, subs_pos L l1 j (by omega) j1] at h3
  obtain ⟨W, w1, w2, _⟩ := nat_of_le (b := L - j) (x := w) ⟨h.2.2.1, h3⟩ rfl (by omega)
  exact ⟨j, W, by omega, j2, w2⟩
theorem hA_z {m : MS} {n : Nat} {row : Nat → Int32} {l g : Nat} (hg : g < n) (h : ¬ 0 < m 1 g) : ∀ k, hA m n row l k g = -4
  | 0 => if_neg h
  | k + 1 => by
    unfold hA
    rw [if_neg, hA_z hg h k]
    intro q
    have : ∀ k, (cmS m n row k).testBit g = true → 0 < m 1 g := by
      intro k
      induction k with
      | zero => intro e; have e : (ldS m n).testBit g = true := e; rw [ld_bit hg, decide_eq_true_iff] at e; exact e
      | succ k ih => intro e; exact ih (fall_sub e)
    exact h (this k q.1)
theorem neg4 : ∀ k, k ≤ 6 → ¬ nI k = (-4 : Int32) := by decide
theorem hA_nz {m : MS} {n : Nat} {row : Nat → Int32} {l g : Nat} (hl : l ≤ 6) (h : 0 < m 1 g) : ∀ k, k ≤ l → ¬ hA m n row l k g = -4
  | 0, _ => by unfold hA; rw [if_pos h]; exact neg4 l hl
  | k + 1, hk => by
    unfold hA
    split
    · exact neg4 k (by omega)
    · exact hA_nz hl h k (by omega)
theorem pos_of {x : Int32} (h : 0 ≤ x) (h2 : ¬ x = 0) : 0 < x := Int32.lt_of_le_of_ne h (fun e => h2 e.symm)
theorem af_y {m : MS} {n pl g i : Nat} {T h : Nat → Int32} {y a it : Int32} (hl : pl ≤ 6) (hi : i + n ≤ 24) (hg : g < n) (ha : a = m 1 g) (hh : h g = hA m n (m 7) pl pl g) (hit : it = T (i + g)) (hy : y = if boB m n pl T (nI i) g = true then 1 else 0) (hy0 : ¬ y = 0) (hc : a = 0 ∨ h g = it) : (1 : Int32) = if boB m n pl T (nI i) (g + 1) = true then 1 else 0 := by
  have hb : boB m n pl T (nI i) g = true := by
    cases e : boB m n pl T (nI i) g
    · rw [e] at hy; exact absurd hy hy0
    · rfl
  rw [if_pos]
  refine bo_y hb ?_
  rw [← hA_ho hg, nI_add, atv_n (by omega) (by decide)]
  rcases hc with hc | hc
  · left
    exact hA_z hg (by rw [← ha, hc]; decide) pl
  · right
    rw [← hh, hc, hit]
theorem af_n {m : MS} {n pl g i : Nat} {T h : Nat → Int32} {a it : Int32} (hl : pl ≤ 6) (hi : i + n ≤ 24) (hg : g < n) (ha : a = m 1 g) (ha0 : 0 ≤ m 1 g) (hh : h g = hA m n (m 7) pl pl g) (hit : it = T (i + g)) (hc1 : ¬ a = 0) (hc : ¬ h g = it) : (0 : Int32) = if boB m n pl T (nI i) (g + 1) = true then 1 else 0 := by
  rw [if_neg]
  refine bo_n (show g < g + 1 by omega) ?_ ?_
  · rw [← hA_ho hg]
    exact hA_nz hl (pos_of ha0 (by rw [← ha]; exact hc1)) pl (Nat.le_refl _)
  · rw [← hA_ho hg, nI_add, atv_n (by omega) (by decide), ← hh, ← hit]
    exact hc
theorem af_0 {m : MS} {n pl g i : Nat} {T : Nat → Int32} {y : Int32} (hy : y = if boB m n pl T (nI i) g = true then 1 else 0) (hy0 : y = 0) : (0 : Int32) = if boB m n pl T (nI i) (g + 1) = true then 1 else 0 := by
  rw [if_neg]
  intro q
  rw [boB, Bool.and_eq_true] at q
  rw [q.1, hy0] at hy
  exact absurd hy (by decide)
theorem ln_small : ∀ l, l ≤ 2 → ∀ j, j ≤ 6 → lnS (nI l) (nI j) = nI j := by decide +kernel
theorem ln_4 : ∀ l, l ≤ 2 → lnS (nI l) (-4) = -4 := by decide +kernel
theorem ln_hA {m : MS} {n pl g : Nat} {ln : Int32} (hl : pl ≤ 6) (h0 : 0 ≤ ln) (h1 : ln ≤ 2) : lnS ln (hA m n (m 7) pl pl g) = hA m n (m 7) pl pl g := by
  obtain ⟨l, _, l1, l2⟩ := rng_n (a := 0) (b := 2) h0 h1 rfl rfl (by decide) (by decide)
  subst l2
  rcases hA_lt (m := m) (n := n) (row := m 7) (l := pl) (g := g) (Nat.le_refl pl) with e | ⟨j, j1, j2⟩
  · rw [e]; exact ln_4 l l1
  · rw [j2]; exact ln_small l l1 j (by omega)
theorem flA_eq {m : MS} {n pl i : Nat} {T : Nat → Int32} {ln : Int32} (hl : pl ≤ 6) (hi : i + n ≤ 24) (h0 : 0 ≤ ln) (h1 : ln ≤ 2) : ∀ g, g ≤ n → ∀ p, flA m n pl T ln (nI i) g p = if i ≤ p ∧ p < i + g then hA m n (m 7) pl pl (p - i) else T p
  | 0, _, p => by rw [if_neg (by omega)]; rfl
  | g + 1, hg, p => by
    rw [flA, nI_add, putv_n (by omega) (by decide), ← hA_ho (by omega), ln_hA hl h0 h1]
    show (if p = i + g then _ else flA m n pl T ln (nI i) g p) = _
    by_cases e : p = i + g
    · rw [if_pos e, if_pos (by omega), show p - i = g by omega]
    · rw [if_neg e, flA_eq hl hi h0 h1 g (by omega) p]
      by_cases c : i ≤ p ∧ p < i + g
      · rw [if_pos c, if_pos (by omega)]
      · rw [if_neg c, if_neg (by omega)]
theorem SQ_film {q st m : MS} {sh : SHS} {n pl k i : Nat} {ln le : Int32} {h : Nat → Int32} (hS : SQ q sh) (hk : k < 4) (hl : pl ≤ 6) (hi : i + n ≤ 24) (hn : ¬ sh k 1 0 = -1) (hh : ∀ g, g < n → h g = hA m n (m 7) pl pl g) (e4 : st 14 = q 14) (e5 : st 15 = q 15) (e6 : ∀ r, st 16 r = if 24 * k + i ≤ r ∧ r < 24 * k + i + n then h (r - (24 * k + i)) else q 16 r) (e7 : ln = sh k 1 0) (e8 : le = sh k 1 1) : SQ st (pA sh k (shT (flA m n pl (sh k 0) (sh k 1 0) (nI i) n) ln le)) := by
  intro a ha
  rw [e4, e5, e7, e8]
  by_cases e : a = k
  · subst e
    rw [pq_at]
    refine ⟨(hS a ha).1, (hS a ha).2.1, Or.inr ?_⟩
    have r := (hS a ha).2.2.resolve_left hn
    refine ⟨r.1, r.2.1, r.2.2.1, fun p hp => ?_⟩
    show st 16 (24 * a + p) = flA m n pl (sh a 0) (sh a 1 0) (nI i) n p
    rw [e6, flA_eq hl hi r.1.1 r.1.2 n (Nat.le_refl _)]
    by_cases c : i ≤ p ∧ p < i + n
    · rw [if_pos (by omega), if_pos c, show 24 * a + p - (24 * a + i) = p - i by omega]
      exact hh _ (by omega)
    · rw [if_neg (by omega), if_neg c]; exact r.2.2.2 p hp
  · rw [pq_o e]
    refine ⟨(hS a ha).1, (hS a ha).2.1, ?_⟩
    rcases (hS a ha).2.2 with r | r
    · exact Or.inl r
    · refine Or.inr ⟨r.1, r.2.1, r.2.2.1, fun p hp => ?_⟩
      rw [e6, if_neg (by omega)]; exact r.2.2.2 p hp
theorem fi_s {f h it : Nat → Int32} {b p : Nat} (hi : ∀ r, it r = if b ≤ r ∧ r < b + p then h (r - b) else f r) : ∀ r, upd it (b + p) (h p) r = if b ≤ r ∧ r < b + (p + 1) then h (r - b) else f r := fun r => by
  show (if r = b + p then h p else it r) = _
  by_cases e : r = b + p
  · rw [if_pos e, if_pos (by omega), show r - b = p by omega]
  · rw [if_neg e, hi r]
    by_cases d : b ≤ r ∧ r < b + p
    · rw [if_pos d, if_pos (by omega)]
    · rw [if_neg d, if_neg (by omega)]
set_option maxHeartbeats 4000000 in
set_option maxRecDepth 100000 in
theorem c_X5_copy (cI cS : ClassId) (a : Nat → Nat) (q : Nat → Nat → Int32) {n sv pl : Nat} (m : MS) (hRQ : RQ q m n sv pl) (sh : SHS) (hSQ : SQ q sh) (x i y j n0 : Int32) (k k2 : Nat) (hk : SK k x) (hk2 : SK k2 y) : CT cI cS yX5_copy cX5_copy 7 (some .int) 1 [.ref (a 0), .int x, .int i, .int y, .int j, .int n0] (modelW cI a q) 0 0 (fun u : Int32 × (Nat → Nat → Int32) => u.1 = (fgCopy sh k k2 i j n0).1 ∧ TF u.2 q ∧ OS u.2 q ∧ SQ u.2 (fgCopy sh k k2 i j n0).2) (fun u => some (.int u.1)) (fun u => (modelW cI a u.2)) := by
  refine ct_intro (by decide) (Nat.le_of_ble_eq_true rfl) (fun E Q hE hQ hI => ?_)
  have hE : CxOk E cI cS RX5 cX5_copy 7 (some .int) 1 0 0 := hE
  show Go E Q 7 0 0 0 [(0, .ref (a 0)), (1, .int x), (2, .int i), (3, .int y), (4, .int j), (5, .int n0)] [] (modelW cI a q)
  have hM := hRQ.1
  have hTQ := hRQ.2.1
  have hRG := hRQ.2.2
  have hgr := hTQ.2.2.2.1
  have hsv := hTQ.2.2.2.2.1
  have hpl := hTQ.2.2.2.2.2.1
  have hn6 := hM.2.1
  have hsv8 := hM.2.2.2.1
  have hpl6 := hM.2.2.2.2.2
  have hc0 : m 9 0 = q 18 0 := hM.1.trans hgr.symm
  have hc1 : m 9 1 = q 18 1 := hM.2.2.1.trans hsv.symm
  have hc2 : m 9 2 = q 18 2 := hM.2.2.2.2.1.trans hpl.symm
  refine g_iload_n hE dX5_copy_0 1 rfl ?_
  refine g_i2l hE dX5_copy_1 ?_
  refine g_lconst hE dX5_copy_2 0 (by decide) ?_
  refine g_ldc2 hE dX5_copy_3 cl_X5_91 ?_
  refine g_callS hE (c_X5_in cI cS (Int32.toInt64 x) 0 3) mk_X5_in st_X5_in ml_X5_68 dX5_copy_6 (As := [.long (Int32.toInt64 x), .long 0, .long 3]) (rest := []) rfl rfl (by decide) (by decide) (Nat.le_of_ble_eq_true rfl) (by decide) (by decide) [] rfl (by decide) (fun u => Nat.le_of_ble_eq_true rfl) (ws' := fun u => modelW cI a q) (fun u => rfl) (fun u hu => ?_)
  obtain ⟨r_1, rfl⟩ : ∃ z, z = u := ⟨_, rfl⟩
  have h2 : r_1 = if 0 ≤ x ∧ x ≤ 3 then 1 else 0 := (in_i (x := x) (lo := 0) (hi := 3) rfl rfl hu)
  by_cases c3 : 0 ≤ x ∧ x ≤ 3
  · rw [if_pos c3] at h2
    subst h2
    show Go E Q 7 0 0 9 [(0, .ref (a 0)), (1, .int x), (2, .int i), (3, .int y), (4, .int j), (5, .int n0)] [.int 1] (modelW cI a q)
    refine g_if_eq hE 24 dX5_copy_9 (by decide) (fun c4 => absurd c4 (by decide)) (fun c4 => ?_)
    refine g_iload_n hE dX5_copy_12 3 rfl ?_
    refine g_i2l hE dX5_copy_13 ?_
    refine g_lconst hE dX5_copy_14 0 (by decide) ?_
    refine g_ldc2 hE dX5_copy_15 cl_X5_91 ?_
    refine g_callS hE (c_X5_in cI cS (Int32.toInt64 y) 0 3) mk_X5_in st_X5_in ml_X5_68 dX5_copy_18 (As := [.long (Int32.toInt64 y), .long 0, .long 3]) (rest := []) rfl rfl (by decide) (by decide) (Nat.le_of_ble_eq_true rfl) (by decide) (by decide) [] rfl (by decide) (fun u => Nat.le_of_ble_eq_true rfl) (ws' := fun u => modelW cI a q) (fun u => rfl) (fun u hu => ?_)
    obtain ⟨r_5, rfl⟩ : ∃ z, z = u := ⟨_, rfl⟩
    have h6 : r_5 = if 0 ≤ y ∧ y ≤ 3 then 1 else 0 := (in_i (x := y) (lo := 0) (hi := 3) rfl rfl hu)
    by_cases c7 : 0 ≤ y ∧ y ≤ 3
    · rw [if_pos c7] at h6
      subst h6
      show Go E Q 7 0 0 21 [(0, .ref (a 0)), (1, .int x), (2, .int i), (3, .int y), (4, .int j), (5, .int n0)] [.int 1] (modelW cI a q)
      refine g_if_ne hE 26 dX5_copy_21 (by decide) (fun c8 => ?_) (fun c8 => absurd c8 (by decide))
      obtain ⟨hk4, hkn⟩ := sk_good hk c3
      have hk4n : ¬ k = 4 := (by omega)
      obtain ⟨hk24, hk2n⟩ := sk_good hk2 c7
      have hk24n : ¬ k2 = 4 := (by omega)
      refine g_aload_n hE dX5_copy_26 0 rfl ?_
      refine g_get hE fl_X5_52 dX5_copy_27 0 rfl rfl ?_
      refine g_iload_n hE dX5_copy_30 1 rfl ?_
      refine g_iald_n hE dX5_copy_31 15 rfl (show x = nI k from hkn) (by omega) ?_
      refine g_if_lt hE 44 dX5_copy_32 (by decide) (fun c9 => ?_) (fun c9 => ?_)
      · refine g_bipush hE dX5_copy_44 (-11) (by decide) ?_
        exact g_iret hE hQ dX5_copy_46 rfl ((-11), q) rfl rfl ⟨(by rw [(show fgCopy sh k k2 i j n0 = (-11, sh) by rw [fgCopy, if_neg (sk_n4 hk c3), if_neg (sk_n4 hk2 c7), if_pos ((sq_neg hSQ hk4).mp (show ((q 14) k) < 0 from c9))])]), ⟨rfl, rfl, rfl, rfl, rfl, rfl, rfl, rfl, rfl⟩, ⟨rfl, rfl, rfl, rfl⟩, (by rw [(show fgCopy sh k k2 i j n0 = (-11, sh) by rw [fgCopy, if_neg (sk_n4 hk c3), if_neg (sk_n4 hk2 c7), if_pos ((sq_neg hSQ hk4).mp (show ((q 14) k) < 0 from c9))])]; exact hSQ)⟩
      · refine g_aload_n hE dX5_copy_35 0 rfl ?_
        refine g_get hE fl_X5_52 dX5_copy_36 0 rfl rfl ?_
        refine g_iload_n hE dX5_copy_39 3 rfl ?_
        refine g_iald_n hE dX5_copy_40 15 rfl (show y = nI k2 from hk2n) (by omega) ?_
        refine g_if_ge hE 47 dX5_copy_41 (by decide) (fun c10 => ?_) (fun c10 => ?_)
        · refine g_aload_n hE dX5_copy_47 0 rfl ?_
          refine g_get hE fl_X5_52 dX5_copy_48 0 rfl rfl ?_
          refine g_iload_n hE dX5_copy_51 1 rfl ?_
          refine g_iald_n hE dX5_copy_52 15 rfl (show x = nI k from hkn) (by omega) ?_
          refine g_aload_n hE dX5_copy_53 0 rfl ?_
          refine g_get hE fl_X5_52 dX5_copy_54 0 rfl rfl ?_
          refine g_iload_n hE dX5_copy_57 3 rfl ?_
          refine g_iald_n hE dX5_copy_58 15 rfl (show y = nI k2 from hk2n) (by omega) ?_
          refine g_icmp_eq hE 65 dX5_copy_59 (by decide) (fun c11 => ?_) (fun c11 => ?_)
          · refine g_iload hE dX5_copy_65 5 rfl ?_
            refine g_if_lt hE 111 dX5_copy_67 (by decide) (fun c12 => ?_) (fun c12 => ?_)
            · refine g_bipush hE dX5_copy_111 (-13) (by decide) ?_
              exact g_iret hE hQ dX5_copy_113 rfl ((-13), q) rfl rfl ⟨(by rw [(show fgCopy sh k k2 i j n0 = (-13, sh) by rw [fgCopy, if_neg (sk_n4 hk c3), if_neg (sk_n4 hk2 c7), if_neg (fun z => (show ¬ ((q 14) k) < 0 from c9) ((sq_neg hSQ hk4).mpr z)), if_neg (fun z => (show ¬ ((q 14) k2) < 0 from (Int32.not_lt.mpr c10)) ((sq_neg hSQ hk24).mpr z)), if_pos ((hSQ k hk4).1.symm.trans ((show ((q 14) k) = ((q 14) k2) from c11).trans (hSQ k2 hk24).1)), if_neg (fun z : hasI (sh k 1 1) i n0 => absurd z.2.2.1 (Int32.not_le.mpr (show n0 < 0 from c12)))])]), ⟨rfl, rfl, rfl, rfl, rfl, rfl, rfl, rfl, rfl⟩, ⟨rfl, rfl, rfl, rfl⟩, (by rw [(show fgCopy sh k k2 i j n0 = (-13, sh) by rw [fgCopy, if_neg (sk_n4 hk c3), if_neg (sk_n4 hk2 c7), if_neg (fun z => (show ¬ ((q 14) k) < 0 from c9) ((sq_neg hSQ hk4).mpr z)), if_neg (fun z => (show ¬ ((q 14) k2) < 0 from (Int32.not_lt.mpr c10)) ((sq_neg hSQ hk24).mpr z)), if_pos ((hSQ k hk4).1.symm.trans ((show ((q 14) k) = ((q 14) k2) from c11).trans (hSQ k2 hk24).1)), if_neg (fun z : hasI (sh k 1 1) i n0 => absurd z.2.2.1 (Int32.not_le.mpr (show n0 < 0 from c12)))])]; exact hSQ)⟩
            · refine g_iload_n hE dX5_copy_70 2 rfl ?_
              refine g_i2l hE dX5_copy_71 ?_
              refine g_lconst hE dX5_copy_72 0 (by decide) ?_
              refine g_aload_n hE dX5_copy_73 0 rfl ?_
              refine g_get hE fl_X5_55 dX5_copy_74 0 rfl rfl ?_
              refine g_iload_n hE dX5_copy_77 1 rfl ?_
              refine g_iald_n hE dX5_copy_78 16 rfl (show x = nI k from hkn) (by omega) ?_
              refine g_i2l hE dX5_copy_79 ?_
              refine g_iload hE dX5_copy_80 5 rfl ?_
              refine g_i2l hE dX5_copy_82 ?_
              refine g_lsub hE dX5_copy_83 ?_
              refine g_callS hE (c_X5_in cI cS (Int32.toInt64 i) 0 ((Int32.toInt64 ((q 15) k)) - (Int32.toInt64 n0))) mk_X5_in st_X5_in ml_X5_68 dX5_copy_84 (As := [.long (Int32.toInt64 i), .long 0, .long ((Int32.toInt64 ((q 15) k)) - (Int32.toInt64 n0))]) (rest := []) rfl rfl (by decide) (by decide) (Nat.le_of_ble_eq_true rfl) (by decide) (by decide) [] rfl (by decide) (fun u => Nat.le_of_ble_eq_true rfl) (ws' := fun u => modelW cI a q) (fun u => rfl) (fun u hu => ?_)
              obtain ⟨r_13, rfl⟩ : ∃ z, z = u := ⟨_, rfl⟩
              have h14 : r_13 = if 0 ≤ (Int32.toInt64 i) ∧ (Int32.toInt64 i) ≤ ((Int32.toInt64 ((q 15) k)) - (Int32.toInt64 n0)) then 1 else 0 := hu
              by_cases c15 : 0 ≤ (Int32.toInt64 i) ∧ (Int32.toInt64 i) ≤ ((Int32.toInt64 ((q 15) k)) - (Int32.toInt64 n0))
              · rw [if_pos c15] at h14
                subst h14
                show Go E Q 7 0 0 87 [(0, .ref (a 0)), (1, .int x), (2, .int i), (3, .int y), (4, .int j), (5, .int n0)] [.int 1] (modelW cI a q)
                refine g_if_eq hE 111 dX5_copy_87 (by decide) (fun c16 => absurd c16 (by decide)) (fun c16 => ?_)
                refine g_iload hE dX5_copy_90 4 rfl ?_
                refine g_i2l hE dX5_copy_92 ?_
                refine g_lconst hE dX5_copy_93 0 (by decide) ?_
                refine g_aload_n hE dX5_copy_94 0 rfl ?_
                refine g_get hE fl_X5_55 dX5_copy_95 0 rfl rfl ?_
                refine g_iload_n hE dX5_copy_98 3 rfl ?_
                refine g_iald_n hE dX5_copy_99 16 rfl (show y = nI k2 from hk2n) (by omega) ?_
                refine g_i2l hE dX5_copy_100 ?_
                refine g_iload hE dX5_copy_101 5 rfl ?_
                refine g_i2l hE dX5_copy_103 ?_
                refine g_lsub hE dX5_copy_104 ?_
                refine g_callS hE (c_X5_in cI cS (Int32.toInt64 j) 0 ((Int32.toInt64 ((q 15) k2)) - (Int32.toInt64 n0))) mk_X5_in st_X5_in ml_X5_68 dX5_copy_105 (As := [.long (Int32.toInt64 j), .long 0, .long ((Int32.toInt64 ((q 15) k2)) - (Int32.toInt64 n0))]) (rest := []) rfl rfl (by decide) (by decide) (Nat.le_of_ble_eq_true rfl) (by decide) (by decide) [] rfl (by decide) (fun u => Nat.le_of_ble_eq_true rfl) (ws' := fun u => modelW cI a q) (fun u => rfl) (fun u hu => ?_)
                obtain ⟨r_17, rfl⟩ : ∃ z, z = u := ⟨_, rfl⟩
                have h18 : r_17 = if 0 ≤ (Int32.toInt64 j) ∧ (Int32.toInt64 j) ≤ ((Int32.toInt64 ((q 15) k2)) - (Int32.toInt64 n0)) then 1 else 0 := hu
                by_cases c19 : 0 ≤ (Int32.toInt64 j) ∧ (Int32.toInt64 j) ≤ ((Int32.toInt64 ((q 15) k2)) - (Int32.toInt64 n0))
                · rw [if_pos c19] at h18
                  subst h18
                  show Go E Q 7 0 0 108 [(0, .ref (a 0)), (1, .int x), (2, .int i), (3, .int y), (4, .int j), (5, .int n0)] [.int 1] (modelW cI a q)
                  refine g_if_ne hE 114 dX5_copy_108 (by decide) (fun c20 => ?_) (fun c20 => absurd c20 (by decide))
                  have hne : ¬ sh k 1 0 = -1 := fun z => (show ¬ ((q 14) k) < 0 from c9) ((sq_neg hSQ hk4).mpr z)
                  have hne2 : ¬ sh k2 1 0 = -1 := fun z => (show ¬ ((q 14) k2) < 0 from (Int32.not_lt.mpr c10)) ((sq_neg hSQ hk24).mpr z)
                  have hA1 := (has_l (i := i) hSQ hk4 hne (Int32.not_lt.mp (show ¬ n0 < 0 from c12))).mp c15
                  have hA2 := (has_l (i := j) hSQ hk24 hne2 (Int32.not_lt.mp (show ¬ n0 < 0 from c12))).mp c19
                  obtain ⟨ij, N, hijN, hijn, hNn⟩ := has_nat2 hA1 (hSQ k hk4).2.1
                  obtain ⟨jj, hjjN, hjjn⟩ := has_nat hA2 (hSQ k2 hk24).2.1 hNn (by omega)
                  refine g_iconst hE dX5_copy_114 0 (by decide) ?_
                  refine g_istore hE dX5_copy_115 [(6, .int 0), (0, .ref (a 0)), (1, .int x), (2, .int i), (3, .int y), (4, .int j), (5, .int n0)] (by decide) rfl ?_
                  have L117 : ∀ (n_117 : Nat) (p : Nat) (mv : Nat → Int32), (p ≤ N) → (∀ r, r < p → mv r = q 16 (24 * k + ij + r)) → (N - p < n_117) → Go E Q 7 0 0 117 [(0, .ref (a 0)), (1, .int x), (2, .int i), (3, .int y), (4, .int j), (5, .int n0), (6, .int (nI p))] [] (modelW cI a (pA q 17 mv)) := by
                    intro n_117
                    induction n_117 with
                    | zero => intro p mv hp hmv hm_117; exact absurd hm_117 (Nat.not_lt_zero _)
                    | succ n_117 ih_117 =>
                      intro p mv hp hmv hm_117
                      refine g_iload hE dX5_copy_117 6 rfl ?_
                      refine g_iload hE dX5_copy_119 5 rfl ?_
                      refine g_icmp_ge hE 151 dX5_copy_121 (by decide) (fun c21 => ?_) (fun c21 => ?_)
                      · have kc21 := nat_le_t (show n0 = nI N from hNn) (show (nI p) = nI p from rfl) (by omega) (by omega) c21
                        refine g_iconst hE dX5_copy_151 0 (by decide) ?_
                        refine g_istore hE dX5_copy_152 [(6, .int 0), (0, .ref (a 0)), (1, .int x), (2, .int i), (3, .int y), (4, .int j), (5, .int n0)] (by decide) rfl ?_
                        have L154 : ∀ (n_154 : Nat) (p : Nat) (it : Nat → Int32), (p ≤ N) → (∀ r, it r = if 24 * k2 + jj ≤ r ∧ r < 24 * k2 + jj + p then q 16 (24 * k + ij + (r - (24 * k2 + jj))) else q 16 r) → (N - p < n_154) → Go E Q 7 0 0 154 [(0, .ref (a 0)), (1, .int x), (2, .int i), (3, .int y), (4, .int j), (5, .int n0), (6, .int (nI p))] [] (modelW cI a (pA (pA q 17 mv) 16 it)) := by
                          intro n_154
                          induction n_154 with
                          | zero => intro p it hp2 hit hm_154; exact absurd hm_154 (Nat.not_lt_zero _)
                          | succ n_154 ih_154 =>
                            intro p it hp2 hit hm_154
                            refine g_iload hE dX5_copy_154 6 rfl ?_
                            refine g_iload hE dX5_copy_156 5 rfl ?_
                            refine g_icmp_ge hE 189 dX5_copy_158 (by decide) (fun c22 => ?_) (fun c22 => ?_)
                            · have kc22 := nat_le_t (show n0 = nI N from hNn) (show (nI p) = nI p from rfl) (by omega) (by omega) c22
                              refine g_iload hE dX5_copy_189 5 rfl ?_
                              exact g_iret hE hQ dX5_copy_191 rfl (n0, (pA (pA q 17 mv) 16 it)) rfl rfl ⟨(by rw [fgCopy, if_neg (sk_n4 hk c3), if_neg (sk_n4 hk2 c7), if_neg (fun z => (show ¬ ((q 14) k) < 0 from c9) ((sq_neg hSQ hk4).mpr z)), if_neg (fun z => (show ¬ ((q 14) k2) < 0 from (Int32.not_lt.mpr c10)) ((sq_neg hSQ hk24).mpr z)), if_pos ((hSQ k hk4).1.symm.trans ((show ((q 14) k) = ((q 14) k2) from c11).trans (hSQ k2 hk24).1)), if_pos ((has_l (i := i) hSQ hk4 (fun z => (show ¬ ((q 14) k) < 0 from c9) ((sq_neg hSQ hk4).mpr z)) (Int32.not_lt.mp (show ¬ n0 < 0 from c12))).mp c15), if_pos hA2]), ⟨rfl, rfl, rfl, rfl, rfl, rfl, rfl, rfl, rfl⟩, ⟨rfl, rfl, rfl, rfl⟩, (by rw [fgCopy, if_neg (sk_n4 hk c3), if_neg (sk_n4 hk2 c7), if_neg (fun z => (show ¬ ((q 14) k) < 0 from c9) ((sq_neg hSQ hk4).mpr z)), if_neg (fun z => (show ¬ ((q 14) k2) < 0 from (Int32.not_lt.mpr c10)) ((sq_neg hSQ hk24).mpr z)), if_pos ((hSQ k hk4).1.symm.trans ((show ((q 14) k) = ((q 14) k2) from c11).trans (hSQ k2 hk24).1)), if_pos ((has_l (i := i) hSQ hk4 (fun z => (show ¬ ((q 14) k) < 0 from c9) ((sq_neg hSQ hk4).mpr z)) (Int32.not_lt.mp (show ¬ n0 < 0 from c12))).mp c15), if_pos hA2]; show SQ _ (pA sh k2 (shT (va_cpy (sh k 0) (sh k2 0) i.toNatClampNeg j.toNatClampNeg n0.toNatClampNeg) (sh k2 1 0) (sh k2 1 1))); rw [show i = nI ij from hijn, show j = nI jj from hjjn, show n0 = nI N from hNn, nI_clamp (by omega), nI_clamp (by omega), nI_clamp (by omega)]; exact SQ_copy hSQ hk4 hk24 hijN hjjN hne hne2 rfl rfl (by have e : p = N := (by omega); rw [e] at hit; exact hit) rfl rfl)⟩
                            · have kc22 := nat_le_f (show n0 = nI N from hNn) (show (nI p) = nI p from rfl) (by omega) (by omega) c22
                              refine g_aload_n hE dX5_copy_161 0 rfl ?_
                              refine g_get hE fl_X5_58 dX5_copy_162 0 rfl rfl ?_
                              refine g_bipush hE dX5_copy_165 24 (by decide) ?_
                              refine g_iload_n hE dX5_copy_167 3 rfl ?_
                              refine g_imul_n hE dX5_copy_168 (show 24 = nI 24 from rfl) (show y = nI k2 from hk2n) ?_
                              refine g_iload hE dX5_copy_169 4 rfl ?_
                              refine g_iadd_n hE dX5_copy_171 (show (nI (24 * k2)) = nI (24 * k2) from rfl) (show j = nI jj from hjjn) ?_
                              refine g_iload hE dX5_copy_172 6 rfl ?_
                              refine g_iadd_n hE dX5_copy_174 (show (nI ((24 * k2) + jj)) = nI ((24 * k2) + jj) from rfl) (show (nI p) = nI p from rfl) ?_
                              refine g_aload_n hE dX5_copy_175 0 rfl ?_
                              refine g_get hE fl_X5_61 dX5_copy_176 0 rfl rfl ?_
                              refine g_iload hE dX5_copy_179 6 rfl ?_
                              refine g_iald_n hE dX5_copy_181 18 rfl (show (nI p) = nI p from rfl) (by omega) ?_
                              refine g_iast_n hE dX5_copy_182 17 rfl (show (nI (((24 * k2) + jj) + p)) = nI (((24 * k2) + jj) + p) from rfl) (by omega) (modelW cI a (pA (pA (pA q 17 mv) 16 it) 16 (upd it (((24 * k2) + jj) + p) (mv p)))) rfl ?_
                              refine g_iinc hE dX5_copy_183 6 (nI (p + 1)) [(6, .int (nI (p + 1))), (0, .ref (a 0)), (1, .int x), (2, .int i), (3, .int y), (4, .int j), (5, .int n0)] rfl (nI_1 _) (by decide) rfl ?_
                              refine g_goto hE 154 dX5_copy_186 (by decide) ?_
                              refine g_locals [1, 2, 3, 4, 5, 6, 0] [(0, .ref (a 0)), (1, .int x), (2, .int i), (3, .int y), (4, .int j), (5, .int n0), (6, .int (nI (p + 1)))] rfl ?_
                              exact ih_154 (p + 1) (upd it (((24 * k2) + jj) + p) (mv p)) (by first | assumption | omega) (cp_s hit (hmv p (by omega))) (by omega)
                        refine g_locals [1, 2, 3, 4, 5, 6, 0] [(0, .ref (a 0)), (1, .int x), (2, .int i), (3, .int y), (4, .int j), (5, .int n0), (6, .int 0)] rfl ?_
                        exact L154 _ 0 (q 16) (Nat.zero_le _) (fun r => (if_neg (by omega)).symm) (Nat.lt_succ_self _)
                      · have kc21 := nat_le_f (show n0 = nI N from hNn) (show (nI p) = nI p from rfl) (by omega) (by omega) c21
                        refine g_aload_n hE dX5_copy_124 0 rfl ?_
                        refine g_get hE fl_X5_61 dX5_copy_125 0 rfl rfl ?_
                        refine g_iload hE dX5_copy_128 6 rfl ?_
                        refine g_aload_n hE dX5_copy_130 0 rfl ?_
                        refine g_get hE fl_X5_58 dX5_copy_131 0 rfl rfl ?_
                        refine g_bipush hE dX5_copy_134 24 (by decide) ?_
                        refine g_iload_n hE dX5_copy_136 1 rfl ?_
                        refine g_imul_n hE dX5_copy_137 (show 24 = nI 24 from rfl) (show x = nI k from hkn) ?_
                        refine g_iload_n hE dX5_copy_138 2 rfl ?_
                        refine g_iadd_n hE dX5_copy_139 (show (nI (24 * k)) = nI (24 * k) from rfl) (show i = nI ij from hijn) ?_
                        refine g_iload hE dX5_copy_140 6 rfl ?_
                        refine g_iadd_n hE dX5_copy_142 (show (nI ((24 * k) + ij)) = nI ((24 * k) + ij) from rfl) (show (nI p) = nI p from rfl) ?_
                        refine g_iald_n hE dX5_copy_143 17 rfl (show (nI (((24 * k) + ij) + p)) = nI (((24 * k) + ij) + p) from rfl) (by omega) ?_
                        refine g_iast_n hE dX5_copy_144 18 rfl (show (nI p) = nI p from rfl) (by omega) (modelW cI a (pA (pA q 17 mv) 17 (upd mv p ((q 16) (((24 * k) + ij) + p))))) rfl ?_
                        refine g_iinc hE dX5_copy_145 6 (nI (p + 1)) [(6, .int (nI (p + 1))), (0, .ref (a 0)), (1, .int x), (2, .int i), (3, .int y), (4, .int j), (5, .int n0)] rfl (nI_1 _) (by decide) rfl ?_
                        refine g_goto hE 117 dX5_copy_148 (by decide) ?_
                        refine g_locals [1, 2, 3, 4, 5, 6, 0] [(0, .ref (a 0)), (1, .int x), (2, .int i), (3, .int y), (4, .int j), (5, .int n0), (6, .int (nI (p + 1)))] rfl ?_
                        exact ih_117 (p + 1) (upd mv p ((q 16) (((24 * k) + ij) + p))) (by first | assumption | omega) (upd_pre (f := fun r => q 16 (24 * k + ij + r)) hmv rfl) (by omega)
                  refine g_locals [1, 2, 3, 4, 5, 6, 0] [(0, .ref (a 0)), (1, .int x), (2, .int i), (3, .int y), (4, .int j), (5, .int n0), (6, .int 0)] rfl ?_
                  exact L117 _ 0 (q 17) (Nat.zero_le _) (fun j hj => absurd hj (Nat.not_lt_zero _)) (Nat.lt_succ_self _)
                · rw [if_neg c19] at h18
                  subst h18
                  show Go E Q 7 0 0 108 [(0, .ref (a 0)), (1, .int x), (2, .int i), (3, .int y), (4, .int j), (5, .int n0)] [.int 0] (modelW cI a q)
                  refine g_if_ne hE 114 dX5_copy_108 (by decide) (fun c23 => absurd (by decide) c23) (fun c23 => ?_)
                  refine g_bipush hE dX5_copy_111 (-13) (by decide) ?_
                  exact g_iret hE hQ dX5_copy_113 rfl ((-13), q) rfl rfl ⟨(by rw [(show fgCopy sh k k2 i j n0 = (-13, sh) by rw [fgCopy, if_neg (sk_n4 hk c3), if_neg (sk_n4 hk2 c7), if_neg (fun z => (show ¬ ((q 14) k) < 0 from c9) ((sq_neg hSQ hk4).mpr z)), if_neg (fun z => (show ¬ ((q 14) k2) < 0 from (Int32.not_lt.mpr c10)) ((sq_neg hSQ hk24).mpr z)), if_pos ((hSQ k hk4).1.symm.trans ((show ((q 14) k) = ((q 14) k2) from c11).trans (hSQ k2 hk24).1)), if_pos ((has_l (i := i) hSQ hk4 (fun z => (show ¬ ((q 14) k) < 0 from c9) ((sq_neg hSQ hk4).mpr z)) (Int32.not_lt.mp (show ¬ n0 < 0 from c12))).mp c15), if_neg (fun z => c19 ((has_l (i := j) hSQ hk24 (fun z => (show ¬ ((q 14) k2) < 0 from (Int32.not_lt.mpr c10)) ((sq_neg hSQ hk24).mpr z)) (Int32.not_lt.mp (show ¬ n0 < 0 from c12))).mpr z))])]), ⟨rfl, rfl, rfl, rfl, rfl, rfl, rfl, rfl, rfl⟩, ⟨rfl, rfl, rfl, rfl⟩, (by rw [(show fgCopy sh k k2 i j n0 = (-13, sh) by rw [fgCopy, if_neg (sk_n4 hk c3), if_neg (sk_n4 hk2 c7), if_neg (fun z => (show ¬ ((q 14) k) < 0 from c9) ((sq_neg hSQ hk4).mpr z)), if_neg (fun z => (show ¬ ((q 14) k2) < 0 from (Int32.not_lt.mpr c10)) ((sq_neg hSQ hk24).mpr z)), if_pos ((hSQ k hk4).1.symm.trans ((show ((q 14) k) = ((q 14) k2) from c11).trans (hSQ k2 hk24).1)), if_pos ((has_l (i := i) hSQ hk4 (fun z => (show ¬ ((q 14) k) < 0 from c9) ((sq_neg hSQ hk4).mpr z)) (Int32.not_lt.mp (show ¬ n0 < 0 from c12))).mp c15), if_neg (fun z => c19 ((has_l (i := j) hSQ hk24 (fun z => (show ¬ ((q 14) k2) < 0 from (Int32.not_lt.mpr c10)) ((sq_neg hSQ hk24).mpr z)) (Int32.not_lt.mp (show ¬ n0 < 0 from c12))).mpr z))])]; exact hSQ)⟩
              · rw [if_neg c15] at h14
                subst h14
                show Go E Q 7 0 0 87 [(0, .ref (a 0)), (1, .int x), (2, .int i), (3, .int y), (4, .int j), (5, .int n0)] [.int 0] (modelW cI a q)
                refine g_if_eq hE 111 dX5_copy_87 (by decide) (fun c24 => ?_) (fun c24 => absurd (by decide) c24)
                refine g_bipush hE dX5_copy_111 (-13) (by decide) ?_
                exact g_iret hE hQ dX5_copy_113 rfl ((-13), q) rfl rfl ⟨(by rw [(show fgCopy sh k k2 i j n0 = (-13, sh) by rw [fgCopy, if_neg (sk_n4 hk c3), if_neg (sk_n4 hk2 c7), if_neg (fun z => (show ¬ ((q 14) k) < 0 from c9) ((sq_neg hSQ hk4).mpr z)), if_neg (fun z => (show ¬ ((q 14) k2) < 0 from (Int32.not_lt.mpr c10)) ((sq_neg hSQ hk24).mpr z)), if_pos ((hSQ k hk4).1.symm.trans ((show ((q 14) k) = ((q 14) k2) from c11).trans (hSQ k2 hk24).1)), if_neg (fun z => c15 ((has_l (i := i) hSQ hk4 (fun z => (show ¬ ((q 14) k) < 0 from c9) ((sq_neg hSQ hk4).mpr z)) (Int32.not_lt.mp (show ¬ n0 < 0 from c12))).mpr z))])]), ⟨rfl, rfl, rfl, rfl, rfl, rfl, rfl, rfl, rfl⟩, ⟨rfl, rfl, rfl, rfl⟩, (by rw [(show fgCopy sh k k2 i j n0 = (-13, sh) by rw [fgCopy, if_neg (sk_n4 hk c3), if_neg (sk_n4 hk2 c7), if_neg (fun z => (show ¬ ((q 14) k) < 0 from c9) ((sq_neg hSQ hk4).mpr z)), if_neg (fun z => (show ¬ ((q 14) k2) < 0 from (Int32.not_lt.mpr c10)) ((sq_neg hSQ hk24).mpr z)), if_pos ((hSQ k hk4).1.symm.trans ((show ((q 14) k) = ((q 14) k2) from c11).trans (hSQ k2 hk24).1)), if_neg (fun z => c15 ((has_l (i := i) hSQ hk4 (fun z => (show ¬ ((q 14) k) < 0 from c9) ((sq_neg hSQ hk4).mpr z)) (Int32.not_lt.mp (show ¬ n0 < 0 from c12))).mpr z))])]; exact hSQ)⟩
          · refine g_bipush hE dX5_copy_62 (-12) (by decide) ?_
            exact g_iret hE hQ dX5_copy_64 rfl ((-12), q) rfl rfl ⟨(by rw [(show fgCopy sh k k2 i j n0 = (-12, sh) by rw [fgCopy, if_neg (sk_n4 hk c3), if_neg (sk_n4 hk2 c7), if_neg (fun z => (show ¬ ((q 14) k) < 0 from c9) ((sq_neg hSQ hk4).mpr z)), if_neg (fun z => (show ¬ ((q 14) k2) < 0 from (Int32.not_lt.mpr c10)) ((sq_neg hSQ hk24).mpr z)), if_neg (fun z => (show ¬ ((q 14) k) = ((q 14) k2) from c11) ((hSQ k hk4).1.trans (z.trans (hSQ k2 hk24).1.symm)))])]), ⟨rfl, rfl, rfl, rfl, rfl, rfl, rfl, rfl, rfl⟩, ⟨rfl, rfl, rfl, rfl⟩, (by rw [(show fgCopy sh k k2 i j n0 = (-12, sh) by rw [fgCopy, if_neg (sk_n4 hk c3), if_neg (sk_n4 hk2 c7), if_neg (fun z => (show ¬ ((q 14) k) < 0 from c9) ((sq_neg hSQ hk4).mpr z)), if_neg (fun z => (show ¬ ((q 14) k2) < 0 from (Int32.not_lt.mpr c10)) ((sq_neg hSQ hk24).mpr z)), if_neg (fun z => (show ¬ ((q 14) k) = ((q 14) k2) from c11) ((hSQ k hk4).1.trans (z.trans (hSQ k2 hk24).1.symm)))])]; exact hSQ)⟩
        · refine g_bipush hE dX5_copy_44 (-11) (by decide) ?_
          exact g_iret hE hQ dX5_copy_46 rfl ((-11), q) rfl rfl ⟨(by rw [(show fgCopy sh k k2 i j n0 = (-11, sh) by rw [fgCopy, if_neg (sk_n4 hk c3), if_neg (sk_n4 hk2 c7), if_neg (fun z => (show ¬ ((q 14) k) < 0 from c9) ((sq_neg hSQ hk4).mpr z)), if_pos ((sq_neg hSQ hk24).mp (show ((q 14) k2) < 0 from (Int32.not_le.mp c10)))])]), ⟨rfl, rfl, rfl, rfl, rfl, rfl, rfl, rfl, rfl⟩, ⟨rfl, rfl, rfl, rfl⟩, (by rw [(show fgCopy sh k k2 i j n0 = (-11, sh) by rw [fgCopy, if_neg (sk_n4 hk c3), if_neg (sk_n4 hk2 c7), if_neg (fun z => (show ¬ ((q 14) k) < 0 from c9) ((sq_neg hSQ hk4).mpr z)), if_pos ((sq_neg hSQ hk24).mp (show ((q 14) k2) < 0 from (Int32.not_le.mp c10)))])]; exact hSQ)⟩
    · rw [if_neg c7] at h6
      subst h6
      show Go E Q 7 0 0 21 [(0, .ref (a 0)), (1, .int x), (2, .int i), (3, .int y), (4, .int j), (5, .int n0)] [.int 0] (modelW cI a q)
      refine g_if_ne hE 26 dX5_copy_21 (by decide) (fun c25 => absurd (by decide) c25) (fun c25 => ?_)
      refine g_iconst hE dX5_copy_24 (-1) (by decide) ?_
      exact g_iret hE hQ dX5_copy_25 rfl ((-1), q) rfl rfl ⟨(by rw [(show fgCopy sh k k2 i j n0 = (-1, sh) by rw [fgCopy, if_neg (sk_n4 hk c3), if_pos (sk_no hk2 c7)])]), ⟨rfl, rfl, rfl, rfl, rfl, rfl, rfl, rfl, rfl⟩, ⟨rfl, rfl, rfl, rfl⟩, (by rw [(show fgCopy sh k k2 i j n0 = (-1, sh) by rw [fgCopy, if_neg (sk_n4 hk c3), if_pos (sk_no hk2 c7)])]; exact hSQ)⟩
  · rw [if_neg c3] at h2
    subst h2
    show Go E Q 7 0 0 9 [(0, .ref (a 0)), (1, .int x), (2, .int i), (3, .int y), (4, .int j), (5, .int n0)] [.int 0] (modelW cI a q)
    refine g_if_eq hE 24 dX5_copy_9 (by decide) (fun c26 => ?_) (fun c26 => absurd (by decide) c26)
    refine g_iconst hE dX5_copy_24 (-1) (by decide) ?_
    exact g_iret hE hQ dX5_copy_25 rfl ((-1), q) rfl rfl ⟨(by rw [(show fgCopy sh k k2 i j n0 = (-1, sh) by rw [fgCopy, if_pos (sk_no hk c3)])]), ⟨rfl, rfl, rfl, rfl, rfl, rfl, rfl, rfl, rfl⟩, ⟨rfl, rfl, rfl, rfl⟩, (by rw [(show fgCopy sh k k2 i j n0 = (-1, sh) by rw [fgCopy, if_pos (sk_no hk c3)])]; exact hSQ)⟩
set_option maxHeartbeats 4000000 in
set_option maxRecDepth 100000 in
theorem c_X5_film (cI cS : ClassId) (a : Nat → Nat) (q : Nat → Nat → Int32) {n sv pl : Nat} (m : MS) (hRQ : RQ q m n sv pl) (sh : SHS) (hSQ : SQ q sh) (x l i : Int32) (k : Nat) (hk : SK k x) : CT cI cS yX5_film cX5_film 6 (some .int) 3 [.ref (a 0), .int x, .int l, .int i] (modelW cI a q) 0 0 (fun u : Int32 × (Nat → Nat → Int32) => u.1 = (fgFilm m n pl sh k l i).1 ∧ TF u.2 q ∧ OS u.2 q ∧ SQ u.2 (fgFilm m n pl sh k l i).2) (fun u => some (.int u.1)) (fun u => (modelW cI a u.2)) := by
  refine ct_intro (by decide) (Nat.le_of_ble_eq_true rfl) (fun E Q hE hQ hI => ?_)
  have hE : CxOk E cI cS RX5 cX5_film 6 (some .int) 3 0 0 := hE
  show Go E Q 6 0 0 0 [(0, .ref (a 0)), (1, .int x), (2, .int l), (3, .int i)] [] (modelW cI a q)
  have hM := hRQ.1
  have hTQ := hRQ.2.1
  have hRG := hRQ.2.2
  have hgr := hTQ.2.2.2.1
  have hsv := hTQ.2.2.2.2.1
  have hpl := hTQ.2.2.2.2.2.1
  have hn6 := hM.2.1
  have hsv8 := hM.2.2.2.1
  have hpl6 := hM.2.2.2.2.2
  have hc0 : m 9 0 = q 18 0 := hM.1.trans hgr.symm
  have hc1 : m 9 1 = q 18 1 := hM.2.2.1.trans hsv.symm
  have hc2 : m 9 2 = q 18 2 := hM.2.2.2.2.1.trans hpl.symm
  refine g_iload_n hE dX5_film_0 1 rfl ?_
  refine g_iload_n hE dX5_film_1 2 rfl ?_
  refine g_callS hE (c_X5_isSheet cI cS x l) mk_X5_isSheet st_X5_isSheet ml_X5_254 dX5_film_2 (As := [.int x, .int l]) (rest := []) rfl rfl (by decide) (by decide) (Nat.le_of_ble_eq_true rfl) (by decide) (by decide) [] rfl (by decide) (fun u => Nat.le_of_ble_eq_true rfl) (ws' := fun u => modelW cI a q) (fun u => rfl) (fun u hu => ?_)
  obtain ⟨r_1, rfl⟩ : ∃ z, z = u := ⟨_, rfl⟩
  have h2 : r_1 = if (0 ≤ x ∧ x ≤ 3) ∧ 0 ≤ l ∧ l ≤ 2 then 1 else 0 := hu
  by_cases c3 : (0 ≤ x ∧ x ≤ 3) ∧ 0 ≤ l ∧ l ≤ 2
  · rw [if_pos c3] at h2
    subst h2
    show Go E Q 6 0 0 5 [(0, .ref (a 0)), (1, .int x), (2, .int l), (3, .int i)] [.int 1] (modelW cI a q)
    refine g_if_ne hE 10 dX5_film_5 (by decide) (fun c4 => ?_) (fun c4 => absurd c4 (by decide))
    obtain ⟨hk4, hkn⟩ := sk_good hk c3.1
    have hk4n : ¬ k = 4 := (by omega)
    refine g_aload_n hE dX5_film_10 0 rfl ?_
    refine g_iload_n hE dX5_film_11 1 rfl ?_
    refine g_iload_n hE dX5_film_12 2 rfl ?_
    refine g_iload_n hE dX5_film_13 3 rfl ?_
    refine g_aload_n hE dX5_film_14 0 rfl ?_
    refine g_get hE fl_X5_64 dX5_film_15 0 rfl rfl ?_
    refine g_callV hE (c_X5_lacksRow cI cS a q sh hSQ x k hk4 hkn l i (q 18 0) n c3.2.1 (show (q 18 0) = nI n from hgr) (by omega)) mk_X5_lacksRow mv_X5_lacksRow ml_X5_257 dX5_film_18 (As := [.int x, .int l, .int i, .int (q 18 0)]) (rest := []) rfl rfl 0 rfl (show vwCl[5]? = some (RX5, TX5, 32) from rfl) (by decide) (by decide) (Nat.le_of_ble_eq_true rfl) (by decide) (by decide) [0, 1, 2, 3, 4, 5, 6, 7, 8, 9, 10, 11, 12, 13, 14, 15, 16, 17, 18] rfl (by decide) (fun u => Nat.le_of_ble_eq_true rfl) (ws' := fun u => modelW cI a q) (fun u => rfl) (fun u hu => ?_)
    obtain ⟨r_5, rfl⟩ : ∃ z, z = u := ⟨_, rfl⟩
    have h6 : r_5 = (refS (sh k 1 0) (sh k 1 1) l i (q 18 0)) := hu
    subst h6
    show Go E Q 6 0 0 21 [(0, .ref (a 0)), (1, .int x), (2, .int l), (3, .int i)] [.int (refS (sh k 1 0) (sh k 1 1) l i (q 18 0))] (modelW cI a q)
    refine g_istore hE dX5_film_21 [(4, .int (refS (sh k 1 0) (sh k 1 1) l i (q 18 0))), (0, .ref (a 0)), (1, .int x), (2, .int l), (3, .int i)] (by decide) rfl ?_
    refine g_iload hE dX5_film_23 0 rfl ?_
    refine g_if_ge hE 31 dX5_film_25 (by decide) (fun c7 => ?_) (fun c7 => ?_)
    · have hrz := ref_z (show ¬ (refS (sh k 1 0) (sh k 1 1) l i (q 18 0)) < 0 from (Int32.not_lt.mpr c7))
      obtain ⟨hon, hln, hhas⟩ := ref_has hrz
      obtain ⟨ij, hij, hijn⟩ := has_nat hhas (hSQ k hk4).2.1 (W := n) hgr (by omega)
      refine g_aload_n hE dX5_film_31 1 rfl ?_
      refine g_callV hE (c_X5_tryNow cI cS a q hgr hn6 hsv hsv8 hpl hpl6 m hTQ) mk_X5_tryNow mv_X5_tryNow ml_X5_192 dX5_film_32 (As := []) (rest := []) rfl rfl 0 rfl (show vwCl[5]? = some (RX5, TX5, 32) from rfl) (by decide) (by decide) (Nat.le_of_ble_eq_true rfl) (by decide) (by decide) [0, 1, 2, 3, 4, 5, 6, 7, 8, 9, 10, 11, 12, 13, 14, 15, 16, 17, 18] rfl (by decide) (fun u => Nat.le_of_ble_eq_true rfl) (ws' := fun u => modelW cI a (pA (pA (pA (pA (pA q 8 u.1) 9 u.2.1) 7 u.2.2.1) 10 u.2.2.2) 18 (upd (upd (upd (q 18) 7 (q 18 2)) 8 (chR m n (m 7) pl)) 9 (nI (flN m n (m 7) pl))))) (fun u => rfl) (fun u hu => ?_)
      obtain ⟨tk_8, mh_9, tr_10, h_11⟩ := u
      have h12 : (∀ s, s < sv → tk_8 s = (q 3) (4 * s) ∧ mh_9 s = (q 3) (4 * s + 1)) ∧ (∀ k, k < pl → tr_10 k = (q 4) k) ∧ ∀ g, g < n → h_11 g = hA m n (m 7) pl pl g := hu
      show Go E Q 6 0 0 35 [(4, .int (refS (sh k 1 0) (sh k 1 1) l i (q 18 0))), (0, .ref (a 0)), (1, .int x), (2, .int l), (3, .int i)] [] (modelW cI a (pA (pA (pA (pA (pA q 8 tk_8) 9 mh_9) 7 tr_10) 10 h_11) 18 (upd (upd (upd (q 18) 7 (q 18 2)) 8 (chR m n (m 7) pl)) 9 (nI (flN m n (m 7) pl)))))
      refine g_iconst hE dX5_film_35 0 (by decide) ?_
      refine g_istore hE dX5_film_36 [(5, .int 0), (4, .int (refS (sh k 1 0) (sh k 1 1) l i (q 18 0))), (0, .ref (a 0)), (1, .int x), (2, .int l), (3, .int i)] (by decide) rfl ?_
      have L38 : ∀ (n_38 : Nat) (g : Nat) (it : Nat → Int32), (g ≤ n) → (∀ r, it r = if 24 * k + ij ≤ r ∧ r < 24 * k + ij + g then h_11 (r - (24 * k + ij)) else q 16 r) → (n - g < n_38) → Go E Q 6 0 0 38 [(0, .ref (a 0)), (1, .int x), (2, .int l), (3, .int i), (5, .int (nI g))] [] (modelW cI a (pA (pA (pA (pA (pA (pA q 8 tk_8) 9 mh_9) 7 tr_10) 10 h_11) 18 (upd (upd (upd (q 18) 7 (q 18 2)) 8 (chR m n (m 7) pl)) 9 (nI (flN m n (m 7) pl)))) 16 it)) := by
        intro n_38
        induction n_38 with
        | zero => intro g it hg hit hm_38; exact absurd hm_38 (Nat.not_lt_zero _)
        | succ n_38 ih_38 =>
          intro g it hg hit hm_38
          refine g_iload hE dX5_film_38 4 rfl ?_
          refine g_aload_n hE dX5_film_40 0 rfl ?_
          refine g_get hE fl_X5_64 dX5_film_41 0 rfl rfl ?_
          refine g_icmp_ge hE 74 dX5_film_44 (by decide) (fun c13 => ?_) (fun c13 => ?_)
          · have kc13 := nat_le_t (show (q 18 0) = nI n from hgr) (show (nI g) = nI g from rfl) (by omega) (by omega) c13
            refine g_aload_n hE dX5_film_74 0 rfl ?_
            refine g_get hE fl_X5_64 dX5_film_75 0 rfl rfl ?_
            exact g_iret hE hQ dX5_film_78 rfl ((q 18 0), (pA (pA (pA (pA (pA (pA q 8 tk_8) 9 mh_9) 7 tr_10) 10 h_11) 18 (upd (upd (upd (q 18) 7 (q 18 2)) 8 (chR m n (m 7) pl)) 9 (nI (flN m n (m 7) pl)))) 16 it)) rfl rfl ⟨(by rw [fgFilm, hc0, if_neg hk4n, if_pos c3.2, if_pos hrz]), ⟨rfl, rfl, rfl, rfl, rfl, rfl, rfl, rfl, rfl⟩, ⟨rfl, rfl, rfl, rfl⟩, (by rw [fgFilm, hc0, if_neg hk4n, if_pos c3.2, if_pos hrz]; show SQ _ (pA sh k (shT (flA m n pl (sh k 0) (sh k 1 0) i n) (sh k 1 0) (sh k 1 1))); rw [show i = nI ij from hijn]; exact SQ_film hSQ hk4 hpl6 hij hon h12.2.2 rfl rfl (by have e : g = n := (by omega); rw [e] at hit; exact hit) rfl rfl)⟩
          · have kc13 := nat_le_f (show (q 18 0) = nI n from hgr) (show (nI g) = nI g from rfl) (by omega) (by omega) c13
            refine g_aload_n hE dX5_film_47 0 rfl ?_
            refine g_get hE fl_X5_58 dX5_film_48 0 rfl rfl ?_
            refine g_bipush hE dX5_film_51 24 (by decide) ?_
            refine g_iload_n hE dX5_film_53 1 rfl ?_
            refine g_imul_n hE dX5_film_54 (show 24 = nI 24 from rfl) (show x = nI k from hkn) ?_
            refine g_iload_n hE dX5_film_55 3 rfl ?_
            refine g_iadd_n hE dX5_film_56 (show (nI (24 * k)) = nI (24 * k) from rfl) (show i = nI ij from hijn) ?_
            refine g_iload hE dX5_film_57 4 rfl ?_
            refine g_iadd_n hE dX5_film_59 (show (nI ((24 * k) + ij)) = nI ((24 * k) + ij) from rfl) (show (nI g) = nI g from rfl) ?_
            refine g_aload_n hE dX5_film_60 0 rfl ?_
            refine g_get hE fl_X5_40 dX5_film_61 0 rfl rfl ?_
            refine g_iload hE dX5_film_64 4 rfl ?_
            refine g_iald_n hE dX5_film_66 11 rfl (show (nI g) = nI g from rfl) (by omega) ?_
            refine g_iast_n hE dX5_film_67 17 rfl (show (nI (((24 * k) + ij) + g)) = nI (((24 * k) + ij) + g) from rfl) (by omega) (modelW cI a (pA (pA (pA (pA (pA (pA (pA q 8 tk_8) 9 mh_9) 7 tr_10) 10 h_11) 18 (upd (upd (upd (q 18) 7 (q 18 2)) 8 (chR m n (m 7) pl)) 9 (nI (flN m n (m 7) pl)))) 16 it) 16 (upd it (((24 * k) + ij) + g) (h_11 g)))) rfl ?_
            refine g_iinc hE dX5_film_68 4 (nI (g + 1)) [(5, .int (nI (g + 1))), (0, .ref (a 0)), (1, .int x), (2, .int l), (3, .int i)] rfl (nI_1 _) (by decide) rfl ?_
            refine g_goto hE 38 dX5_film_71 (by decide) ?_
            refine g_locals [1, 2, 3, 4, 0] [(0, .ref (a 0)), (1, .int x), (2, .int l), (3, .int i), (5, .int (nI (g + 1)))] rfl ?_
            exact ih_38 (g + 1) (upd it (((24 * k) + ij) + g) (h_11 g)) (by first | assumption | omega) (fi_s hit) (by omega)
      refine g_locals [2, 3, 4, 5, 0] [(0, .ref (a 0)), (1, .int x), (2, .int l), (3, .int i), (5, .int 0)] rfl ?_
      exact L38 _ 0 (q 16) (Nat.zero_le _) (fun r => (if_neg (by omega)).symm) (Nat.lt_succ_self _)
    · refine g_iload hE dX5_film_28 0 rfl ?_
      exact g_iret hE hQ dX5_film_30 rfl ((refS (sh k 1 0) (sh k 1 1) l i (q 18 0)), q) rfl rfl ⟨(by rw [(show fgFilm m n pl sh k l i = ((refS (sh k 1 0) (sh k 1 1) l i (q 18 0)), sh) by rw [fgFilm, hc0, if_neg hk4n, if_pos c3.2, if_neg (ref_nz (show (refS (sh k 1 0) (sh k 1 1) l i (q 18 0)) < 0 from (Int32.not_le.mp c7)))])]), ⟨rfl, rfl, rfl, rfl, rfl, rfl, rfl, rfl, rfl⟩, ⟨rfl, rfl, rfl, rfl⟩, (by rw [(show fgFilm m n pl sh k l i = ((refS (sh k 1 0) (sh k 1 1) l i (q 18 0)), sh) by rw [fgFilm, hc0, if_neg hk4n, if_pos c3.2, if_neg (ref_nz (show (refS (sh k 1 0) (sh k 1 1) l i (q 18 0)) < 0 from (Int32.not_le.mp c7)))])]; exact hSQ)⟩
  · rw [if_neg c3] at h2
    subst h2
    show Go E Q 6 0 0 5 [(0, .ref (a 0)), (1, .int x), (2, .int l), (3, .int i)] [.int 0] (modelW cI a q)
    refine g_if_ne hE 10 dX5_film_5 (by decide) (fun c14 => absurd (by decide) c14) (fun c14 => ?_)
    refine g_iconst hE dX5_film_8 (-1) (by decide) ?_
    exact g_iret hE hQ dX5_film_9 rfl ((-1), q) rfl rfl ⟨(by rw [(show fgFilm m n pl sh k l i = (-1, sh) by unfold fgFilm; exact sb_ite (sk_bad hk c3))]), ⟨rfl, rfl, rfl, rfl, rfl, rfl, rfl, rfl, rfl⟩, ⟨rfl, rfl, rfl, rfl⟩, (by rw [(show fgFilm m n pl sh k l i = (-1, sh) by unfold fgFilm; exact sb_ite (sk_bad hk c3))]; exact hSQ)⟩
set_option maxHeartbeats 4000000 in
set_option maxRecDepth 100000 in
theorem c_X5_areFound (cI cS : ClassId) (a : Nat → Nat) (q : Nat → Nat → Int32) {n : Nat} (hgr : q 18 0 = nI n) (hn6 : n ≤ 6) {l : Nat} (htm : q 18 7 = nI l) (hl6 : l ≤ 6) {sv : Nat} (hsv8 : sv ≤ 8) (m : MS) (hSA : SA q m n sv) (hRA : RA (q 7) (m 7) l sv) (x : Int32) (b : Nat) (hx : x = nI b) (i : Nat) (T : Nat → Int32) (hi : i + n ≤ 24) (hb : b + n ≤ 96) (hT : ∀ g, g < n → q 16 (b + g) = T (i + g)) (ha0 : ∀ g, g < n → 0 ≤ m 1 g) : CT cI cS yX5_areFound cX5_areFound 4 (some .boolean) 2 [.ref (a 0), .int x] (modelW cI a q) 0 0 (fun u : Int32 × (Nat → Int32) => u.1 = if boB m n l T (nI i) n = true then 1 else 0) (fun u => some (.int u.1)) (fun u => (modelW cI a (pA (pA q 10 u.2) 18 (upd (upd (q 18) 8 (chR m n (m 7) l)) 9 (nI (flN m n (m 7) l)))))) := by
  refine ct_intro (by decide) (Nat.le_of_ble_eq_true rfl) (fun E Q hE hQ hI => ?_)
  have hE : CxOk E cI cS RX5 cX5_areFound 4 (some .boolean) 2 0 0 := hE
  show Go E Q 4 0 0 0 [(0, .ref (a 0)), (1, .int x)] [] (modelW cI a q)
  refine g_aload_n hE dX5_areFound_0 0 rfl ?_
  refine g_callV hE (c_X5_shakeOnce cI cS a q hgr hn6 htm hl6 hsv8 m (m 7) hSA hRA) mk_X5_shakeOnce mv_X5_shakeOnce ml_X5_189 dX5_areFound_1 (As := []) (rest := []) rfl rfl 0 rfl (show vwCl[5]? = some (RX5, TX5, 32) from rfl) (by decide) (by decide) (Nat.le_of_ble_eq_true rfl) (by decide) (by decide) [0, 1, 2, 3, 4, 5, 6, 7, 8, 9, 10, 11, 12, 13, 14, 15, 16, 17, 18] rfl (by decide) (fun u => Nat.le_of_ble_eq_true rfl) (ws' := fun u => modelW cI a (pA (pA q 10 u) 18 (upd (upd (q 18) 8 (chR m n (m 7) l)) 9 (nI (flN m n (m 7) l))))) (fun u => rfl) (fun u hu => ?_)
  obtain ⟨h_1, rfl⟩ : ∃ z, z = u := ⟨_, rfl⟩
  have h2 : ∀ g, g < n → h_1 g = hA m n (m 7) l l g := hu
  show Go E Q 4 0 0 4 [(0, .ref (a 0)), (1, .int x)] [] (modelW cI a (pA (pA q 10 h_1) 18 (upd (upd (q 18) 8 (chR m n (m 7) l)) 9 (nI (flN m n (m 7) l)))))
  refine g_iconst hE dX5_areFound_4 1 (by decide) ?_
  refine g_istore_n hE dX5_areFound_5 [(2, .int 1), (0, .ref (a 0)), (1, .int x)] rfl (by decide) rfl ?_
  refine g_iconst hE dX5_areFound_6 0 (by decide) ?_
  refine g_istore_n hE dX5_areFound_7 [(3, .int 0), (2, .int 1), (0, .ref (a 0)), (1, .int x)] rfl (by decide) rfl ?_
  have L8 : ∀ (n_8 : Nat) (g : Nat) (y : Int32), (g ≤ n) → (y = if boB m n l T (nI i) g = true then 1 else 0) → (n - g < n_8) → Go E Q 4 0 0 8 [(0, .ref (a 0)), (1, .int x), (2, .int y), (3, .int (nI g))] [] (modelW cI a (pA (pA q 10 h_1) 18 (upd (upd (q 18) 8 (chR m n (m 7) l)) 9 (nI (flN m n (m 7) l))))) := by
    intro n_8
    induction n_8 with
    | zero => intro g y hg hy hm_8; exact absurd hm_8 (Nat.not_lt_zero _)
    | succ n_8 ih_8 =>
      intro g y hg hy hm_8
      refine g_iload_n hE dX5_areFound_8 3 rfl ?_
      refine g_aload_n hE dX5_areFound_9 0 rfl ?_
      refine g_get hE fl_X5_64 dX5_areFound_10 0 rfl rfl ?_
      refine g_icmp_ge hE 58 dX5_areFound_13 (by decide) (fun c3 => ?_) (fun c3 => ?_)
      · have kc3 := nat_le_t (show (q 18 0) = nI n from hgr) (show (nI g) = nI g from rfl) (by omega) (by omega) c3
        refine g_iload_n hE dX5_areFound_58 2 rfl ?_
        exact g_iret hE hQ dX5_areFound_59 (by rw [hy]; split <;> decide) (y, h_1) rfl rfl (by rw [hy, show g = n by omega])
      · have kc3 := nat_le_f (show (q 18 0) = nI n from hgr) (show (nI g) = nI g from rfl) (by omega) (by omega) c3
        refine g_iload_n hE dX5_areFound_16 2 rfl ?_
        refine g_if_eq hE 50 dX5_areFound_17 (by decide) (fun c4 => ?_) (fun c4 => ?_)
        · refine g_iconst hE dX5_areFound_50 0 (by decide) ?_
          refine g_istore_n hE dX5_areFound_51 [(2, .int 0), (0, .ref (a 0)), (1, .int x), (3, .int (nI g))] rfl (by decide) rfl ?_
          refine g_iinc hE dX5_areFound_52 3 (nI (g + 1)) [(3, .int (nI (g + 1))), (2, .int 0), (0, .ref (a 0)), (1, .int x)] rfl (nI_1 _) (by decide) rfl ?_
          refine g_goto hE 8 dX5_areFound_55 (by decide) ?_
          refine g_locals [2, 3, 1, 0] [(0, .ref (a 0)), (1, .int x), (2, .int 0), (3, .int (nI (g + 1)))] rfl ?_
          exact ih_8 (g + 1) 0 (by first | assumption | omega) (af_0 hy (show y = 0 from c4)) (by omega)
        · refine g_aload_n hE dX5_areFound_20 0 rfl ?_
          refine g_get hE fl_X5_13 dX5_areFound_21 0 rfl rfl ?_
          refine g_iload_n hE dX5_areFound_24 3 rfl ?_
          refine g_iald_n hE dX5_areFound_25 2 rfl (show (nI g) = nI g from rfl) (by omega) ?_
          refine g_if_eq hE 46 dX5_areFound_26 (by decide) (fun c5 => ?_) (fun c5 => ?_)
          · refine g_iconst hE dX5_areFound_46 1 (by decide) ?_
            refine g_goto hE 51 dX5_areFound_47 (by decide) ?_
            refine g_istore_n hE dX5_areFound_51 [(2, .int 1), (0, .ref (a 0)), (1, .int x), (3, .int (nI g))] rfl (by decide) rfl ?_
            refine g_iinc hE dX5_areFound_52 3 (nI (g + 1)) [(3, .int (nI (g + 1))), (2, .int 1), (0, .ref (a 0)), (1, .int x)] rfl (nI_1 _) (by decide) rfl ?_
            refine g_goto hE 8 dX5_areFound_55 (by decide) ?_
            refine g_locals [2, 3, 1, 0] [(0, .ref (a 0)), (1, .int x), (2, .int 1), (3, .int (nI (g + 1)))] rfl ?_
            exact ih_8 (g + 1) 1 (by first | assumption | omega) (af_y (h := h_1) hl6 hi (by omega) (hSA.1 g (by omega)).2 (h2 g (by omega)) (hT g (by omega)) hy (show ¬ y = 0 from c4) (Or.inl (show ((q 1) g) = 0 from c5))) (by omega)
          · refine g_aload_n hE dX5_areFound_29 0 rfl ?_
            refine g_get hE fl_X5_40 dX5_areFound_30 0 rfl rfl ?_
            refine g_iload_n hE dX5_areFound_33 3 rfl ?_
            refine g_iald_n hE dX5_areFound_34 11 rfl (show (nI g) = nI g from rfl) (by omega) ?_
            refine g_aload_n hE dX5_areFound_35 0 rfl ?_
            refine g_get hE fl_X5_58 dX5_areFound_36 0 rfl rfl ?_
            refine g_iload_n hE dX5_areFound_39 1 rfl ?_
            refine g_iload_n hE dX5_areFound_40 3 rfl ?_
            refine g_iadd_n hE dX5_areFound_41 hx (show (nI g) = nI g from rfl) ?_
            refine g_iald_n hE dX5_areFound_42 17 rfl (show (nI (b + g)) = nI (b + g) from rfl) (by omega) ?_
            refine g_icmp_ne hE 50 dX5_areFound_43 (by decide) (fun c6 => ?_) (fun c6 => ?_)
            · refine g_iconst hE dX5_areFound_50 0 (by decide) ?_
              refine g_istore_n hE dX5_areFound_51 [(2, .int 0), (0, .ref (a 0)), (1, .int x), (3, .int (nI g))] rfl (by decide) rfl ?_
              refine g_iinc hE dX5_areFound_52 3 (nI (g + 1)) [(3, .int (nI (g + 1))), (2, .int 0), (0, .ref (a 0)), (1, .int x)] rfl (nI_1 _) (by decide) rfl ?_
              refine g_goto hE 8 dX5_areFound_55 (by decide) ?_
              refine g_locals [2, 3, 1, 0] [(0, .ref (a 0)), (1, .int x), (2, .int 0), (3, .int (nI (g + 1)))] rfl ?_
              exact ih_8 (g + 1) 0 (by first | assumption | omega) (af_n hl6 hi (by omega) (hSA.1 g (by omega)).2 (ha0 g (by omega)) (h2 g (by omega)) (hT g (by omega)) (show ¬ ((q 1) g) = 0 from c5) (show ¬ (h_1 g) = ((q 16) (b + g)) from c6)) (by omega)
            · refine g_iconst hE dX5_areFound_46 1 (by decide) ?_
              refine g_goto hE 51 dX5_areFound_47 (by decide) ?_
              refine g_istore_n hE dX5_areFound_51 [(2, .int 1), (0, .ref (a 0)), (1, .int x), (3, .int (nI g))] rfl (by decide) rfl ?_
              refine g_iinc hE dX5_areFound_52 3 (nI (g + 1)) [(3, .int (nI (g + 1))), (2, .int 1), (0, .ref (a 0)), (1, .int x)] rfl (nI_1 _) (by decide) rfl ?_
              refine g_goto hE 8 dX5_areFound_55 (by decide) ?_
              refine g_locals [2, 3, 1, 0] [(0, .ref (a 0)), (1, .int x), (2, .int 1), (3, .int (nI (g + 1)))] rfl ?_
              exact ih_8 (g + 1) 1 (by first | assumption | omega) (af_y hl6 hi (by omega) (hSA.1 g (by omega)).2 (h2 g (by omega)) (hT g (by omega)) hy (show ¬ y = 0 from c4) (Or.inr (show (h_1 g) = ((q 16) (b + g)) from c6))) (by omega)
  refine g_locals [2, 3, 1, 0] [(0, .ref (a 0)), (1, .int x), (2, .int 1), (3, .int 0)] rfl ?_
  exact L8 _ 0 1 (Nat.zero_le _) rfl (Nat.lt_succ_self _)
