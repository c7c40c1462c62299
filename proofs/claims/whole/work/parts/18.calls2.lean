/-! the loft's calls: what would be found -/
theorem nat_of_lt {x y : Int32} {b : Nat} (h : 0 ≤ x ∧ x < y) (hy : y = nI b) (hb : b < 2 ^ 31) : ∃ j : Nat, j < b ∧ x = nI j ∧ j = x.toNatClampNeg := by
  subst hy
  obtain ⟨j, h1, h2⟩ := nI_of (Int32.not_lt.mpr h.1)
  refine ⟨j, ?_, h2, ?_⟩
  · have h3 := h.2
    rw [h2, nI_ltI h1 hb] at h3
    exact h3
  · rw [h2, nI_clamp h1]
theorem nat_of_le {x y : Int32} {b : Nat} (h : 0 ≤ x ∧ x ≤ y) (hy : y = nI b) (hb : b < 2 ^ 31) : ∃ j : Nat, j ≤ b ∧ x = nI j ∧ j = x.toNatClampNeg := by
  subst hy
  obtain ⟨j, h1, h2⟩ := nI_of (Int32.not_lt.mpr h.1)
  refine ⟨j, ?_, h2, ?_⟩
  · have h3 := h.2
    rw [h2, nI_leI h1 hb] at h3
    exact h3
  · rw [h2, nI_clamp h1]
def fitS (m : MS) (pl : Nat) (k : Int32) : Nat → Int64
  | 0 => 0
  | s + 1 => if hzR m (nI (s + 1)) pl 0 = k then fitS m pl k s ||| (1 <<< ((nI s).toInt64 &&& 63)) else fitS m pl k s
theorem fitS_y {m : MS} {pl s : Nat} {k : Int32} {z : Int64} (hz : z = fitS m pl k s) (h : hzR m (nI (s + 1)) pl 0 = k) : z ||| (1 <<< ((nI (s + 1 - 1)).toInt64 &&& 63)) = fitS m pl k (s + 1) := by rw [fitS, if_pos h, hz, Nat.add_sub_cancel]
theorem fitS_n {m : MS} {pl s : Nat} {k : Int32} {z : Int64} (hz : z = fitS m pl k s) (h : ¬ hzR m (nI (s + 1)) pl 0 = k) : z = fitS m pl k (s + 1) := by rw [fitS, if_neg h, hz]
def chS (m : MS) (n : Nat) : Nat → Int32
  | 0 => 0
  | p + 1 => if atv (m 5) 8 (m 7 p) < aS (m 1) (bigS m (m 7 p) (cmS m n (m 7) p) n) n then chS m n p ||| ((1 : Int32) <<< (nI p &&& 31)) else chS m n p
theorem chS_y {m : MS} {n p : Nat} {y : Int32} (hy : y = chS m n p) (h : atv (m 5) 8 (m 7 p) < aS (m 1) (bigS m (m 7 p) (cmS m n (m 7) p) n) n) : y ||| ((1 : Int32) <<< (nI p &&& 31)) = chS m n (p + 1) := by rw [chS, if_pos h, hy]
theorem chS_n {m : MS} {n p : Nat} {y : Int32} (hy : y = chS m n p) (h : ¬ atv (m 5) 8 (m 7 p) < aS (m 1) (bigS m (m 7 p) (cmS m n (m 7) p) n) n) : y = chS m n (p + 1) := by rw [chS, if_neg h, hy]
def fFound (m : MS) (n pl : Nat) (k wh : Int32) : Int32 := if 0 ≤ k ∧ k ≤ m 9 2 then (if 0 ≤ wh ∧ wh ≤ 2 then (if wh = 0 then nI (hpS m n (m 7) pl k.toNatClampNeg) else if wh = 1 then aS (m 1) (hpS m n (m 7) pl k.toNatClampNeg) n else wS m n (hpS m n (m 7) pl k.toNatClampNeg)) else -1) else -1
def sameB (m v : MS) : Nat → Bool
  | 0 => true
  | k + 1 => sameB m v k && decide (m 8 k = v 8 k)
theorem sameB_y {m v : MS} {k : Nat} (h : sameB m v k = true) (e : m 8 k = v 8 k) : sameB m v (k + 1) = true := by rw [sameB, h, decide_eq_true e]; rfl
theorem sameB_at {m v : MS} : ∀ {l : Nat}, sameB m v l = true → ∀ k, k < l → m 8 k = v 8 k
  | 0, _, k, hk => absurd hk (Nat.not_lt_zero _)
  | l + 1, h, k, hk => by
    rw [sameB, Bool.and_eq_true] at h
    by_cases e : k = l
    · subst e; exact of_decide_eq_true h.2
    · exact sameB_at h.1 k (by omega)
theorem sameB_no {m v : MS} {k l : Nat} (hk : k < l) (e : ¬ m 8 k = v 8 k) : ¬ sameB m v l = true := fun h => e (sameB_at h k hk)
set_option maxHeartbeats 4000000 in
set_option maxRecDepth 100000 in
theorem c_X4_fits (cI cS : ClassId) (a : Nat → Nat) (m v w : Nat → Nat → Int32) (T C : Nat → Int32) (li ap va le : Int32) (B : Nat → Int32) (L P : Nat) (F : Int32) (sh : Nat → Nat → Nat → Int32) (kf : Int32) {n sv pl n1 sv1 pl1 n2 sv2 pl2 : Nat} (hM : MW m n sv pl) (hV : MW v n1 sv1 pl1) (hW : MW w n2 sv2 pl2) (hL : L ≤ 120) (k : Int32) : CT cI cS yX4_fits cX4_fits 5 (some .long) 3 [.ref (a 0), .int k] (loftW cI cS a m v w (seS T C li ap va le) (tpS B L P F) sh kf) 0 0 (fun u : Int64 => u = if 0 ≤ k ∧ k ≤ m 9 2 then fitS m pl k 60 else -1) (fun u => some (.long u)) (fun u => (loftW cI cS a m v w (seS T C li ap va le) (tpS B L P F) sh kf)) := by
  refine ct_intro (by decide) (Nat.le_of_ble_eq_true rfl) (fun E Q hE hQ hI => ?_)
  have hE : CxOk E cI cS RX4 cX4_fits 5 (some .long) 3 0 0 := hE
  show Go E Q 5 0 0 0 [(0, .ref (a 0)), (1, .int k)] [] (loftW cI cS a m v w (seS T C li ap va le) (tpS B L P F) sh kf)
  have hn := hM.1
  have hn6 := hM.2.1
  have hsv := hM.2.2.1
  have hsv8 := hM.2.2.2.1
  have hpl := hM.2.2.2.2.1
  have hpl6 := hM.2.2.2.2.2
  have hn1 := hV.1
  have hn16 := hV.2.1
  have hsv1 := hV.2.2.1
  have hsv18 := hV.2.2.2.1
  have hpl1 := hV.2.2.2.2.1
  have hpl16 := hV.2.2.2.2.2
  refine g_aload_n hE dX4_fits_0 0 rfl ?_
  refine g_get hE fl_X4_10 dX4_fits_1 0 rfl rfl ?_
  refine g_iload_n hE dX4_fits_4 1 rfl ?_
  refine g_callV hE (c_X0_hasHeap cI cS (fun i => a (i + 1)) m (by first | assumption | exact mw_of (by assumption)) k) mk_X0_hasHeap mv_X0_hasHeap ml_X4_155 dX4_fits_5 (As := [.int k]) (rest := []) rfl rfl 1 rfl (show vwCl[0]? = some (RX0, TX0, 13) from rfl) (by decide) (by decide) (Nat.le_of_ble_eq_true rfl) (by decide) (by decide) [1, 2, 3, 4, 5, 6, 7, 8, 9, 10] rfl (by decide) (fun u => Nat.le_of_ble_eq_true rfl) (ws' := fun u => loftW cI cS a m v w (seS T C li ap va le) (tpS B L P F) sh kf) (fun u => rfl) (fun u hu => ?_)
  obtain ⟨r_1, rfl⟩ : ∃ z, z = u := ⟨_, rfl⟩
  have h2 : r_1 = if 0 ≤ k ∧ k ≤ m 9 2 then 1 else 0 := hu
  by_cases c3 : 0 ≤ k ∧ k ≤ m 9 2
  · rw [if_pos c3] at h2
    subst h2
    show Go E Q 5 0 0 8 [(0, .ref (a 0)), (1, .int k)] [.int 1] (loftW cI cS a m v w (seS T C li ap va le) (tpS B L P F) sh kf)
    refine g_if_ne hE 15 dX4_fits_8 (by decide) (fun c4 => ?_) (fun c4 => absurd c4 (by decide))
    refine g_lconst hE dX4_fits_15 0 (by decide) ?_
    refine g_lstore_n hE dX4_fits_16 [(2, .long 0), (0, .ref (a 0)), (1, .int k)] rfl (by decide) rfl ?_
    refine g_iconst hE dX4_fits_17 1 (by decide) ?_
    refine g_istore hE dX4_fits_18 [(4, .int 1), (2, .long 0), (0, .ref (a 0)), (1, .int k)] (by decide) rfl ?_
    have L20 : ∀ (n_20 : Nat) (s : Nat) (z : Int64), (s ≤ 60) → (z = fitS m pl k s) → (60 - s < n_20) → Go E Q 5 0 0 20 [(0, .ref (a 0)), (1, .int k), (2, .long z), (4, .int (nI (s + 1)))] [] (loftW cI cS a m v w (seS T C li ap va le) (tpS B L P F) sh kf) := by
      intro n_20
      induction n_20 with
      | zero => intro s z hs hz hm_20; exact absurd hm_20 (Nat.not_lt_zero _)
      | succ n_20 ih_20 =>
        intro s z hs hz hm_20
        refine g_iload hE dX4_fits_20 3 rfl ?_
        refine g_bipush hE dX4_fits_22 60 (by decide) ?_
        refine g_icmp_gt hE 55 dX4_fits_24 (by decide) (fun c5 => ?_) (fun c5 => ?_)
        · have kc5 := nat_lt_t (show 60 = nI 60 from rfl) (show (nI (s + 1)) = nI (s + 1) from rfl) (by omega) (by omega) c5
          refine g_lload_n hE dX4_fits_55 2 rfl ?_
          exact g_lret hE hQ dX4_fits_56 z rfl rfl (by rw [if_pos c3]; rw [hz, show 60 = s by omega])
        · have kc5 := nat_lt_f (show 60 = nI 60 from rfl) (show (nI (s + 1)) = nI (s + 1) from rfl) (by omega) (by omega) c5
          refine g_aload_n hE dX4_fits_27 0 rfl ?_
          refine g_get hE fl_X4_10 dX4_fits_28 0 rfl rfl ?_
          refine g_iload hE dX4_fits_31 3 rfl ?_
          refine g_callV hE (c_X0_heapOfSize cI cS (fun i => a (i + 1)) m (by first | assumption | exact mw_of (by assumption)) (nI (s + 1))) mk_X0_heapOfSize mv_X0_heapOfSize ml_X4_217 dX4_fits_33 (As := [.int (nI (s + 1))]) (rest := []) rfl rfl 1 rfl (show vwCl[0]? = some (RX0, TX0, 13) from rfl) (by decide) (by decide) (Nat.le_of_ble_eq_true rfl) (by decide) (by decide) [1, 2, 3, 4, 5, 6, 7, 8, 9, 10] rfl (by decide) (fun u => Nat.le_of_ble_eq_true rfl) (ws' := fun u => loftW cI cS a m v w (seS T C li ap va le) (tpS B L P F) sh kf) (fun u => rfl) (fun u hu => ?_)
          obtain ⟨r_6, rfl⟩ : ∃ z, z = u := ⟨_, rfl⟩
          have h7 : r_6 = (hzR m (nI (s + 1)) pl 0) := hu
          subst h7
          show Go E Q 5 0 0 36 [(0, .ref (a 0)), (1, .int k), (2, .long z), (4, .int (nI (s + 1)))] [.int (hzR m (nI (s + 1)) pl 0)] (loftW cI cS a m v w (seS T C li ap va le) (tpS B L P F) sh kf)
          refine g_iload_n hE dX4_fits_36 1 rfl ?_
          refine g_icmp_ne hE 49 dX4_fits_37 (by decide) (fun c8 => ?_) (fun c8 => ?_)
          · refine g_iinc hE dX4_fits_49 3 (nI ((s + 1) + 1)) [(4, .int (nI ((s + 1) + 1))), (0, .ref (a 0)), (1, .int k), (2, .long z)] rfl (nI_1 _) (by decide) rfl ?_
            refine g_goto hE 20 dX4_fits_52 (by decide) ?_
            refine g_locals [1, 2, 3, 0] [(0, .ref (a 0)), (1, .int k), (2, .long z), (4, .int (nI ((s + 1) + 1)))] rfl ?_
            exact ih_20 (s + 1) z (by first | assumption | omega) (by first | exact fitS_y hz (by assumption) | exact fitS_n hz (by assumption)) (by omega)
          · refine g_lload_n hE dX4_fits_40 2 rfl ?_
            refine g_lconst hE dX4_fits_41 1 (by decide) ?_
            refine g_iload hE dX4_fits_42 3 rfl ?_
            refine g_iconst hE dX4_fits_44 1 (by decide) ?_
            refine g_isub_n hE dX4_fits_45 (show (nI (s + 1)) = nI (s + 1) from rfl) (show 1 = nI 1 from rfl) (by omega) ?_
            refine g_lshl hE dX4_fits_46 ?_
            refine g_lor hE dX4_fits_47 ?_
            refine g_lstore_n hE dX4_fits_48 [(2, .long (z ||| (1 <<< (Int32.toInt64 (nI ((s + 1) - 1)) &&& 63)))), (0, .ref (a 0)), (1, .int k), (4, .int (nI (s + 1)))] rfl (by decide) rfl ?_
            refine g_iinc hE dX4_fits_49 3 (nI ((s + 1) + 1)) [(4, .int (nI ((s + 1) + 1))), (2, .long (z ||| (1 <<< (Int32.toInt64 (nI ((s + 1) - 1)) &&& 63)))), (0, .ref (a 0)), (1, .int k)] rfl (nI_1 _) (by decide) rfl ?_
            refine g_goto hE 20 dX4_fits_52 (by decide) ?_
            refine g_locals [2, 3, 1, 0] [(0, .ref (a 0)), (1, .int k), (2, .long (z ||| (1 <<< (Int32.toInt64 (nI ((s + 1) - 1)) &&& 63)))), (4, .int (nI ((s + 1) + 1)))] rfl ?_
            exact ih_20 (s + 1) (z ||| (1 <<< (Int32.toInt64 (nI ((s + 1) - 1)) &&& 63))) (by first | assumption | omega) (by first | exact fitS_y hz (by assumption) | exact fitS_n hz (by assumption)) (by omega)
    refine g_locals [2, 3, 1, 0] [(0, .ref (a 0)), (1, .int k), (2, .long 0), (4, .int 1)] rfl ?_
    exact L20 _ 0 0 (Nat.zero_le _) rfl (Nat.lt_succ_self _)
  · rw [if_neg c3] at h2
    subst h2
    show Go E Q 5 0 0 8 [(0, .ref (a 0)), (1, .int k)] [.int 0] (loftW cI cS a m v w (seS T C li ap va le) (tpS B L P F) sh kf)
    refine g_if_ne hE 15 dX4_fits_8 (by decide) (fun c9 => absurd (by decide) c9) (fun c9 => ?_)
    refine g_ldc2 hE dX4_fits_11 cl_X4_215 ?_
    exact g_lret hE hQ dX4_fits_14 (-1) rfl rfl (by rw [if_neg c3])
set_option maxHeartbeats 4000000 in
set_option maxRecDepth 100000 in
theorem c_X4_chokes (cI cS : ClassId) (a : Nat → Nat) (m v w : Nat → Nat → Int32) (T C : Nat → Int32) (li ap va le : Int32) (B : Nat → Int32) (L P : Nat) (F : Int32) (sh : Nat → Nat → Nat → Int32) (kf : Int32) {n sv pl n1 sv1 pl1 n2 sv2 pl2 : Nat} (hM : MW m n sv pl) (hV : MW v n1 sv1 pl1) (hW : MW w n2 sv2 pl2) (hL : L ≤ 120) : CT cI cS yX4_chokes cX4_chokes 5 (some .int) 4 [.ref (a 0)] (loftW cI cS a m v w (seS T C li ap va le) (tpS B L P F) sh kf) 0 0 (fun u : Int32 => u = chS m n pl) (fun u => some (.int u)) (fun u => (loftW cI cS a m v w (seS T C li ap va le) (tpS B L P F) sh kf)) := by
  refine ct_intro (by decide) (Nat.le_of_ble_eq_true rfl) (fun E Q hE hQ hI => ?_)
  have hE : CxOk E cI cS RX4 cX4_chokes 5 (some .int) 4 0 0 := hE
  show Go E Q 5 0 0 0 [(0, .ref (a 0))] [] (loftW cI cS a m v w (seS T C li ap va le) (tpS B L P F) sh kf)
  have hn := hM.1
  have hn6 := hM.2.1
  have hsv := hM.2.2.1
  have hsv8 := hM.2.2.2.1
  have hpl := hM.2.2.2.2.1
  have hpl6 := hM.2.2.2.2.2
  have hn1 := hV.1
  have hn16 := hV.2.1
  have hsv1 := hV.2.2.1
  have hsv18 := hV.2.2.2.1
  have hpl1 := hV.2.2.2.2.1
  have hpl16 := hV.2.2.2.2.2
  refine g_aload_n hE dX4_chokes_0 0 rfl ?_
  refine g_get hE fl_X4_10 dX4_chokes_1 0 rfl rfl ?_
  refine g_callV hE (c_X0_load cI cS (fun i => a (i + 1)) m (by first | assumption | exact mw_of (by assumption))) mk_X0_load mv_X0_load ml_X4_148 dX4_chokes_4 (As := []) (rest := []) rfl rfl 1 rfl (show vwCl[0]? = some (RX0, TX0, 13) from rfl) (by decide) (by decide) (Nat.le_of_ble_eq_true rfl) (by decide) (by decide) [1, 2, 3, 4, 5, 6, 7, 8, 9, 10] rfl (by decide) (fun u => Nat.le_of_ble_eq_true rfl) (ws' := fun u => loftW cI cS a m v w (seS T C li ap va le) (tpS B L P F) sh kf) (fun u => rfl) (fun u hu => ?_)
  obtain ⟨r_1, rfl⟩ : ∃ z, z = u := ⟨_, rfl⟩
  have h2 : r_1 = (nI (ldS m n)) := hu
  subst h2
  show Go E Q 5 0 0 7 [(0, .ref (a 0))] [.int (nI (ldS m n))] (loftW cI cS a m v w (seS T C li ap va le) (tpS B L P F) sh kf)
  refine g_istore_n hE dX4_chokes_7 [(1, .int (nI (ldS m n))), (0, .ref (a 0))] rfl (by decide) rfl ?_
  refine g_iconst hE dX4_chokes_8 0 (by decide) ?_
  refine g_istore_n hE dX4_chokes_9 [(2, .int 0), (1, .int (nI (ldS m n))), (0, .ref (a 0))] rfl (by decide) rfl ?_
  refine g_iconst hE dX4_chokes_10 0 (by decide) ?_
  refine g_istore_n hE dX4_chokes_11 [(3, .int 0), (2, .int 0), (1, .int (nI (ldS m n))), (0, .ref (a 0))] rfl (by decide) rfl ?_
  have L12 : ∀ (n_12 : Nat) (p : Nat) (z : Int32) (y : Int32), (p ≤ pl) → (z = nI (cmS m n (m 7) p)) → (y = chS m n p) → (pl - p < n_12) → Go E Q 5 0 0 12 [(0, .ref (a 0)), (1, .int z), (2, .int y), (3, .int (nI p))] [] (loftW cI cS a m v w (seS T C li ap va le) (tpS B L P F) sh kf) := by
    intro n_12
    induction n_12 with
    | zero => intro p z y hp hz hy hm_12; exact absurd hm_12 (Nat.not_lt_zero _)
    | succ n_12 ih_12 =>
      intro p z y hp hz hy hm_12
      have hcm := cmS_lt (m := m) (row := m 7) hn6 p
      refine g_iload_n hE dX4_chokes_12 3 rfl ?_
      refine g_aload_n hE dX4_chokes_13 0 rfl ?_
      refine g_get hE fl_X4_10 dX4_chokes_14 0 rfl rfl ?_
      refine g_get hE fl_X4_125 dX4_chokes_17 1 rfl rfl ?_
      refine g_icmp_ge hE 81 dX4_chokes_20 (by decide) (fun c3 => ?_) (fun c3 => ?_)
      · have kc3 := nat_le_t (show (m 9 2) = nI pl from hpl) (show (nI p) = nI p from rfl) (by omega) (by omega) c3
        refine g_iload_n hE dX4_chokes_81 2 rfl ?_
        exact g_iret hE hQ dX4_chokes_82 rfl y rfl rfl (by rw [hy, show p = pl by omega])
      · have kc3 := nat_le_f (show (m 9 2) = nI pl from hpl) (show (nI p) = nI p from rfl) (by omega) (by omega) c3
        refine g_aload_n hE dX4_chokes_23 0 rfl ?_
        refine g_get hE fl_X4_10 dX4_chokes_24 0 rfl rfl ?_
        refine g_get hE fl_X4_170 dX4_chokes_27 1 rfl rfl ?_
        refine g_iload_n hE dX4_chokes_30 3 rfl ?_
        refine g_callS hE (c_X4_at cI cS (a 9) 6 (m 7) (nI p) (by decide)) mk_X4_at st_X4_at ml_X4_91 dX4_chokes_31 (As := [.ref (a 9), .int (nI p)]) (rest := []) rfl rfl (by decide) (by decide) (Nat.le_of_ble_eq_true rfl) (by decide) (by decide) [9] rfl (by decide) (fun u => Nat.le_of_ble_eq_true rfl) (ws' := fun u => loftW cI cS a m v w (seS T C li ap va le) (tpS B L P F) sh kf) (fun u => rfl) (fun u hu => ?_)
        obtain ⟨r_4, rfl⟩ : ∃ z, z = u := ⟨_, rfl⟩
        have h5 : r_4 = ((m 7) p) := hu.trans (by rw [show (nI p) = nI p from rfl]; exact atv_n (by omega) (by decide))
        subst h5
        show Go E Q 5 0 0 34 [(0, .ref (a 0)), (1, .int z), (2, .int y), (3, .int (nI p))] [.int ((m 7) p)] (loftW cI cS a m v w (seS T C li ap va le) (tpS B L P F) sh kf)
        refine g_istore hE dX4_chokes_34 [(4, .int ((m 7) p)), (0, .ref (a 0)), (1, .int z), (2, .int y), (3, .int (nI p))] (by decide) rfl ?_
        refine g_aload_n hE dX4_chokes_36 1 rfl ?_
        refine g_get hE fl_X4_10 dX4_chokes_37 0 rfl rfl ?_
        refine g_iload hE dX4_chokes_40 0 rfl ?_
        refine g_aload_n hE dX4_chokes_42 1 rfl ?_
        refine g_get hE fl_X4_10 dX4_chokes_43 0 rfl rfl ?_
        refine g_iload hE dX4_chokes_46 0 rfl ?_
        refine g_iload_n hE dX4_chokes_48 2 rfl ?_
        refine g_callV hE (c_X0_tooBig cI cS (fun i => a (i + 1)) m (by first | assumption | exact mw_of (by assumption)) ((m 7) p) z (cmS m n (m 7) p) (show z = nI (cmS m n (m 7) p) from hz) (by first | assumption | exact bs_lt64 _ (by assumption) | exact fallS_lt (by assumption) (by assumption) | exact nd_lt (by assumption) (by assumption) | exact nd_lt (by assumption) (fallS_lt (by assumption) (by assumption)) | exact nd_lt (by assumption) (bs_lt64 _ (by assumption)) | exact and_lt (by assumption) (by assumption) | exact hpS_lt (by assumption) | decide)) mk_X0_tooBig mv_X0_tooBig ml_X4_173 dX4_chokes_49 (As := [.int ((m 7) p), .int z]) (rest := [.int ((m 7) p), .ref (a 1)]) rfl rfl 1 rfl (show vwCl[0]? = some (RX0, TX0, 13) from rfl) (by decide) (by decide) (Nat.le_of_ble_eq_true rfl) (by decide) (by decide) [1, 2, 3, 4, 5, 6, 7, 8, 9, 10] rfl (by decide) (fun u => Nat.le_of_ble_eq_true rfl) (ws' := fun u => loftW cI cS a m v w (seS T C li ap va le) (tpS B L P F) sh kf) (fun u => rfl) (fun u hu => ?_)
        obtain ⟨r_6, rfl⟩ : ∃ z, z = u := ⟨_, rfl⟩
        have h7 : r_6 = (nI (bigS m ((m 7) p) (cmS m n (m 7) p) n)) := hu
        subst h7
        show Go E Q 5 0 0 52 [(4, .int ((m 7) p)), (0, .ref (a 0)), (1, .int z), (2, .int y), (3, .int (nI p))] [.int (nI (bigS m ((m 7) p) (cmS m n (m 7) p) n)), .int ((m 7) p), .ref (a 1)] (loftW cI cS a m v w (seS T C li ap va le) (tpS B L P F) sh kf)
        refine g_callV hE (c_X0_isTooMuch cI cS (fun i => a (i + 1)) m (by first | assumption | exact mw_of (by assumption)) ((m 7) p) (nI (bigS m ((m 7) p) (cmS m n (m 7) p) n)) (bigS m ((m 7) p) (cmS m n (m 7) p) n) (show (nI (bigS m ((m 7) p) (cmS m n (m 7) p) n)) = nI (bigS m ((m 7) p) (cmS m n (m 7) p) n) from rfl) (by first | assumption | exact bs_lt64 _ (by assumption) | exact fallS_lt (by assumption) (by assumption) | exact nd_lt (by assumption) (by assumption) | exact nd_lt (by assumption) (fallS_lt (by assumption) (by assumption)) | exact nd_lt (by assumption) (bs_lt64 _ (by assumption)) | exact and_lt (by assumption) (by assumption) | exact hpS_lt (by assumption) | decide)) mk_X0_isTooMuch mv_X0_isTooMuch ml_X4_177 dX4_chokes_52 (As := [.int ((m 7) p), .int (nI (bigS m ((m 7) p) (cmS m n (m 7) p) n))]) (rest := []) rfl rfl 1 rfl (show vwCl[0]? = some (RX0, TX0, 13) from rfl) (by decide) (by decide) (Nat.le_of_ble_eq_true rfl) (by decide) (by decide) [1, 2, 3, 4, 5, 6, 7, 8, 9, 10] rfl (by decide) (fun u => Nat.le_of_ble_eq_true rfl) (ws' := fun u => loftW cI cS a m v w (seS T C li ap va le) (tpS B L P F) sh kf) (fun u => rfl) (fun u hu => ?_)
        obtain ⟨r_8, rfl⟩ : ∃ z, z = u := ⟨_, rfl⟩
        have h9 : r_8 = if atv (m 5) 8 ((m 7) p) < aS (m 1) (bigS m ((m 7) p) (cmS m n (m 7) p) n) n then 1 else 0 := hu
        by_cases c10 : atv (m 5) 8 ((m 7) p) < aS (m 1) (bigS m ((m 7) p) (cmS m n (m 7) p) n) n
        · rw [if_pos c10] at h9
          subst h9
          show Go E Q 5 0 0 55 [(4, .int ((m 7) p)), (0, .ref (a 0)), (1, .int z), (2, .int y), (3, .int (nI p))] [.int 1] (loftW cI cS a m v w (seS T C li ap va le) (tpS B L P F) sh kf)
          refine g_if_eq hE 64 dX4_chokes_55 (by decide) (fun c11 => absurd c11 (by decide)) (fun c11 => ?_)
          refine g_iload_n hE dX4_chokes_58 3 rfl ?_
          refine g_iconst hE dX4_chokes_59 1 (by decide) ?_
          refine g_iload_n hE dX4_chokes_60 4 rfl ?_
          refine g_ishl hE dX4_chokes_61 ?_
          refine g_ior hE dX4_chokes_62 ?_
          refine g_istore_n hE dX4_chokes_63 [(2, .int (y ||| (1 <<< ((nI p) &&& 31)))), (4, .int ((m 7) p)), (0, .ref (a 0)), (1, .int z), (3, .int (nI p))] rfl (by decide) rfl ?_
          refine g_aload_n hE dX4_chokes_64 2 rfl ?_
          refine g_get hE fl_X4_10 dX4_chokes_65 0 rfl rfl ?_
          refine g_iload hE dX4_chokes_68 1 rfl ?_
          refine g_iload_n hE dX4_chokes_70 3 rfl ?_
          refine g_callV hE (c_X0_falling cI cS (fun i => a (i + 1)) m (by first | assumption | exact mw_of (by assumption)) ((m 7) p) z (cmS m n (m 7) p) (show z = nI (cmS m n (m 7) p) from hz) (by first | assumption | exact bs_lt64 _ (by assumption) | exact fallS_lt (by assumption) (by assumption) | exact nd_lt (by assumption) (by assumption) | exact nd_lt (by assumption) (fallS_lt (by assumption) (by assumption)) | exact nd_lt (by assumption) (bs_lt64 _ (by assumption)) | exact and_lt (by assumption) (by assumption) | exact hpS_lt (by assumption) | decide)) mk_X0_falling mv_X0_falling ml_X4_181 dX4_chokes_71 (As := [.int ((m 7) p), .int z]) (rest := []) rfl rfl 1 rfl (show vwCl[0]? = some (RX0, TX0, 13) from rfl) (by decide) (by decide) (Nat.le_of_ble_eq_true rfl) (by decide) (by decide) [1, 2, 3, 4, 5, 6, 7, 8, 9, 10] rfl (by decide) (fun u => Nat.le_of_ble_eq_true rfl) (ws' := fun u => loftW cI cS a m v w (seS T C li ap va le) (tpS B L P F) sh kf) (fun u => rfl) (fun u hu => ?_)
          obtain ⟨r_12, rfl⟩ : ∃ z, z = u := ⟨_, rfl⟩
          have h13 : r_12 = (nI (fallS m n ((m 7) p) (cmS m n (m 7) p))) := hu
          subst h13
          show Go E Q 5 0 0 74 [(2, .int (y ||| (1 <<< ((nI p) &&& 31)))), (4, .int ((m 7) p)), (0, .ref (a 0)), (1, .int z), (3, .int (nI p))] [.int (nI (fallS m n ((m 7) p) (cmS m n (m 7) p)))] (loftW cI cS a m v w (seS T C li ap va le) (tpS B L P F) sh kf)
          refine g_istore_n hE dX4_chokes_74 [(1, .int (nI (fallS m n ((m 7) p) (cmS m n (m 7) p)))), (2, .int (y ||| (1 <<< ((nI p) &&& 31)))), (4, .int ((m 7) p)), (0, .ref (a 0)), (3, .int (nI p))] rfl (by decide) rfl ?_
          refine g_iinc hE dX4_chokes_75 4 (nI (p + 1)) [(3, .int (nI (p + 1))), (1, .int (nI (fallS m n ((m 7) p) (cmS m n (m 7) p)))), (2, .int (y ||| (1 <<< ((nI p) &&& 31)))), (4, .int ((m 7) p)), (0, .ref (a 0))] rfl (nI_1 _) (by decide) rfl ?_
          refine g_goto hE 12 dX4_chokes_78 (by decide) ?_
          refine g_locals [4, 1, 2, 0] [(0, .ref (a 0)), (1, .int (nI (fallS m n ((m 7) p) (cmS m n (m 7) p)))), (2, .int (y ||| (1 <<< ((nI p) &&& 31)))), (3, .int (nI (p + 1)))] rfl ?_
          exact ih_12 (p + 1) (nI (fallS m n ((m 7) p) (cmS m n (m 7) p))) (y ||| (1 <<< ((nI p) &&& 31))) (by first | assumption | omega) rfl (by first | exact chS_y hy (by assumption) | exact chS_n hy (by assumption)) (by omega)
        · rw [if_neg c10] at h9
          subst h9
          show Go E Q 5 0 0 55 [(4, .int ((m 7) p)), (0, .ref (a 0)), (1, .int z), (2, .int y), (3, .int (nI p))] [.int 0] (loftW cI cS a m v w (seS T C li ap va le) (tpS B L P F) sh kf)
          refine g_if_eq hE 64 dX4_chokes_55 (by decide) (fun c14 => ?_) (fun c14 => absurd (by decide) c14)
          refine g_aload_n hE dX4_chokes_64 1 rfl ?_
          refine g_get hE fl_X4_10 dX4_chokes_65 0 rfl rfl ?_
          refine g_iload hE dX4_chokes_68 0 rfl ?_
          refine g_iload_n hE dX4_chokes_70 2 rfl ?_
          refine g_callV hE (c_X0_falling cI cS (fun i => a (i + 1)) m (by first | assumption | exact mw_of (by assumption)) ((m 7) p) z (cmS m n (m 7) p) (show z = nI (cmS m n (m 7) p) from hz) (by first | assumption | exact bs_lt64 _ (by assumption) | exact fallS_lt (by assumption) (by assumption) | exact nd_lt (by assumption) (by assumption) | exact nd_lt (by assumption) (fallS_lt (by assumption) (by assumption)) | exact nd_lt (by assumption) (bs_lt64 _ (by assumption)) | exact and_lt (by assumption) (by assumption) | exact hpS_lt (by assumption) | decide)) mk_X0_falling mv_X0_falling ml_X4_181 dX4_chokes_71 (As := [.int ((m 7) p), .int z]) (rest := []) rfl rfl 1 rfl (show vwCl[0]? = some (RX0, TX0, 13) from rfl) (by decide) (by decide) (Nat.le_of_ble_eq_true rfl) (by decide) (by decide) [1, 2, 3, 4, 5, 6, 7, 8, 9, 10] rfl (by decide) (fun u => Nat.le_of_ble_eq_true rfl) (ws' := fun u => loftW cI cS a m v w (seS T C li ap va le) (tpS B L P F) sh kf) (fun u => rfl) (fun u hu => ?_)
          obtain ⟨r_15, rfl⟩ : ∃ z, z = u := ⟨_, rfl⟩
          have h16 : r_15 = (nI (fallS m n ((m 7) p) (cmS m n (m 7) p))) := hu
          subst h16
          show Go E Q 5 0 0 74 [(4, .int ((m 7) p)), (0, .ref (a 0)), (1, .int z), (2, .int y), (3, .int (nI p))] [.int (nI (fallS m n ((m 7) p) (cmS m n (m 7) p)))] (loftW cI cS a m v w (seS T C li ap va le) (tpS B L P F) sh kf)
          refine g_istore_n hE dX4_chokes_74 [(1, .int (nI (fallS m n ((m 7) p) (cmS m n (m 7) p)))), (4, .int ((m 7) p)), (0, .ref (a 0)), (2, .int y), (3, .int (nI p))] rfl (by decide) rfl ?_
          refine g_iinc hE dX4_chokes_75 4 (nI (p + 1)) [(3, .int (nI (p + 1))), (1, .int (nI (fallS m n ((m 7) p) (cmS m n (m 7) p)))), (4, .int ((m 7) p)), (0, .ref (a 0)), (2, .int y)] rfl (nI_1 _) (by decide) rfl ?_
          refine g_goto hE 12 dX4_chokes_78 (by decide) ?_
          refine g_locals [3, 1, 4, 0] [(0, .ref (a 0)), (1, .int (nI (fallS m n ((m 7) p) (cmS m n (m 7) p)))), (2, .int y), (3, .int (nI (p + 1)))] rfl ?_
          exact ih_12 (p + 1) (nI (fallS m n ((m 7) p) (cmS m n (m 7) p))) y (by first | assumption | omega) rfl (by first | exact chS_y hy (by assumption) | exact chS_n hy (by assumption)) (by omega)
  refine g_locals [3, 2, 1, 0] [(0, .ref (a 0)), (1, .int (nI (ldS m n))), (2, .int 0), (3, .int 0)] rfl ?_
  exact L12 _ 0 (nI (ldS m n)) 0 (Nat.zero_le _) rfl rfl (Nat.lt_succ_self _)
set_option maxHeartbeats 4000000 in
set_option maxRecDepth 100000 in
theorem c_X4_shake (cI cS : ClassId) (a : Nat → Nat) (m v w : Nat → Nat → Int32) (T C : Nat → Int32) (li ap va le : Int32) (B : Nat → Int32) (L P : Nat) (F : Int32) (sh : Nat → Nat → Nat → Int32) (kf : Int32) {n sv pl n1 sv1 pl1 n2 sv2 pl2 : Nat} (hM : MW m n sv pl) (hV : MW v n1 sv1 pl1) (hW : MW w n2 sv2 pl2) (hL : L ≤ 120) : CT cI cS yX4_shake cX4_shake 1 (some .int) 5 [.ref (a 0)] (loftW cI cS a m v w (seS T C li ap va le) (tpS B L P F) sh kf) 0 0 (fun u : Int32 => u = shV m n (m 7) pl) (fun u => some (.int u)) (fun u => (loftW cI cS a (shM m n (m 7) pl) v w (seS T C li ap va le) (tpS B L P F) sh kf)) := by
  refine ct_intro (by decide) (Nat.le_of_ble_eq_true rfl) (fun E Q hE hQ hI => ?_)
  have hE : CxOk E cI cS RX4 cX4_shake 1 (some .int) 5 0 0 := hE
  show Go E Q 1 0 0 0 [(0, .ref (a 0))] [] (loftW cI cS a m v w (seS T C li ap va le) (tpS B L P F) sh kf)
  have hn := hM.1
  have hn6 := hM.2.1
  have hsv := hM.2.2.1
  have hsv8 := hM.2.2.2.1
  have hpl := hM.2.2.2.2.1
  have hpl6 := hM.2.2.2.2.2
  have hn1 := hV.1
  have hn16 := hV.2.1
  have hsv1 := hV.2.2.1
  have hsv18 := hV.2.2.2.1
  have hpl1 := hV.2.2.2.2.1
  have hpl16 := hV.2.2.2.2.2
  refine g_aload_n hE dX4_shake_0 0 rfl ?_
  refine g_get hE fl_X4_10 dX4_shake_1 0 rfl rfl ?_
  refine g_aload_n hE dX4_shake_4 0 rfl ?_
  refine g_get hE fl_X4_10 dX4_shake_5 0 rfl rfl ?_
  refine g_get hE fl_X4_170 dX4_shake_8 1 rfl rfl ?_
  refine g_aload_n hE dX4_shake_11 0 rfl ?_
  refine g_get hE fl_X4_10 dX4_shake_12 0 rfl rfl ?_
  refine g_get hE fl_X4_125 dX4_shake_15 1 rfl rfl ?_
  refine g_callV hE (c_X0_shakeThrough cI cS (fun i => a (i + 1)) m (by first | assumption | exact mw_of (by assumption)) (m 9 2) pl (show (m 9 2) = nI pl from hpl) (by omega)) mk_X0_shakeThrough mv_X0_shakeThrough ml_X4_184 dX4_shake_18 (As := [.ref (a 9), .int (m 9 2)]) (rest := []) rfl rfl 1 rfl (show vwCl[0]? = some (RX0, TX0, 13) from rfl) (by decide) (by decide) (Nat.le_of_ble_eq_true rfl) (by decide) (by decide) [1, 2, 3, 4, 5, 6, 7, 8, 9, 10] rfl (by decide) (fun u => Nat.le_of_ble_eq_true rfl) (ws' := fun u => loftW cI cS a (shM m n (m 7) pl) v w (seS T C li ap va le) (tpS B L P F) sh kf) (fun u => rfl) (fun u hu => ?_)
  obtain ⟨r_1, rfl⟩ : ∃ z, z = u := ⟨_, rfl⟩
  have h2 : r_1 = (shV m n (m 7) pl) := hu
  subst h2
  show Go E Q 1 0 0 21 [(0, .ref (a 0))] [.int (shV m n (m 7) pl)] (loftW cI cS a (shM m n (m 7) pl) v w (seS T C li ap va le) (tpS B L P F) sh kf)
  exact g_iret hE hQ dX4_shake_21 rfl (shV m n (m 7) pl) rfl rfl rfl
set_option maxHeartbeats 4000000 in
set_option maxRecDepth 100000 in
theorem c_X4_found (cI cS : ClassId) (a : Nat → Nat) (m v w : Nat → Nat → Int32) (T C : Nat → Int32) (li ap va le : Int32) (B : Nat → Int32) (L P : Nat) (F : Int32) (sh : Nat → Nat → Nat → Int32) (kf : Int32) {n sv pl n1 sv1 pl1 n2 sv2 pl2 : Nat} (hM : MW m n sv pl) (hV : MW v n1 sv1 pl1) (hW : MW w n2 sv2 pl2) (hL : L ≤ 120) (k wh : Int32) : CT cI cS yX4_found cX4_found 4 (some .int) 5 [.ref (a 0), .int k, .int wh] (loftW cI cS a m v w (seS T C li ap va le) (tpS B L P F) sh kf) 0 0 (fun u : Int32 × (Nat → Int32) => u.1 = fFound m n pl k wh) (fun u => some (.int u.1)) (fun u => (loftW cI cS a (pA m 8 u.2) v w (seS T C li ap va le) (tpS B L P F) sh kf)) := by
  refine ct_intro (by decide) (Nat.le_of_ble_eq_true rfl) (fun E Q hE hQ hI => ?_)
  have hE : CxOk E cI cS RX4 cX4_found 4 (some .int) 5 0 0 := hE
  show Go E Q 4 0 0 0 [(0, .ref (a 0)), (1, .int k), (2, .int wh)] [] (loftW cI cS a m v w (seS T C li ap va le) (tpS B L P F) sh kf)
  have hn := hM.1
  have hn6 := hM.2.1
  have hsv := hM.2.2.1
  have hsv8 := hM.2.2.2.1
  have hpl := hM.2.2.2.2.1
  have hpl6 := hM.2.2.2.2.2
  have hn1 := hV.1
  have hn16 := hV.2.1
  have hsv1 := hV.2.2.1
  have hsv18 := hV.2.2.2.1
  have hpl1 := hV.2.2.2.2.1
  have hpl16 := hV.2.2.2.2.2
  refine g_aload_n hE dX4_found_0 0 rfl ?_
  refine g_get hE fl_X4_10 dX4_found_1 0 rfl rfl ?_
  refine g_iload_n hE dX4_found_4 1 rfl ?_
  refine g_callV hE (c_X0_hasHeap cI cS (fun i => a (i + 1)) m (by first | assumption | exact mw_of (by assumption)) k) mk_X0_hasHeap mv_X0_hasHeap ml_X4_155 dX4_found_5 (As := [.int k]) (rest := []) rfl rfl 1 rfl (show vwCl[0]? = some (RX0, TX0, 13) from rfl) (by decide) (by decide) (Nat.le_of_ble_eq_true rfl) (by decide) (by decide) [1, 2, 3, 4, 5, 6, 7, 8, 9, 10] rfl (by decide) (fun u => Nat.le_of_ble_eq_true rfl) (ws' := fun u => loftW cI cS a m v w (seS T C li ap va le) (tpS B L P F) sh kf) (fun u => rfl) (fun u hu => ?_)
  obtain ⟨r_1, rfl⟩ : ∃ z, z = u := ⟨_, rfl⟩
  have h2 : r_1 = if 0 ≤ k ∧ k ≤ m 9 2 then 1 else 0 := hu
  by_cases c3 : 0 ≤ k ∧ k ≤ m 9 2
  · rw [if_pos c3] at h2
    subst h2
    show Go E Q 4 0 0 8 [(0, .ref (a 0)), (1, .int k), (2, .int wh)] [.int 1] (loftW cI cS a m v w (seS T C li ap va le) (tpS B L P F) sh kf)
    refine g_if_eq hE 20 dX4_found_8 (by decide) (fun c4 => absurd c4 (by decide)) (fun c4 => ?_)
    refine g_iload_n hE dX4_found_11 2 rfl ?_
    refine g_iconst hE dX4_found_12 0 (by decide) ?_
    refine g_iconst hE dX4_found_13 2 (by decide) ?_
    refine g_callS hE (c_X4_within cI cS wh 0 2) mk_X4_within st_X4_within ml_X4_47 dX4_found_14 (As := [.int wh, .int 0, .int 2]) (rest := []) rfl rfl (by decide) (by decide) (Nat.le_of_ble_eq_true rfl) (by decide) (by decide) [] rfl (by decide) (fun u => Nat.le_of_ble_eq_true rfl) (ws' := fun u => loftW cI cS a m v w (seS T C li ap va le) (tpS B L P F) sh kf) (fun u => rfl) (fun u hu => ?_)
    obtain ⟨r_5, rfl⟩ : ∃ z, z = u := ⟨_, rfl⟩
    have h6 : r_5 = if 0 ≤ wh ∧ wh ≤ 2 then 1 else 0 := hu
    by_cases c7 : 0 ≤ wh ∧ wh ≤ 2
    · rw [if_pos c7] at h6
      subst h6
      show Go E Q 4 0 0 17 [(0, .ref (a 0)), (1, .int k), (2, .int wh)] [.int 1] (loftW cI cS a m v w (seS T C li ap va le) (tpS B L P F) sh kf)
      refine g_if_ne hE 22 dX4_found_17 (by decide) (fun c8 => ?_) (fun c8 => absurd c8 (by decide))
      obtain ⟨kn, hknl, hkn, hknc⟩ := nat_of_le c3 hpl (by omega)
      refine g_aload_n hE dX4_found_22 0 rfl ?_
      refine g_get hE fl_X4_10 dX4_found_23 0 rfl rfl ?_
      refine g_callV hE (c_X0_spread cI cS (fun i => a (i + 1)) m (by first | assumption | exact mw_of (by assumption))) mk_X0_spread mv_X0_spread ml_X4_158 dX4_found_26 (As := []) (rest := []) rfl rfl 1 rfl (show vwCl[0]? = some (RX0, TX0, 13) from rfl) (by decide) (by decide) (Nat.le_of_ble_eq_true rfl) (by decide) (by decide) [1, 2, 3, 4, 5, 6, 7, 8, 9, 10] rfl (by decide) (fun u => Nat.le_of_ble_eq_true rfl) (ws' := fun u => loftW cI cS a (pA m 8 u) v w (seS T C li ap va le) (tpS B L P F) sh kf) (fun u => rfl) (fun u hu => ?_)
      obtain ⟨h_9, rfl⟩ : ∃ z, z = u := ⟨_, rfl⟩
      have h10 : ∀ j, j ≤ pl → h_9 j = nI (hpS m n (m 7) pl j) := hu
      show Go E Q 4 0 0 29 [(0, .ref (a 0)), (1, .int k), (2, .int wh)] [] (loftW cI cS a (pA m 8 h_9) v w (seS T C li ap va le) (tpS B L P F) sh kf)
      refine g_aload_n hE dX4_found_29 0 rfl ?_
      refine g_get hE fl_X4_10 dX4_found_30 0 rfl rfl ?_
      refine g_get hE fl_X4_161 dX4_found_33 1 rfl rfl ?_
      refine g_iload_n hE dX4_found_36 1 rfl ?_
      refine g_callS hE (c_X4_at cI cS (a 10) 7 h_9 k (by decide)) mk_X4_at st_X4_at ml_X4_91 dX4_found_37 (As := [.ref (a 10), .int k]) (rest := []) rfl rfl (by decide) (by decide) (Nat.le_of_ble_eq_true rfl) (by decide) (by decide) [10] rfl (by decide) (fun u => Nat.le_of_ble_eq_true rfl) (ws' := fun u => loftW cI cS a (pA m 8 h_9) v w (seS T C li ap va le) (tpS B L P F) sh kf) (fun u => rfl) (fun u hu => ?_)
      obtain ⟨r_11, rfl⟩ : ∃ z, z = u := ⟨_, rfl⟩
      have h12 : r_11 = (h_9 kn) := hu.trans (by rw [show k = nI kn from hkn]; exact atv_n (by omega) (by decide))
      subst h12
      show Go E Q 4 0 0 40 [(0, .ref (a 0)), (1, .int k), (2, .int wh)] [.int (h_9 kn)] (loftW cI cS a (pA m 8 h_9) v w (seS T C li ap va le) (tpS B L P F) sh kf)
      refine g_istore_n hE dX4_found_40 [(3, .int (h_9 kn)), (0, .ref (a 0)), (1, .int k), (2, .int wh)] rfl (by decide) rfl ?_
      refine g_iload_n hE dX4_found_41 3 rfl ?_
      refine g_if_ne hE 49 dX4_found_42 (by decide) (fun c13 => ?_) (fun c13 => ?_)
      · refine g_iload_n hE dX4_found_49 3 rfl ?_
        refine g_iconst hE dX4_found_50 1 (by decide) ?_
        refine g_icmp_ne hE 65 dX4_found_51 (by decide) (fun c14 => ?_) (fun c14 => ?_)
        · refine g_aload_n hE dX4_found_65 1 rfl ?_
          refine g_get hE fl_X4_10 dX4_found_66 0 rfl rfl ?_
          refine g_iload_n hE dX4_found_69 0 rfl ?_
          refine g_callV hE (c_X0_worth cI cS (fun i => a (i + 1)) (pA m 8 h_9) (by first | assumption | exact mw_of (by assumption)) (h_9 kn) (hpS m n (m 7) pl kn) (show (h_9 kn) = nI (hpS m n (m 7) pl kn) from (h10 kn (by omega))) (by first | assumption | exact bs_lt64 _ (by assumption) | exact fallS_lt (by assumption) (by assumption) | exact nd_lt (by assumption) (by assumption) | exact nd_lt (by assumption) (fallS_lt (by assumption) (by assumption)) | exact nd_lt (by assumption) (bs_lt64 _ (by assumption)) | exact and_lt (by assumption) (by assumption) | exact hpS_lt (by assumption) | decide)) mk_X0_worth mv_X0_worth ml_X4_164 dX4_found_70 (As := [.int (h_9 kn)]) (rest := []) rfl rfl 1 rfl (show vwCl[0]? = some (RX0, TX0, 13) from rfl) (by decide) (by decide) (Nat.le_of_ble_eq_true rfl) (by decide) (by decide) [1, 2, 3, 4, 5, 6, 7, 8, 9, 10] rfl (by decide) (fun u => Nat.le_of_ble_eq_true rfl) (ws' := fun u => loftW cI cS a (pA m 8 h_9) v w (seS T C li ap va le) (tpS B L P F) sh kf) (fun u => rfl) (fun u hu => ?_)
          obtain ⟨r_15, rfl⟩ : ∃ z, z = u := ⟨_, rfl⟩
          have h16 : r_15 = (wS m n (hpS m n (m 7) pl kn)) := hu
          subst h16
          show Go E Q 4 0 0 73 [(3, .int (h_9 kn)), (0, .ref (a 0)), (1, .int k), (2, .int wh)] [.int (wS m n (hpS m n (m 7) pl kn))] (loftW cI cS a (pA m 8 h_9) v w (seS T C li ap va le) (tpS B L P F) sh kf)
          exact g_iret hE hQ dX4_found_73 rfl ((wS m n (hpS m n (m 7) pl kn)), h_9) rfl rfl (by rw [fFound, if_pos c3, if_pos c7, if_neg c13, if_neg c14]; first | (rw [← hknc]; done) | (rw [← hknc]; exact h10 kn (by omega)))
        · refine g_aload_n hE dX4_found_54 1 rfl ?_
          refine g_get hE fl_X4_10 dX4_found_55 0 rfl rfl ?_
          refine g_iload_n hE dX4_found_58 0 rfl ?_
          refine g_callV hE (c_X0_amountOf cI cS (fun i => a (i + 1)) (pA m 8 h_9) (by first | assumption | exact mw_of (by assumption)) (h_9 kn) (hpS m n (m 7) pl kn) (show (h_9 kn) = nI (hpS m n (m 7) pl kn) from (h10 kn (by omega))) (by first | assumption | exact bs_lt64 _ (by assumption) | exact fallS_lt (by assumption) (by assumption) | exact nd_lt (by assumption) (by assumption) | exact nd_lt (by assumption) (fallS_lt (by assumption) (by assumption)) | exact nd_lt (by assumption) (bs_lt64 _ (by assumption)) | exact and_lt (by assumption) (by assumption) | exact hpS_lt (by assumption) | decide)) mk_X0_amountOf mv_X0_amountOf ml_X4_152 dX4_found_59 (As := [.int (h_9 kn)]) (rest := []) rfl rfl 1 rfl (show vwCl[0]? = some (RX0, TX0, 13) from rfl) (by decide) (by decide) (Nat.le_of_ble_eq_true rfl) (by decide) (by decide) [1, 2, 3, 4, 5, 6, 7, 8, 9, 10] rfl (by decide) (fun u => Nat.le_of_ble_eq_true rfl) (ws' := fun u => loftW cI cS a (pA m 8 h_9) v w (seS T C li ap va le) (tpS B L P F) sh kf) (fun u => rfl) (fun u hu => ?_)
          obtain ⟨r_17, rfl⟩ : ∃ z, z = u := ⟨_, rfl⟩
          have h18 : r_17 = (aS (m 1) (hpS m n (m 7) pl kn) n) := hu
          subst h18
          show Go E Q 4 0 0 62 [(3, .int (h_9 kn)), (0, .ref (a 0)), (1, .int k), (2, .int wh)] [.int (aS (m 1) (hpS m n (m 7) pl kn) n)] (loftW cI cS a (pA m 8 h_9) v w (seS T C li ap va le) (tpS B L P F) sh kf)
          refine g_goto hE 73 dX4_found_62 (by decide) ?_
          exact g_iret hE hQ dX4_found_73 rfl ((aS (m 1) (hpS m n (m 7) pl kn) n), h_9) rfl rfl (by rw [fFound, if_pos c3, if_pos c7, if_neg c13, if_pos c14]; first | (rw [← hknc]; done) | (rw [← hknc]; exact h10 kn (by omega)))
      · refine g_iload_n hE dX4_found_45 0 rfl ?_
        refine g_goto hE 73 dX4_found_46 (by decide) ?_
        exact g_iret hE hQ dX4_found_73 rfl ((h_9 kn), h_9) rfl rfl (by rw [fFound, if_pos c3, if_pos c7, if_pos c13]; first | (rw [← hknc]; done) | (rw [← hknc]; exact h10 kn (by omega)))
    · rw [if_neg c7] at h6
      subst h6
      show Go E Q 4 0 0 17 [(0, .ref (a 0)), (1, .int k), (2, .int wh)] [.int 0] (loftW cI cS a m v w (seS T C li ap va le) (tpS B L P F) sh kf)
      refine g_if_ne hE 22 dX4_found_17 (by decide) (fun c19 => absurd (by decide) c19) (fun c19 => ?_)
      refine g_iconst hE dX4_found_20 (-1) (by decide) ?_
      refine g_world (loftW cI cS a (pA m 8 (m 8)) v w (seS T C li ap va le) (tpS B L P F) sh kf) (by rfl) ?_
      exact g_iret hE hQ dX4_found_21 rfl (-1, m 8) rfl rfl (by rw [fFound, if_pos c3, if_neg c7])
  · rw [if_neg c3] at h2
    subst h2
    show Go E Q 4 0 0 8 [(0, .ref (a 0)), (1, .int k), (2, .int wh)] [.int 0] (loftW cI cS a m v w (seS T C li ap va le) (tpS B L P F) sh kf)
    refine g_if_eq hE 20 dX4_found_8 (by decide) (fun c20 => ?_) (fun c20 => absurd (by decide) c20)
    refine g_iconst hE dX4_found_20 (-1) (by decide) ?_
    refine g_world (loftW cI cS a (pA m 8 (m 8)) v w (seS T C li ap va le) (tpS B L P F) sh kf) (by rfl) ?_
    exact g_iret hE hQ dX4_found_21 rfl (-1, m 8) rfl rfl (by rw [fFound, if_neg c3])
set_option maxHeartbeats 4000000 in
set_option maxRecDepth 100000 in
theorem c_X4_where (cI cS : ClassId) (a : Nat → Nat) (m v w : Nat → Nat → Int32) (T C : Nat → Int32) (li ap va le : Int32) (B : Nat → Int32) (L P : Nat) (F : Int32) (sh : Nat → Nat → Nat → Int32) (kf : Int32) {n sv pl n1 sv1 pl1 n2 sv2 pl2 : Nat} (hM : MW m n sv pl) (hV : MW v n1 sv1 pl1) (hW : MW w n2 sv2 pl2) (hL : L ≤ 120) (g : Int32) : CT cI cS yX4_where cX4_where 2 (some .int) 5 [.ref (a 0), .int g] (loftW cI cS a m v w (seS T C li ap va le) (tpS B L P F) sh kf) 0 0 (fun u : Int32 × (Nat → Int32) => u.1 = if 0 ≤ g ∧ g < m 9 0 then hoR (hpS m n (m 7) pl) g.toNatClampNeg (pl + 1) 0 else -1) (fun u => some (.int u.1)) (fun u => (loftW cI cS a (pA m 8 u.2) v w (seS T C li ap va le) (tpS B L P F) sh kf)) := by
  refine ct_intro (by decide) (Nat.le_of_ble_eq_true rfl) (fun E Q hE hQ hI => ?_)
  have hE : CxOk E cI cS RX4 cX4_where 2 (some .int) 5 0 0 := hE
  show Go E Q 2 0 0 0 [(0, .ref (a 0)), (1, .int g)] [] (loftW cI cS a m v w (seS T C li ap va le) (tpS B L P F) sh kf)
  have hn := hM.1
  have hn6 := hM.2.1
  have hsv := hM.2.2.1
  have hsv8 := hM.2.2.2.1
  have hpl := hM.2.2.2.2.1
  have hpl6 := hM.2.2.2.2.2
  have hn1 := hV.1
  have hn16 := hV.2.1
  have hsv1 := hV.2.2.1
  have hsv18 := hV.2.2.2.1
  have hpl1 := hV.2.2.2.2.1
  have hpl16 := hV.2.2.2.2.2
  refine g_aload_n hE dX4_where_0 0 rfl ?_
  refine g_get hE fl_X4_10 dX4_where_1 0 rfl rfl ?_
  refine g_iload_n hE dX4_where_4 1 rfl ?_
  refine g_callV hE (c_X0_hasGrain cI cS (fun i => a (i + 1)) m (by first | assumption | exact mw_of (by assumption)) g) mk_X0_hasGrain mv_X0_hasGrain ml_X4_59 dX4_where_5 (As := [.int g]) (rest := []) rfl rfl 1 rfl (show vwCl[0]? = some (RX0, TX0, 13) from rfl) (by decide) (by decide) (Nat.le_of_ble_eq_true rfl) (by decide) (by decide) [1, 2, 3, 4, 5, 6, 7, 8, 9, 10] rfl (by decide) (fun u => Nat.le_of_ble_eq_true rfl) (ws' := fun u => loftW cI cS a m v w (seS T C li ap va le) (tpS B L P F) sh kf) (fun u => rfl) (fun u hu => ?_)
  obtain ⟨r_1, rfl⟩ : ∃ z, z = u := ⟨_, rfl⟩
  have h2 : r_1 = if 0 ≤ g ∧ g < m 9 0 then 1 else 0 := hu
  by_cases c3 : 0 ≤ g ∧ g < m 9 0
  · rw [if_pos c3] at h2
    subst h2
    show Go E Q 2 0 0 8 [(0, .ref (a 0)), (1, .int g)] [.int 1] (loftW cI cS a m v w (seS T C li ap va le) (tpS B L P F) sh kf)
    refine g_if_ne hE 13 dX4_where_8 (by decide) (fun c4 => ?_) (fun c4 => absurd c4 (by decide))
    obtain ⟨gn, hgnl, hgn, hgnc⟩ := nat_of_lt c3 hn (by omega)
    refine g_aload_n hE dX4_where_13 0 rfl ?_
    refine g_get hE fl_X4_10 dX4_where_14 0 rfl rfl ?_
    refine g_callV hE (c_X0_spread cI cS (fun i => a (i + 1)) m (by first | assumption | exact mw_of (by assumption))) mk_X0_spread mv_X0_spread ml_X4_158 dX4_where_17 (As := []) (rest := []) rfl rfl 1 rfl (show vwCl[0]? = some (RX0, TX0, 13) from rfl) (by decide) (by decide) (Nat.le_of_ble_eq_true rfl) (by decide) (by decide) [1, 2, 3, 4, 5, 6, 7, 8, 9, 10] rfl (by decide) (fun u => Nat.le_of_ble_eq_true rfl) (ws' := fun u => loftW cI cS a (pA m 8 u) v w (seS T C li ap va le) (tpS B L P F) sh kf) (fun u => rfl) (fun u hu => ?_)
    obtain ⟨h_5, rfl⟩ : ∃ z, z = u := ⟨_, rfl⟩
    have h6 : ∀ j, j ≤ pl → h_5 j = nI (hpS m n (m 7) pl j) := hu
    show Go E Q 2 0 0 20 [(0, .ref (a 0)), (1, .int g)] [] (loftW cI cS a (pA m 8 h_5) v w (seS T C li ap va le) (tpS B L P F) sh kf)
    refine g_aload_n hE dX4_where_20 0 rfl ?_
    refine g_get hE fl_X4_10 dX4_where_21 0 rfl rfl ?_
    refine g_iload_n hE dX4_where_24 1 rfl ?_
    refine g_callV hE (c_X0_heapOf cI cS (fun i => a (i + 1)) (pA m 8 h_5) (by first | assumption | exact mw_of (by assumption)) g gn (show g = nI gn from hgn) (by omega) (hpS m n (m 7) pl) (fun j hj => ⟨h6 j hj, hpS_lt (by assumption)⟩)) mk_X0_heapOf mv_X0_heapOf ml_X4_167 dX4_where_25 (As := [.int g]) (rest := []) rfl rfl 1 rfl (show vwCl[0]? = some (RX0, TX0, 13) from rfl) (by decide) (by decide) (Nat.le_of_ble_eq_true rfl) (by decide) (by decide) [1, 2, 3, 4, 5, 6, 7, 8, 9, 10] rfl (by decide) (fun u => Nat.le_of_ble_eq_true rfl) (ws' := fun u => loftW cI cS a (pA m 8 h_5) v w (seS T C li ap va le) (tpS B L P F) sh kf) (fun u => rfl) (fun u hu => ?_)
    obtain ⟨r_7, rfl⟩ : ∃ z, z = u := ⟨_, rfl⟩
    have h8 : r_7 = (hoR (hpS m n (m 7) pl) gn (pl + 1) 0) := hu
    subst h8
    show Go E Q 2 0 0 28 [(0, .ref (a 0)), (1, .int g)] [.int (hoR (hpS m n (m 7) pl) gn (pl + 1) 0)] (loftW cI cS a (pA m 8 h_5) v w (seS T C li ap va le) (tpS B L P F) sh kf)
    exact g_iret hE hQ dX4_where_28 rfl ((hoR (hpS m n (m 7) pl) gn (pl + 1) 0), h_5) rfl rfl (by rw [if_pos c3]; rw [← hgnc])
  · rw [if_neg c3] at h2
    subst h2
    show Go E Q 2 0 0 8 [(0, .ref (a 0)), (1, .int g)] [.int 0] (loftW cI cS a m v w (seS T C li ap va le) (tpS B L P F) sh kf)
    refine g_if_ne hE 13 dX4_where_8 (by decide) (fun c9 => absurd (by decide) c9) (fun c9 => ?_)
    refine g_iconst hE dX4_where_11 (-1) (by decide) ?_
    refine g_world (loftW cI cS a (pA m 8 (m 8)) v w (seS T C li ap va le) (tpS B L P F) sh kf) (by rfl) ?_
    exact g_iret hE hQ dX4_where_12 rfl ((-1), m 8) rfl rfl (by rw [if_neg c3])
set_option maxHeartbeats 4000000 in
set_option maxRecDepth 100000 in
theorem c_X4_sameHeaps (cI cS : ClassId) (a : Nat → Nat) (m v w : Nat → Nat → Int32) (T C : Nat → Int32) (li ap va le : Int32) (B : Nat → Int32) (L P : Nat) (F : Int32) (sh : Nat → Nat → Nat → Int32) (kf : Int32) {n sv pl n1 sv1 pl1 n2 sv2 pl2 : Nat} (hM : MW m n sv pl) (hV : MW v n1 sv1 pl1) (hW : MW w n2 sv2 pl2) (hL : L ≤ 120) : CT cI cS yX4_sameHeaps cX4_sameHeaps 2 (some .boolean) 1 [.ref (a 0)] (loftW cI cS a m v w (seS T C li ap va le) (tpS B L P F) sh kf) 0 0 (fun u : Int32 => u = if sameB m v (pl + 1) = true then 1 else 0) (fun u => some (.int u)) (fun u => (loftW cI cS a m v w (seS T C li ap va le) (tpS B L P F) sh kf)) := by
  refine ct_intro (by decide) (Nat.le_of_ble_eq_true rfl) (fun E Q hE hQ hI => ?_)
  have hE : CxOk E cI cS RX4 cX4_sameHeaps 2 (some .boolean) 1 0 0 := hE
  show Go E Q 2 0 0 0 [(0, .ref (a 0))] [] (loftW cI cS a m v w (seS T C li ap va le) (tpS B L P F) sh kf)
  have hn := hM.1
  have hn6 := hM.2.1
  have hsv := hM.2.2.1
  have hsv8 := hM.2.2.2.1
  have hpl := hM.2.2.2.2.1
  have hpl6 := hM.2.2.2.2.2
  have hn1 := hV.1
  have hn16 := hV.2.1
  have hsv1 := hV.2.2.1
  have hsv18 := hV.2.2.2.1
  have hpl1 := hV.2.2.2.2.1
  have hpl16 := hV.2.2.2.2.2
  refine g_iconst hE dX4_sameHeaps_0 0 (by decide) ?_
  refine g_istore_n hE dX4_sameHeaps_1 [(1, .int 0), (0, .ref (a 0))] rfl (by decide) rfl ?_
  have L2 : ∀ (n_2 : Nat) (k : Nat), (k ≤ pl + 1) → (sameB m v k = true) → (pl + 1 - k < n_2) → Go E Q 2 0 0 2 [(0, .ref (a 0)), (1, .int (nI k))] [] (loftW cI cS a m v w (seS T C li ap va le) (tpS B L P F) sh kf) := by
    intro n_2
    induction n_2 with
    | zero => intro k hk hq hm_2; exact absurd hm_2 (Nat.not_lt_zero _)
    | succ n_2 ih_2 =>
      intro k hk hq hm_2
      refine g_iload_n hE dX4_sameHeaps_2 1 rfl ?_
      refine g_aload_n hE dX4_sameHeaps_3 0 rfl ?_
      refine g_get hE fl_X4_10 dX4_sameHeaps_4 0 rfl rfl ?_
      refine g_get hE fl_X4_125 dX4_sameHeaps_7 1 rfl rfl ?_
      refine g_icmp_gt hE 46 dX4_sameHeaps_10 (by decide) (fun c1 => ?_) (fun c1 => ?_)
      · have kc1 := nat_lt_t (show (m 9 2) = nI pl from hpl) (show (nI k) = nI k from rfl) (by omega) (by omega) c1
        refine g_iconst hE dX4_sameHeaps_46 1 (by decide) ?_
        exact g_iret hE hQ dX4_sameHeaps_47 (by first | rfl | decide) 1 rfl rfl (by rw [if_pos]; rw [show pl + 1 = k by omega]; exact hq)
      · have kc1 := nat_lt_f (show (m 9 2) = nI pl from hpl) (show (nI k) = nI k from rfl) (by omega) (by omega) c1
        refine g_aload_n hE dX4_sameHeaps_13 0 rfl ?_
        refine g_get hE fl_X4_10 dX4_sameHeaps_14 0 rfl rfl ?_
        refine g_get hE fl_X4_161 dX4_sameHeaps_17 1 rfl rfl ?_
        refine g_iload_n hE dX4_sameHeaps_20 1 rfl ?_
        refine g_callS hE (c_X4_at cI cS (a 10) 7 (m 8) (nI k) (by decide)) mk_X4_at st_X4_at ml_X4_91 dX4_sameHeaps_21 (As := [.ref (a 10), .int (nI k)]) (rest := []) rfl rfl (by decide) (by decide) (Nat.le_of_ble_eq_true rfl) (by decide) (by decide) [10] rfl (by decide) (fun u => Nat.le_of_ble_eq_true rfl) (ws' := fun u => loftW cI cS a m v w (seS T C li ap va le) (tpS B L P F) sh kf) (fun u => rfl) (fun u hu => ?_)
        obtain ⟨r_2, rfl⟩ : ∃ z, z = u := ⟨_, rfl⟩
        have h3 : r_2 = ((m 8) k) := hu.trans (by rw [show (nI k) = nI k from rfl]; exact atv_n (by omega) (by decide))
        subst h3
        show Go E Q 2 0 0 24 [(0, .ref (a 0)), (1, .int (nI k))] [.int ((m 8) k)] (loftW cI cS a m v w (seS T C li ap va le) (tpS B L P F) sh kf)
        refine g_aload_n hE dX4_sameHeaps_24 0 rfl ?_
        refine g_get hE fl_X4_16 dX4_sameHeaps_25 0 rfl rfl ?_
        refine g_get hE fl_X4_161 dX4_sameHeaps_28 11 rfl rfl ?_
        refine g_iload_n hE dX4_sameHeaps_31 1 rfl ?_
        refine g_callS hE (c_X4_at cI cS (a 20) 7 (v 8) (nI k) (by decide)) mk_X4_at st_X4_at ml_X4_91 dX4_sameHeaps_32 (As := [.ref (a 20), .int (nI k)]) (rest := [.int ((m 8) k)]) rfl rfl (by decide) (by decide) (Nat.le_of_ble_eq_true rfl) (by decide) (by decide) [20] rfl (by decide) (fun u => Nat.le_of_ble_eq_true rfl) (ws' := fun u => loftW cI cS a m v w (seS T C li ap va le) (tpS B L P F) sh kf) (fun u => rfl) (fun u hu => ?_)
        obtain ⟨r_4, rfl⟩ : ∃ z, z = u := ⟨_, rfl⟩
        have h5 : r_4 = ((v 8) k) := hu.trans (by rw [show (nI k) = nI k from rfl]; exact atv_n (by omega) (by decide))
        subst h5
        show Go E Q 2 0 0 35 [(0, .ref (a 0)), (1, .int (nI k))] [.int ((v 8) k), .int ((m 8) k)] (loftW cI cS a m v w (seS T C li ap va le) (tpS B L P F) sh kf)
        refine g_icmp_eq hE 40 dX4_sameHeaps_35 (by decide) (fun c6 => ?_) (fun c6 => ?_)
        · refine g_iinc hE dX4_sameHeaps_40 1 (nI (k + 1)) [(1, .int (nI (k + 1))), (0, .ref (a 0))] rfl (nI_1 _) (by decide) rfl ?_
          refine g_goto hE 2 dX4_sameHeaps_43 (by decide) ?_
          refine g_locals [1, 0] [(0, .ref (a 0)), (1, .int (nI (k + 1)))] rfl ?_
          exact ih_2 (k + 1) (by first | assumption | omega) (sameB_y hq (by assumption)) (by omega)
        · refine g_iconst hE dX4_sameHeaps_38 0 (by decide) ?_
          exact g_iret hE hQ dX4_sameHeaps_39 (by first | rfl | decide) 0 rfl rfl (by rw [if_neg]; exact sameB_no (show k < pl + 1 by omega) (by assumption))
  refine g_locals [1, 0] [(0, .ref (a 0)), (1, .int 0)] rfl ?_
  exact L2 _ 0 (Nat.zero_le _) rfl (Nat.lt_succ_self _)
