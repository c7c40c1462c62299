/-! the loft's calls: sheets -/
abbrev SHS : Type := Nat → Nat → Nat → Int32
abbrev SK (k : Nat) (x : Int32) : Prop := (k < 4 ∧ x = nI k) ∨ (k = 4 ∧ ¬ (0 ≤ x ∧ x < 4))
def fgSheet (sh : SHS) (k : Nat) (l n0 : Int32) : Int32 × SHS := if k = 4 then (-1, sh) else if 0 ≤ l ∧ l ≤ 2 then (if 24 < n0 then (-1, sh) else if n0 < 0 then (-14, sh) else (n0, pA sh k (shT (fun _ => 0) l (if 24 < n0 then 24 else n0)))) else (-1, sh)
def fgDrop (sh : SHS) (k : Nat) : Int32 × SHS := if k = 4 then (-1, sh) else if sh k 1 0 = -1 then (-11, sh) else (sh k 1 1, pA sh k (shT (fun _ => 0) (-1) (if 24 < 0 then 24 else 0)))
def fgItem (sh : SHS) (k : Nat) (l i v0 : Int32) : Int32 × SHS := if k = 4 then (-1, sh) else if 0 ≤ l ∧ l ≤ 2 then (if refS (sh k 1 0) (sh k 1 1) l i 1 = 0 then (1, pA sh k (shT (putv (sh k 0) 24 i (lnS (sh k 1 0) v0)) (sh k 1 0) (sh k 1 1))) else (refS (sh k 1 0) (sh k 1 1) l i 1, sh)) else (-1, sh)
def fgCopy (sh : SHS) (k k2 : Nat) (i j n0 : Int32) : Int32 × SHS := if k = 4 then (-1, sh) else if k2 = 4 then (-1, sh) else if sh k 1 0 = -1 then (-11, sh) else if sh k2 1 0 = -1 then (-11, sh) else if sh k 1 0 = sh k2 1 0 then (if hasI (sh k 1 1) i n0 then (if hasI (sh k2 1 1) j n0 then (n0, pA sh k2 (shT (va_cpy (sh k 0) (sh k2 0) i.toNatClampNeg j.toNatClampNeg n0.toNatClampNeg) (sh k2 1 0) (sh k2 1 1))) else (-13, sh)) else (-13, sh)) else (-12, sh)
theorem cp_b {le i n : Int32} (h : hasI le i n) (h2 : le ≤ 24) : i.toNatClampNeg + n.toNatClampNeg ≤ 24 := by
  obtain ⟨h0, h1, h3, h4⟩ := h
  obtain ⟨a, a1, a2, a3⟩ := nat_of_le (b := 24) (x := i) (y := 24) ⟨h0, Int32.le_trans h1 h2⟩ rfl (by decide)
  obtain ⟨b, b1, b2, b3⟩ := nat_of_le (b := 24) (x := le) (y := 24) ⟨Int32.le_trans h0 h1, h2⟩ rfl (by decide)
  subst a2; subst b2
  rw [nI_leI (by omega) (by omega)] at h1
  rw [nI_isub h1] at h4
  obtain ⟨c, c1, c2, c3⟩ := nat_of_le (b := b - a) (x := n) ⟨h3, h4⟩ rfl (by omega)
  rw [← a3, ← c3]
  omega
set_option maxHeartbeats 4000000 in
set_option maxRecDepth 100000 in
theorem c_X4_sheetAt (cI cS : ClassId) (a : Nat → Nat) (m v w : Nat → Nat → Int32) (T C : Nat → Int32) (li ap va le : Int32) (B : Nat → Int32) (L P : Nat) (F : Int32) (sh : Nat → Nat → Nat → Int32) (kf : Int32) {n sv pl n1 sv1 pl1 n2 sv2 pl2 : Nat} (hM : MW m n sv pl) (hV : MW v n1 sv1 pl1) (hW : MW w n2 sv2 pl2) (hL : L ≤ 120) (x : Int32) : CT cI cS yX4_sheetAt cX4_sheetAt 2 (some (.object "SieveLoft$Sheet")) 0 [.ref (a 0), .int x] (loftW cI cS a m v w (seS T C li ap va le) (tpS B L P F) sh kf) 0 0 (fun u : Nat => SK u x) (fun u => some (va_rf (if u < 4 then some (a (37 + 2 * u)) else none))) (fun u => (loftW cI cS a m v w (seS T C li ap va le) (tpS B L P F) sh kf)) := by
  refine ct_intro (by decide) (Nat.le_of_ble_eq_true rfl) (fun E Q hE hQ hI => ?_)
  have hE : CxOk E cI cS RX4 cX4_sheetAt 2 (some (.object "SieveLoft$Sheet")) 0 0 0 := hE
  show Go E Q 2 0 0 0 [(0, .ref (a 0)), (1, .int x)] [] (loftW cI cS a m v w (seS T C li ap va le) (tpS B L P F) sh kf)
  have hn := hM.1
  have hn6 := hM.2.1
  have hsv := hM.2.2.1
  have hsv8 := hM.2.2.2.1
  have hpl := hM.2.2.2.2.1
  have hpl6 := hM.2.2.2.2.2
  have hn1 := hV.1
  have hn16 := hV.2.1
  have hsv1 := hV.2.2.1
  have hsv18 := hV.2.2.2.1
  have hpl1 := hV.2.2.2.2.1
  have hpl16 := hV.2.2.2.2.2
  refine g_iload_n hE dX4_sheetAt_0 1 rfl ?_
  refine g_if_lt hE 22 dX4_sheetAt_1 (by decide) (fun c1 => ?_) (fun c1 => ?_)
  · refine g_null hE dX4_sheetAt_22 ?_
    exact g_aret hE hQ dX4_sheetAt_23 (Or.inl ⟨_, rfl⟩) (Or.inl rfl) 4 rfl rfl (Or.inr ⟨rfl, fun q => absurd (show x < 0 from c1) (Int32.not_lt.mpr q.1)⟩)
  · refine g_iload_n hE dX4_sheetAt_4 1 rfl ?_
    refine g_aload_n hE dX4_sheetAt_5 0 rfl ?_
    refine g_get hE fl_X4_42 dX4_sheetAt_6 0 rfl rfl ?_
    refine g_alenq hE dX4_sheetAt_9 36 4 rfl rfl ?_
    refine g_icmp_ge hE 22 dX4_sheetAt_10 (by decide) (fun c2 => ?_) (fun c2 => ?_)
    · refine g_null hE dX4_sheetAt_22 ?_
      exact g_aret hE hQ dX4_sheetAt_23 (Or.inl ⟨_, rfl⟩) (Or.inl rfl) 4 rfl rfl (Or.inr ⟨rfl, fun q => (show ¬ x < 4 from (Int32.not_lt.mpr c2)) q.2⟩)
    · refine g_aload_n hE dX4_sheetAt_13 0 rfl ?_
      refine g_get hE fl_X4_42 dX4_sheetAt_14 0 rfl rfl ?_
      refine g_iload_n hE dX4_sheetAt_17 1 rfl ?_
      obtain ⟨kn, hkn4, hkn, hknc⟩ := nat_of_lt (b := 4) (x := x) (y := 4) ⟨Int32.not_lt.mp (show ¬ x < 0 from c1), (show x < 4 from (Int32.not_le.mp c2))⟩ rfl (by decide)
      refine g_aldq hE dX4_sheetAt_18 36 (.ref (a (37 + 2 * kn))) rfl (vp_in_i (n := 4) (Int32.not_lt.mp (show ¬ x < 0 from c1)) (show x < 4 from (Int32.not_le.mp c2)) (by decide)) (by rw [← hknc]; show va_rf (if kn < 4 then some (a (37 + 2 * kn)) else none) = _; rw [if_pos hkn4]; rfl) ?_
      refine g_goto hE 23 dX4_sheetAt_19 (by decide) ?_
      exact g_aret hE hQ dX4_sheetAt_23 (Or.inl ⟨_, rfl⟩) (Or.inr ⟨_, rfl⟩) kn (by show some (va_rf (if kn < 4 then some (a (37 + 2 * kn)) else none)) = _; rw [if_pos hkn4]; rfl) rfl (Or.inl ⟨hkn4, hkn⟩)
set_option maxHeartbeats 4000000 in
set_option maxRecDepth 100000 in
theorem c_X4_sheet (cI cS : ClassId) (a : Nat → Nat) (m v w : Nat → Nat → Int32) (T C : Nat → Int32) (li ap va le : Int32) (B : Nat → Int32) (L P : Nat) (F : Int32) (sh : Nat → Nat → Nat → Int32) (kf : Int32) {n sv pl n1 sv1 pl1 n2 sv2 pl2 : Nat} (hM : MW m n sv pl) (hV : MW v n1 sv1 pl1) (hW : MW w n2 sv2 pl2) (hL : L ≤ 120) (x l n0 : Int32) : CT cI cS yX4_sheet cX4_sheet 5 (some .int) 2 [.ref (a 0), .int x, .int l, .int n0] (loftW cI cS a m v w (seS T C li ap va le) (tpS B L P F) sh kf) 0 0 (fun u : Nat × Int32 × (Nat → Nat → Nat → Int32) => SK u.1 x ∧ (u.2.1, u.2.2) = fgSheet sh u.1 l n0) (fun u => some (.int u.2.1)) (fun u => (loftW cI cS a m v w (seS T C li ap va le) (tpS B L P F) u.2.2 kf)) := by
  refine ct_intro (by decide) (Nat.le_of_ble_eq_true rfl) (fun E Q hE hQ hI => ?_)
  have hE : CxOk E cI cS RX4 cX4_sheet 5 (some .int) 2 0 0 := hE
  show Go E Q 5 0 0 0 [(0, .ref (a 0)), (1, .int x), (2, .int l), (3, .int n0)] [] (loftW cI cS a m v w (seS T C li ap va le) (tpS B L P F) sh kf)
  have hn := hM.1
  have hn6 := hM.2.1
  have hsv := hM.2.2.1
  have hsv8 := hM.2.2.2.1
  have hpl := hM.2.2.2.2.1
  have hpl6 := hM.2.2.2.2.2
  have hn1 := hV.1
  have hn16 := hV.2.1
  have hsv1 := hV.2.2.1
  have hsv18 := hV.2.2.2.1
  have hpl1 := hV.2.2.2.2.1
  have hpl16 := hV.2.2.2.2.2
  refine g_aload_n hE dX4_sheet_0 0 rfl ?_
  refine g_iload_n hE dX4_sheet_1 1 rfl ?_
  refine g_callV hE (c_X4_sheetAt cI cS a m v w T C li ap va le B L P F sh kf (by first | assumption | exact mw_of (by assumption)) (by first | assumption | exact mw_of (by assumption)) (by first | assumption | exact mw_of (by assumption)) hL x) mk_X4_sheetAt mv_X4_sheetAt ml_X4_221 dX4_sheet_2 (As := [.int x]) (rest := []) rfl rfl 0 rfl (show vwCl[4]? = some (RX4, TX4, 7) from rfl) (by decide) (by decide) (Nat.le_of_ble_eq_true rfl) (by decide) (by decide) [0, 1, 2, 3, 4, 5, 6, 7, 8, 9, 10, 11, 12, 13, 14, 15, 16, 17, 18, 19, 20, 21, 22, 23, 24, 25, 26, 27, 28, 29, 30, 31, 32, 33, 34, 35, 36, 37, 38, 39, 40, 41, 42, 43, 44] rfl (by decide) (fun u => Nat.le_of_ble_eq_true rfl) (ws' := fun u => loftW cI cS a m v w (seS T C li ap va le) (tpS B L P F) sh kf) (fun u => rfl) (fun u hu => ?_)
  obtain ⟨k_1, rfl⟩ : ∃ z, z = u := ⟨_, rfl⟩
  have h2 : SK k_1 x := hu
  rcases (show k_1 = 0 ∨ k_1 = 1 ∨ k_1 = 2 ∨ k_1 = 3 ∨ k_1 = 4 by rcases h2 with q | q <;> omega) with rfl | rfl | rfl | rfl | rfl
  · show Go E Q 5 0 0 5 [(0, .ref (a 0)), (1, .int x), (2, .int l), (3, .int n0)] [.ref (a 37)] (loftW cI cS a m v w (seS T C li ap va le) (tpS B L P F) sh kf)
    refine g_astore hE dX4_sheet_5 [(4, .ref (a 37)), (0, .ref (a 0)), (1, .int x), (2, .int l), (3, .int n0)] (by decide) rfl ?_
    refine g_aload hE dX4_sheet_7 0 rfl ?_
    refine g_ifnull hE dX4_sheet_9 ?_
    refine g_iload_n hE dX4_sheet_12 3 rfl ?_
    refine g_callS hE (c_X4_isLane cI cS l) mk_X4_isLane st_X4_isLane ml_X4_225 dX4_sheet_13 (As := [.int l]) (rest := []) rfl rfl (by decide) (by decide) (Nat.le_of_ble_eq_true rfl) (by decide) (by decide) [] rfl (by decide) (fun u => Nat.le_of_ble_eq_true rfl) (ws' := fun u => loftW cI cS a m v w (seS T C li ap va le) (tpS B L P F) sh kf) (fun u => rfl) (fun u hu => ?_)
    obtain ⟨r_3, rfl⟩ : ∃ z, z = u := ⟨_, rfl⟩
    have h4 : r_3 = if 0 ≤ l ∧ l ≤ 2 then 1 else 0 := hu
    by_cases c5 : 0 ≤ l ∧ l ≤ 2
    · rw [if_pos c5] at h4
      subst h4
      show Go E Q 5 0 0 16 [(4, .ref (a 37)), (0, .ref (a 0)), (1, .int x), (2, .int l), (3, .int n0)] [.int 1] (loftW cI cS a m v w (seS T C li ap va le) (tpS B L P F) sh kf)
      refine g_if_eq hE 25 dX4_sheet_16 (by decide) (fun c6 => absurd c6 (by decide)) (fun c6 => ?_)
      refine g_iload_n hE dX4_sheet_19 4 rfl ?_
      refine g_bipush hE dX4_sheet_20 24 (by decide) ?_
      refine g_icmp_le hE 27 dX4_sheet_22 (by decide) (fun c7 => ?_) (fun c7 => ?_)
      · refine g_iload_n hE dX4_sheet_27 4 rfl ?_
        refine g_if_ge hE 34 dX4_sheet_28 (by decide) (fun c8 => ?_) (fun c8 => ?_)
        · refine g_aload hE dX4_sheet_34 0 rfl ?_
          refine g_iload_n hE dX4_sheet_36 3 rfl ?_
          refine g_iload_n hE dX4_sheet_37 4 rfl ?_
          refine g_callV hE (c_X2_renew cI cS (fun i => a (i + 37)) (sh 0 0) (sh 0 1 0) (sh 0 1 1) l n0) mk_X2_renew mv_X2_renew ml_X4_244 dX4_sheet_38 (As := [.int l, .int n0]) (rest := []) rfl rfl 37 rfl (show vwCl[2]? = some (RX2, TX2, 3) from rfl) (by decide) (by decide) (Nat.le_of_ble_eq_true rfl) (by decide) (by decide) [37, 38] rfl (by decide) (fun u => Nat.le_of_ble_eq_true rfl) (ws' := fun u => loftW cI cS a m v w (seS T C li ap va le) (tpS B L P F) (pA sh 0 (shT (fun _ => 0) l (if 24 < n0 then 24 else n0))) kf) (fun u => rfl) (fun u hu => ?_)
          show Go E Q 5 0 0 41 [(4, .ref (a 37)), (0, .ref (a 0)), (1, .int x), (2, .int l), (3, .int n0)] [] (loftW cI cS a m v w (seS T C li ap va le) (tpS B L P F) (pA sh 0 (shT (fun _ => 0) l (if 24 < n0 then 24 else n0))) kf)
          refine g_iload_n hE dX4_sheet_41 4 rfl ?_
          exact g_iret hE hQ dX4_sheet_42 rfl (0, n0, (pA sh 0 (shT (fun _ => 0) l (if 24 < n0 then 24 else n0)))) rfl rfl ⟨h2, (by show (n0, (pA sh 0 (shT (fun _ => 0) l (if 24 < n0 then 24 else n0)))) = fgSheet sh 0 l n0; simp only [fgSheet, if_neg (show ¬ (0 : Nat) = 4 by decide), if_pos c5, if_neg (show ¬ 24 < n0 from (Int32.not_lt.mpr c7)), if_neg (show ¬ n0 < 0 from (Int32.not_lt.mpr c8)), if_pos trivial])⟩
        · refine g_bipush hE dX4_sheet_31 (-14) (by decide) ?_
          exact g_iret hE hQ dX4_sheet_33 rfl (0, (-14), sh) rfl rfl ⟨h2, (by show ((-14), sh) = fgSheet sh 0 l n0; simp only [fgSheet, if_neg (show ¬ (0 : Nat) = 4 by decide), if_pos c5, if_neg (show ¬ 24 < n0 from (Int32.not_lt.mpr c7)), if_pos (show n0 < 0 from (Int32.not_le.mp c8)), if_pos trivial])⟩
      · refine g_iconst hE dX4_sheet_25 (-1) (by decide) ?_
        exact g_iret hE hQ dX4_sheet_26 rfl (0, (-1), sh) rfl rfl ⟨h2, (by show ((-1), sh) = fgSheet sh 0 l n0; simp only [fgSheet, if_neg (show ¬ (0 : Nat) = 4 by decide), if_pos c5, if_pos (show 24 < n0 from (Int32.not_le.mp c7)), if_pos trivial])⟩
    · rw [if_neg c5] at h4
      subst h4
      show Go E Q 5 0 0 16 [(4, .ref (a 37)), (0, .ref (a 0)), (1, .int x), (2, .int l), (3, .int n0)] [.int 0] (loftW cI cS a m v w (seS T C li ap va le) (tpS B L P F) sh kf)
      refine g_if_eq hE 25 dX4_sheet_16 (by decide) (fun c10 => ?_) (fun c10 => absurd (by decide) c10)
      refine g_iconst hE dX4_sheet_25 (-1) (by decide) ?_
      exact g_iret hE hQ dX4_sheet_26 rfl (0, (-1), sh) rfl rfl ⟨h2, (by show ((-1), sh) = fgSheet sh 0 l n0; simp only [fgSheet, if_neg (show ¬ (0 : Nat) = 4 by decide), if_neg c5, if_pos trivial])⟩
  · show Go E Q 5 0 0 5 [(0, .ref (a 0)), (1, .int x), (2, .int l), (3, .int n0)] [.ref (a 39)] (loftW cI cS a m v w (seS T C li ap va le) (tpS B L P F) sh kf)
    refine g_astore hE dX4_sheet_5 [(4, .ref (a 39)), (0, .ref (a 0)), (1, .int x), (2, .int l), (3, .int n0)] (by decide) rfl ?_
    refine g_aload hE dX4_sheet_7 0 rfl ?_
    refine g_ifnull hE dX4_sheet_9 ?_
    refine g_iload_n hE dX4_sheet_12 3 rfl ?_
    refine g_callS hE (c_X4_isLane cI cS l) mk_X4_isLane st_X4_isLane ml_X4_225 dX4_sheet_13 (As := [.int l]) (rest := []) rfl rfl (by decide) (by decide) (Nat.le_of_ble_eq_true rfl) (by decide) (by decide) [] rfl (by decide) (fun u => Nat.le_of_ble_eq_true rfl) (ws' := fun u => loftW cI cS a m v w (seS T C li ap va le) (tpS B L P F) sh kf) (fun u => rfl) (fun u hu => ?_)
    obtain ⟨r_11, rfl⟩ : ∃ z, z = u := ⟨_, rfl⟩
    have h12 : r_11 = if 0 ≤ l ∧ l ≤ 2 then 1 else 0 := hu
    by_cases c13 : 0 ≤ l ∧ l ≤ 2
    · rw [if_pos c13] at h12
      subst h12
      show Go E Q 5 0 0 16 [(4, .ref (a 39)), (0, .ref (a 0)), (1, .int x), (2, .int l), (3, .int n0)] [.int 1] (loftW cI cS a m v w (seS T C li ap va le) (tpS B L P F) sh kf)
      refine g_if_eq hE 25 dX4_sheet_16 (by decide) (fun c14 => absurd c14 (by decide)) (fun c14 => ?_)
      refine g_iload_n hE dX4_sheet_19 4 rfl ?_
      refine g_bipush hE dX4_sheet_20 24 (by decide) ?_
      refine g_icmp_le hE 27 dX4_sheet_22 (by decide) (fun c15 => ?_) (fun c15 => ?_)
      · refine g_iload_n hE dX4_sheet_27 4 rfl ?_
        refine g_if_ge hE 34 dX4_sheet_28 (by decide) (fun c16 => ?_) (fun c16 => ?_)
        · refine g_aload hE dX4_sheet_34 0 rfl ?_
          refine g_iload_n hE dX4_sheet_36 3 rfl ?_
          refine g_iload_n hE dX4_sheet_37 4 rfl ?_
          refine g_callV hE (c_X2_renew cI cS (fun i => a (i + 39)) (sh 1 0) (sh 1 1 0) (sh 1 1 1) l n0) mk_X2_renew mv_X2_renew ml_X4_244 dX4_sheet_38 (As := [.int l, .int n0]) (rest := []) rfl rfl 39 rfl (show vwCl[2]? = some (RX2, TX2, 3) from rfl) (by decide) (by decide) (Nat.le_of_ble_eq_true rfl) (by decide) (by decide) [39, 40] rfl (by decide) (fun u => Nat.le_of_ble_eq_true rfl) (ws' := fun u => loftW cI cS a m v w (seS T C li ap va le) (tpS B L P F) (pA sh 1 (shT (fun _ => 0) l (if 24 < n0 then 24 else n0))) kf) (fun u => rfl) (fun u hu => ?_)
          show Go E Q 5 0 0 41 [(4, .ref (a 39)), (0, .ref (a 0)), (1, .int x), (2, .int l), (3, .int n0)] [] (loftW cI cS a m v w (seS T C li ap va le) (tpS B L P F) (pA sh 1 (shT (fun _ => 0) l (if 24 < n0 then 24 else n0))) kf)
          refine g_iload_n hE dX4_sheet_41 4 rfl ?_
          exact g_iret hE hQ dX4_sheet_42 rfl (1, n0, (pA sh 1 (shT (fun _ => 0) l (if 24 < n0 then 24 else n0)))) rfl rfl ⟨h2, (by show (n0, (pA sh 1 (shT (fun _ => 0) l (if 24 < n0 then 24 else n0)))) = fgSheet sh 1 l n0; simp only [fgSheet, if_neg (show ¬ (1 : Nat) = 4 by decide), if_pos c13, if_neg (show ¬ 24 < n0 from (Int32.not_lt.mpr c15)), if_neg (show ¬ n0 < 0 from (Int32.not_lt.mpr c16)), if_pos trivial])⟩
        · refine g_bipush hE dX4_sheet_31 (-14) (by decide) ?_
          exact g_iret hE hQ dX4_sheet_33 rfl (1, (-14), sh) rfl rfl ⟨h2, (by show ((-14), sh) = fgSheet sh 1 l n0; simp only [fgSheet, if_neg (show ¬ (1 : Nat) = 4 by decide), if_pos c13, if_neg (show ¬ 24 < n0 from (Int32.not_lt.mpr c15)), if_pos (show n0 < 0 from (Int32.not_le.mp c16)), if_pos trivial])⟩
      · refine g_iconst hE dX4_sheet_25 (-1) (by decide) ?_
        exact g_iret hE hQ dX4_sheet_26 rfl (1, (-1), sh) rfl rfl ⟨h2, (by show ((-1), sh) = fgSheet sh 1 l n0; simp only [fgSheet, if_neg (show ¬ (1 : Nat) = 4 by decide), if_pos c13, if_pos (show 24 < n0 from (Int32.not_le.mp c15)), if_pos trivial])⟩
    · rw [if_neg c13] at h12
      subst h12
      show Go E Q 5 0 0 16 [(4, .ref (a 39)), (0, .ref (a 0)), (1, .int x), (2, .int l), (3, .int n0)] [.int 0] (loftW cI cS a m v w (seS T C li ap va le) (tpS B L P F) sh kf)
      refine g_if_eq hE 25 dX4_sheet_16 (by decide) (fun c18 => ?_) (fun c18 => absurd (by decide) c18)
      refine g_iconst hE dX4_sheet_25 (-1) (by decide) ?_
      exact g_iret hE hQ dX4_sheet_26 rfl (1, (-1), sh) rfl rfl ⟨h2, (by show ((-1), sh) = fgSheet sh 1 l n0; simp only [fgSheet, if_neg (show ¬ (1 : Nat) = 4 by decide), if_neg c13, if_pos trivial])⟩
  · show Go E Q 5 0 0 5 [(0, .ref (a 0)), (1, .int x), (2, .int l), (3, .int n0)] [.ref (a 41)] (loftW cI cS a m v w (seS T C li ap va le) (tpS B L P F) sh kf)
    refine g_astore hE dX4_sheet_5 [(4, .ref (a 41)), (0, .ref (a 0)), (1, .int x), (2, .int l), (3, .int n0)] (by decide) rfl ?_
    refine g_aload hE dX4_sheet_7 0 rfl ?_
    refine g_ifnull hE dX4_sheet_9 ?_
    refine g_iload_n hE dX4_sheet_12 3 rfl ?_
    refine g_callS hE (c_X4_isLane cI cS l) mk_X4_isLane st_X4_isLane ml_X4_225 dX4_sheet_13 (As := [.int l]) (rest := []) rfl rfl (by decide) (by decide) (Nat.le_of_ble_eq_true rfl) (by decide) (by decide) [] rfl (by decide) (fun u => Nat.le_of_ble_eq_true rfl) (ws' := fun u => loftW cI cS a m v w (seS T C li ap va le) (tpS B L P F) sh kf) (fun u => rfl) (fun u hu => ?_)
    obtain ⟨r_19, rfl⟩ : ∃ z, z = u := ⟨_, rfl⟩
    have h20 : r_19 = if 0 ≤ l ∧ l ≤ 2 then 1 else 0 := hu
    by_cases c21 : 0 ≤ l ∧ l ≤ 2
    · rw [if_pos c21] at h20
      subst h20
      show Go E Q 5 0 0 16 [(4, .ref (a 41)), (0, .ref (a 0)), (1, .int x), (2, .int l), (3, .int n0)] [.int 1] (loftW cI cS a m v w (seS T C li ap va le) (tpS B L P F) sh kf)
      refine g_if_eq hE 25 dX4_sheet_16 (by decide) (fun c22 => absurd c22 (by decide)) (fun c22 => ?_)
      refine g_iload_n hE dX4_sheet_19 4 rfl ?_
      refine g_bipush hE dX4_sheet_20 24 (by decide) ?_
      refine g_icmp_le hE 27 dX4_sheet_22 (by decide) (fun c23 => ?_) (fun c23 => ?_)
      · refine g_iload_n hE dX4_sheet_27 4 rfl ?_
        refine g_if_ge hE 34 dX4_sheet_28 (by decide) (fun c24 => ?_) (fun c24 => ?_)
        · refine g_aload hE dX4_sheet_34 0 rfl ?_
          refine g_iload_n hE dX4_sheet_36 3 rfl ?_
          refine g_iload_n hE dX4_sheet_37 4 rfl ?_
          refine g_callV hE (c_X2_renew cI cS (fun i => a (i + 41)) (sh 2 0) (sh 2 1 0) (sh 2 1 1) l n0) mk_X2_renew mv_X2_renew ml_X4_244 dX4_sheet_38 (As := [.int l, .int n0]) (rest := []) rfl rfl 41 rfl (show vwCl[2]? = some (RX2, TX2, 3) from rfl) (by decide) (by decide) (Nat.le_of_ble_eq_true rfl) (by decide) (by decide) [41, 42] rfl (by decide) (fun u => Nat.le_of_ble_eq_true rfl) (ws' := fun u => loftW cI cS a m v w (seS T C li ap va le) (tpS B L P F) (pA sh 2 (shT (fun _ => 0) l (if 24 < n0 then 24 else n0))) kf) (fun u => rfl) (fun u hu => ?_)
          show Go E Q 5 0 0 41 [(4, .ref (a 41)), (0, .ref (a 0)), (1, .int x), (2, .int l), (3, .int n0)] [] (loftW cI cS a m v w (seS T C li ap va le) (tpS B L P F) (pA sh 2 (shT (fun _ => 0) l (if 24 < n0 then 24 else n0))) kf)
          refine g_iload_n hE dX4_sheet_41 4 rfl ?_
          exact g_iret hE hQ dX4_sheet_42 rfl (2, n0, (pA sh 2 (shT (fun _ => 0) l (if 24 < n0 then 24 else n0)))) rfl rfl ⟨h2, (by show (n0, (pA sh 2 (shT (fun _ => 0) l (if 24 < n0 then 24 else n0)))) = fgSheet sh 2 l n0; simp only [fgSheet, if_neg (show ¬ (2 : Nat) = 4 by decide), if_pos c21, if_neg (show ¬ 24 < n0 from (Int32.not_lt.mpr c23)), if_neg (show ¬ n0 < 0 from (Int32.not_lt.mpr c24)), if_pos trivial])⟩
        · refine g_bipush hE dX4_sheet_31 (-14) (by decide) ?_
          exact g_iret hE hQ dX4_sheet_33 rfl (2, (-14), sh) rfl rfl ⟨h2, (by show ((-14), sh) = fgSheet sh 2 l n0; simp only [fgSheet, if_neg (show ¬ (2 : Nat) = 4 by decide), if_pos c21, if_neg (show ¬ 24 < n0 from (Int32.not_lt.mpr c23)), if_pos (show n0 < 0 from (Int32.not_le.mp c24)), if_pos trivial])⟩
      · refine g_iconst hE dX4_sheet_25 (-1) (by decide) ?_
        exact g_iret hE hQ dX4_sheet_26 rfl (2, (-1), sh) rfl rfl ⟨h2, (by show ((-1), sh) = fgSheet sh 2 l n0; simp only [fgSheet, if_neg (show ¬ (2 : Nat) = 4 by decide), if_pos c21, if_pos (show 24 < n0 from (Int32.not_le.mp c23)), if_pos trivial])⟩
    · rw [if_neg c21] at h20
      subst h20
      show Go E Q 5 0 0 16 [(4, .ref (a 41)), (0, .ref (a 0)), (1, .int x), (2, .int l), (3, .int n0)] [.int 0] (loftW cI cS a m v w (seS T C li ap va le) (tpS B L P F) sh kf)
      refine g_if_eq hE 25 dX4_sheet_16 (by decide) (fun c26 => ?_) (fun c26 => absurd (by decide) c26)
      refine g_iconst hE dX4_sheet_25 (-1) (by decide) ?_
      exact g_iret hE hQ dX4_sheet_26 rfl (2, (-1), sh) rfl rfl ⟨h2, (by show ((-1), sh) = fgSheet sh 2 l n0; simp only [fgSheet, if_neg (show ¬ (2 : Nat) = 4 by decide), if_neg c21, if_pos trivial])⟩
  · show Go E Q 5 0 0 5 [(0, .ref (a 0)), (1, .int x), (2, .int l), (3, .int n0)] [.ref (a 43)] (loftW cI cS a m v w (seS T C li ap va le) (tpS B L P F) sh kf)
    refine g_astore hE dX4_sheet_5 [(4, .ref (a 43)), (0, .ref (a 0)), (1, .int x), (2, .int l), (3, .int n0)] (by decide) rfl ?_
    refine g_aload hE dX4_sheet_7 0 rfl ?_
    refine g_ifnull hE dX4_sheet_9 ?_
    refine g_iload_n hE dX4_sheet_12 3 rfl ?_
    refine g_callS hE (c_X4_isLane cI cS l) mk_X4_isLane st_X4_isLane ml_X4_225 dX4_sheet_13 (As := [.int l]) (rest := []) rfl rfl (by decide) (by decide) (Nat.le_of_ble_eq_true rfl) (by decide) (by decide) [] rfl (by decide) (fun u => Nat.le_of_ble_eq_true rfl) (ws' := fun u => loftW cI cS a m v w (seS T C li ap va le) (tpS B L P F) sh kf) (fun u => rfl) (fun u hu => ?_)
    obtain ⟨r_27, rfl⟩ : ∃ z, z = u := ⟨_, rfl⟩
    have h28 : r_27 = if 0 ≤ l ∧ l ≤ 2 then 1 else 0 := hu
    by_cases c29 : 0 ≤ l ∧ l ≤ 2
    · rw [if_pos c29] at h28
      subst h28
      show Go E Q 5 0 0 16 [(4, .ref (a 43)), (0, .ref (a 0)), (1, .int x), (2, .int l), (3, .int n0)] [.int 1] (loftW cI cS a m v w (seS T C li ap va le) (tpS B L P F) sh kf)
      refine g_if_eq hE 25 dX4_sheet_16 (by decide) (fun c30 => absurd c30 (by decide)) (fun c30 => ?_)
      refine g_iload_n hE dX4_sheet_19 4 rfl ?_
      refine g_bipush hE dX4_sheet_20 24 (by decide) ?_
      refine g_icmp_le hE 27 dX4_sheet_22 (by decide) (fun c31 => ?_) (fun c31 => ?_)
      · refine g_iload_n hE dX4_sheet_27 4 rfl ?_
        refine g_if_ge hE 34 dX4_sheet_28 (by decide) (fun c32 => ?_) (fun c32 => ?_)
        · refine g_aload hE dX4_sheet_34 0 rfl ?_
          refine g_iload_n hE dX4_sheet_36 3 rfl ?_
          refine g_iload_n hE dX4_sheet_37 4 rfl ?_
          refine g_callV hE (c_X2_renew cI cS (fun i => a (i + 43)) (sh 3 0) (sh 3 1 0) (sh 3 1 1) l n0) mk_X2_renew mv_X2_renew ml_X4_244 dX4_sheet_38 (As := [.int l, .int n0]) (rest := []) rfl rfl 43 rfl (show vwCl[2]? = some (RX2, TX2, 3) from rfl) (by decide) (by decide) (Nat.le_of_ble_eq_true rfl) (by decide) (by decide) [43, 44] rfl (by decide) (fun u => Nat.le_of_ble_eq_true rfl) (ws' := fun u => loftW cI cS a m v w (seS T C li ap va le) (tpS B L P F) (pA sh 3 (shT (fun _ => 0) l (if 24 < n0 then 24 else n0))) kf) (fun u => rfl) (fun u hu => ?_)
          show Go E Q 5 0 0 41 [(4, .ref (a 43)), (0, .ref (a 0)), (1, .int x), (2, .int l), (3, .int n0)] [] (loftW cI cS a m v w (seS T C li ap va le) (tpS B L P F) (pA sh 3 (shT (fun _ => 0) l (if 24 < n0 then 24 else n0))) kf)
          refine g_iload_n hE dX4_sheet_41 4 rfl ?_
          exact g_iret hE hQ dX4_sheet_42 rfl (3, n0, (pA sh 3 (shT (fun _ => 0) l (if 24 < n0 then 24 else n0)))) rfl rfl ⟨h2, (by show (n0, (pA sh 3 (shT (fun _ => 0) l (if 24 < n0 then 24 else n0)))) = fgSheet sh 3 l n0; simp only [fgSheet, if_neg (show ¬ (3 : Nat) = 4 by decide), if_pos c29, if_neg (show ¬ 24 < n0 from (Int32.not_lt.mpr c31)), if_neg (show ¬ n0 < 0 from (Int32.not_lt.mpr c32)), if_pos trivial])⟩
        · refine g_bipush hE dX4_sheet_31 (-14) (by decide) ?_
          exact g_iret hE hQ dX4_sheet_33 rfl (3, (-14), sh) rfl rfl ⟨h2, (by show ((-14), sh) = fgSheet sh 3 l n0; simp only [fgSheet, if_neg (show ¬ (3 : Nat) = 4 by decide), if_pos c29, if_neg (show ¬ 24 < n0 from (Int32.not_lt.mpr c31)), if_pos (show n0 < 0 from (Int32.not_le.mp c32)), if_pos trivial])⟩
      · refine g_iconst hE dX4_sheet_25 (-1) (by decide) ?_
        exact g_iret hE hQ dX4_sheet_26 rfl (3, (-1), sh) rfl rfl ⟨h2, (by show ((-1), sh) = fgSheet sh 3 l n0; simp only [fgSheet, if_neg (show ¬ (3 : Nat) = 4 by decide), if_pos c29, if_pos (show 24 < n0 from (Int32.not_le.mp c31)), if_pos trivial])⟩
    · rw [if_neg c29] at h28
      subst h28
      show Go E Q 5 0 0 16 [(4, .ref (a 43)), (0, .ref (a 0)), (1, .int x), (2, .int l), (3, .int n0)] [.int 0] (loftW cI cS a m v w (seS T C li ap va le) (tpS B L P F) sh kf)
      refine g_if_eq hE 25 dX4_sheet_16 (by decide) (fun c34 => ?_) (fun c34 => absurd (by decide) c34)
      refine g_iconst hE dX4_sheet_25 (-1) (by decide) ?_
      exact g_iret hE hQ dX4_sheet_26 rfl (3, (-1), sh) rfl rfl ⟨h2, (by show ((-1), sh) = fgSheet sh 3 l n0; simp only [fgSheet, if_neg (show ¬ (3 : Nat) = 4 by decide), if_neg c29, if_pos trivial])⟩
  · show Go E Q 5 0 0 5 [(0, .ref (a 0)), (1, .int x), (2, .int l), (3, .int n0)] [.null] (loftW cI cS a m v w (seS T C li ap va le) (tpS B L P F) sh kf)
    refine g_astoreN hE dX4_sheet_5 [(4, .null), (0, .ref (a 0)), (1, .int x), (2, .int l), (3, .int n0)] (by decide) rfl ?_
    refine g_aloadN hE dX4_sheet_7 0 rfl ?_
    refine g_ifnullN hE 25 dX4_sheet_9 (by decide) ?_
    refine g_iconst hE dX4_sheet_25 (-1) (by decide) ?_
    exact g_iret hE hQ dX4_sheet_26 rfl (4, (-1), sh) rfl rfl ⟨h2, (by show ((-1), sh) = fgSheet sh 4 l n0; simp only [fgSheet, if_pos (show (4 : Nat) = 4 by decide), if_pos trivial])⟩
set_option maxHeartbeats 4000000 in
set_option maxRecDepth 100000 in
theorem c_X4_drop (cI cS : ClassId) (a : Nat → Nat) (m v w : Nat → Nat → Int32) (T C : Nat → Int32) (li ap va le : Int32) (B : Nat → Int32) (L P : Nat) (F : Int32) (sh : Nat → Nat → Nat → Int32) (kf : Int32) {n sv pl n1 sv1 pl1 n2 sv2 pl2 : Nat} (hM : MW m n sv pl) (hV : MW v n1 sv1 pl1) (hW : MW w n2 sv2 pl2) (hL : L ≤ 120) (x : Int32) : CT cI cS yX4_drop cX4_drop 4 (some .int) 2 [.ref (a 0), .int x] (loftW cI cS a m v w (seS T C li ap va le) (tpS B L P F) sh kf) 0 0 (fun u : Nat × Int32 × (Nat → Nat → Nat → Int32) => SK u.1 x ∧ (u.2.1, u.2.2) = fgDrop sh u.1) (fun u => some (.int u.2.1)) (fun u => (loftW cI cS a m v w (seS T C li ap va le) (tpS B L P F) u.2.2 kf)) := by
  refine ct_intro (by decide) (Nat.le_of_ble_eq_true rfl) (fun E Q hE hQ hI => ?_)
  have hE : CxOk E cI cS RX4 cX4_drop 4 (some .int) 2 0 0 := hE
  show Go E Q 4 0 0 0 [(0, .ref (a 0)), (1, .int x)] [] (loftW cI cS a m v w (seS T C li ap va le) (tpS B L P F) sh kf)
  have hn := hM.1
  have hn6 := hM.2.1
  have hsv := hM.2.2.1
  have hsv8 := hM.2.2.2.1
  have hpl := hM.2.2.2.2.1
  have hpl6 := hM.2.2.2.2.2
  have hn1 := hV.1
  have hn16 := hV.2.1
  have hsv1 := hV.2.2.1
  have hsv18 := hV.2.2.2.1
  have hpl1 := hV.2.2.2.2.1
  have hpl16 := hV.2.2.2.2.2
  refine g_aload_n hE dX4_drop_0 0 rfl ?_
  refine g_iload_n hE dX4_drop_1 1 rfl ?_
  refine g_callV hE (c_X4_sheetAt cI cS a m v w T C li ap va le B L P F sh kf (by first | assumption | exact mw_of (by assumption)) (by first | assumption | exact mw_of (by assumption)) (by first | assumption | exact mw_of (by assumption)) hL x) mk_X4_sheetAt mv_X4_sheetAt ml_X4_221 dX4_drop_2 (As := [.int x]) (rest := []) rfl rfl 0 rfl (show vwCl[4]? = some (RX4, TX4, 7) from rfl) (by decide) (by decide) (Nat.le_of_ble_eq_true rfl) (by decide) (by decide) [0, 1, 2, 3, 4, 5, 6, 7, 8, 9, 10, 11, 12, 13, 14, 15, 16, 17, 18, 19, 20, 21, 22, 23, 24, 25, 26, 27, 28, 29, 30, 31, 32, 33, 34, 35, 36, 37, 38, 39, 40, 41, 42, 43, 44] rfl (by decide) (fun u => Nat.le_of_ble_eq_true rfl) (ws' := fun u => loftW cI cS a m v w (seS T C li ap va le) (tpS B L P F) sh kf) (fun u => rfl) (fun u hu => ?_)
  obtain ⟨k_1, rfl⟩ : ∃ z, z = u := ⟨_, rfl⟩
  have h2 : SK k_1 x := hu
  rcases (show k_1 = 0 ∨ k_1 = 1 ∨ k_1 = 2 ∨ k_1 = 3 ∨ k_1 = 4 by rcases h2 with q | q <;> omega) with rfl | rfl | rfl | rfl | rfl
  · show Go E Q 4 0 0 5 [(0, .ref (a 0)), (1, .int x)] [.ref (a 37)] (loftW cI cS a m v w (seS T C li ap va le) (tpS B L P F) sh kf)
    refine g_astore_n hE dX4_drop_5 [(2, .ref (a 37)), (0, .ref (a 0)), (1, .int x)] rfl (by decide) rfl ?_
    refine g_aload_n hE dX4_drop_6 0 rfl ?_
    refine g_ifnonnull hE 12 dX4_drop_7 (by decide) ?_
    refine g_aload_n hE dX4_drop_12 0 rfl ?_
    refine g_get hE fl_X4_247 dX4_drop_13 37 rfl rfl ?_
    refine g_iconst hE dX4_drop_16 (-1) (by decide) ?_
    refine g_icmp_ne hE 23 dX4_drop_17 (by decide) (fun c3 => ?_) (fun c3 => ?_)
    · refine g_aload_n hE dX4_drop_23 0 rfl ?_
      refine g_get hE fl_X4_250 dX4_drop_24 37 rfl rfl ?_
      refine g_istore_n hE dX4_drop_27 [(3, .int (sh 0 1 1)), (2, .ref (a 37)), (0, .ref (a 0)), (1, .int x)] rfl (by decide) rfl ?_
      refine g_aload_n hE dX4_drop_28 1 rfl ?_
      refine g_iconst hE dX4_drop_29 (-1) (by decide) ?_
      refine g_iconst hE dX4_drop_30 0 (by decide) ?_
      refine g_callV hE (c_X2_renew cI cS (fun i => a (i + 37)) (sh 0 0) (sh 0 1 0) (sh 0 1 1) (-1) 0) mk_X2_renew mv_X2_renew ml_X4_244 dX4_drop_31 (As := [.int (-1), .int 0]) (rest := []) rfl rfl 37 rfl (show vwCl[2]? = some (RX2, TX2, 3) from rfl) (by decide) (by decide) (Nat.le_of_ble_eq_true rfl) (by decide) (by decide) [37, 38] rfl (by decide) (fun u => Nat.le_of_ble_eq_true rfl) (ws' := fun u => loftW cI cS a m v w (seS T C li ap va le) (tpS B L P F) (pA sh 0 (shT (fun _ => 0) (-1) (if 24 < 0 then 24 else 0))) kf) (fun u => rfl) (fun u hu => ?_)
      show Go E Q 4 0 0 34 [(3, .int (sh 0 1 1)), (2, .ref (a 37)), (0, .ref (a 0)), (1, .int x)] [] (loftW cI cS a m v w (seS T C li ap va le) (tpS B L P F) (pA sh 0 (shT (fun _ => 0) (-1) (if 24 < 0 then 24 else 0))) kf)
      refine g_iload_n hE dX4_drop_34 0 rfl ?_
      exact g_iret hE hQ dX4_drop_35 rfl (0, (sh 0 1 1), (pA sh 0 (shT (fun _ => 0) (-1) (if 24 < 0 then 24 else 0)))) rfl rfl ⟨h2, (by show ((sh 0 1 1), (pA sh 0 (shT (fun _ => 0) (-1) (if 24 < 0 then 24 else 0)))) = fgDrop sh 0; simp only [fgDrop, if_neg (show ¬ (0 : Nat) = 4 by decide), if_neg (show ¬ (sh 0 1 0) = (-1) from c3), if_pos trivial])⟩
    · refine g_bipush hE dX4_drop_20 (-11) (by decide) ?_
      exact g_iret hE hQ dX4_drop_22 rfl (0, (-11), sh) rfl rfl ⟨h2, (by show ((-11), sh) = fgDrop sh 0; simp only [fgDrop, if_neg (show ¬ (0 : Nat) = 4 by decide), if_pos (show (sh 0 1 0) = (-1) from c3), if_pos trivial])⟩
  · show Go E Q 4 0 0 5 [(0, .ref (a 0)), (1, .int x)] [.ref (a 39)] (loftW cI cS a m v w (seS T C li ap va le) (tpS B L P F) sh kf)
    refine g_astore_n hE dX4_drop_5 [(2, .ref (a 39)), (0, .ref (a 0)), (1, .int x)] rfl (by decide) rfl ?_
    refine g_aload_n hE dX4_drop_6 0 rfl ?_
    refine g_ifnonnull hE 12 dX4_drop_7 (by decide) ?_
    refine g_aload_n hE dX4_drop_12 0 rfl ?_
    refine g_get hE fl_X4_247 dX4_drop_13 39 rfl rfl ?_
    refine g_iconst hE dX4_drop_16 (-1) (by decide) ?_
    refine g_icmp_ne hE 23 dX4_drop_17 (by decide) (fun c5 => ?_) (fun c5 => ?_)
    · refine g_aload_n hE dX4_drop_23 0 rfl ?_
      refine g_get hE fl_X4_250 dX4_drop_24 39 rfl rfl ?_
      refine g_istore_n hE dX4_drop_27 [(3, .int (sh 1 1 1)), (2, .ref (a 39)), (0, .ref (a 0)), (1, .int x)] rfl (by decide) rfl ?_
      refine g_aload_n hE dX4_drop_28 1 rfl ?_
      refine g_iconst hE dX4_drop_29 (-1) (by decide) ?_
      refine g_iconst hE dX4_drop_30 0 (by decide) ?_
      refine g_callV hE (c_X2_renew cI cS (fun i => a (i + 39)) (sh 1 0) (sh 1 1 0) (sh 1 1 1) (-1) 0) mk_X2_renew mv_X2_renew ml_X4_244 dX4_drop_31 (As := [.int (-1), .int 0]) (rest := []) rfl rfl 39 rfl (show vwCl[2]? = some (RX2, TX2, 3) from rfl) (by decide) (by decide) (Nat.le_of_ble_eq_true rfl) (by decide) (by decide) [39, 40] rfl (by decide) (fun u => Nat.le_of_ble_eq_true rfl) (ws' := fun u => loftW cI cS a m v w (seS T C li ap va le) (tpS B L P F) (pA sh 1 (shT (fun _ => 0) (-1) (if 24 < 0 then 24 else 0))) kf) (fun u => rfl) (fun u hu => ?_)
      show Go E Q 4 0 0 34 [(3, .int (sh 1 1 1)), (2, .ref (a 39)), (0, .ref (a 0)), (1, .int x)] [] (loftW cI cS a m v w (seS T C li ap va le) (tpS B L P F) (pA sh 1 (shT (fun _ => 0) (-1) (if 24 < 0 then 24 else 0))) kf)
      refine g_iload_n hE dX4_drop_34 0 rfl ?_
      exact g_iret hE hQ dX4_drop_35 rfl (1, (sh 1 1 1), (pA sh 1 (shT (fun _ => 0) (-1) (if 24 < 0 then 24 else 0)))) rfl rfl ⟨h2, (by show ((sh 1 1 1), (pA sh 1 (shT (fun _ => 0) (-1) (if 24 < 0 then 24 else 0)))) = fgDrop sh 1; simp only [fgDrop, if_neg (show ¬ (1 : Nat) = 4 by decide), if_neg (show ¬ (sh 1 1 0) = (-1) from c5), if_pos trivial])⟩
    · refine g_bipush hE dX4_drop_20 (-11) (by decide) ?_
      exact g_iret hE hQ dX4_drop_22 rfl (1, (-11), sh) rfl rfl ⟨h2, (by show ((-11), sh) = fgDrop sh 1; simp only [fgDrop, if_neg (show ¬ (1 : Nat) = 4 by decide), if_pos (show (sh 1 1 0) = (-1) from c5), if_pos trivial])⟩
  · show Go E Q 4 0 0 5 [(0, .ref (a 0)), (1, .int x)] [.ref (a 41)] (loftW cI cS a m v w (seS T C li ap va le) (tpS B L P F) sh kf)
    refine g_astore_n hE dX4_drop_5 [(2, .ref (a 41)), (0, .ref (a 0)), (1, .int x)] rfl (by decide) rfl ?_
    refine g_aload_n hE dX4_drop_6 0 rfl ?_
    refine g_ifnonnull hE 12 dX4_drop_7 (by decide) ?_
    refine g_aload_n hE dX4_drop_12 0 rfl ?_
    refine g_get hE fl_X4_247 dX4_drop_13 41 rfl rfl ?_
    refine g_iconst hE dX4_drop_16 (-1) (by decide) ?_
    refine g_icmp_ne hE 23 dX4_drop_17 (by decide) (fun c7 => ?_) (fun c7 => ?_)
    · refine g_aload_n hE dX4_drop_23 0 rfl ?_
      refine g_get hE fl_X4_250 dX4_drop_24 41 rfl rfl ?_
      refine g_istore_n hE dX4_drop_27 [(3, .int (sh 2 1 1)), (2, .ref (a 41)), (0, .ref (a 0)), (1, .int x)] rfl (by decide) rfl ?_
      refine g_aload_n hE dX4_drop_28 1 rfl ?_
      refine g_iconst hE dX4_drop_29 (-1) (by decide) ?_
      refine g_iconst hE dX4_drop_30 0 (by decide) ?_
      refine g_callV hE (c_X2_renew cI cS (fun i => a (i + 41)) (sh 2 0) (sh 2 1 0) (sh 2 1 1) (-1) 0) mk_X2_renew mv_X2_renew ml_X4_244 dX4_drop_31 (As := [.int (-1), .int 0]) (rest := []) rfl rfl 41 rfl (show vwCl[2]? = some (RX2, TX2, 3) from rfl) (by decide) (by decide) (Nat.le_of_ble_eq_true rfl) (by decide) (by decide) [41, 42] rfl (by decide) (fun u => Nat.le_of_ble_eq_true rfl) (ws' := fun u => loftW cI cS a m v w (seS T C li ap va le) (tpS B L P F) (pA sh 2 (shT (fun _ => 0) (-1) (if 24 < 0 then 24 else 0))) kf) (fun u => rfl) (fun u hu => ?_)
      show Go E Q 4 0 0 34 [(3, .int (sh 2 1 1)), (2, .ref (a 41)), (0, .ref (a 0)), (1, .int x)] [] (loftW cI cS a m v w (seS T C li ap va le) (tpS B L P F) (pA sh 2 (shT (fun _ => 0) (-1) (if 24 < 0 then 24 else 0))) kf)
      refine g_iload_n hE dX4_drop_34 0 rfl ?_
      exact g_iret hE hQ dX4_drop_35 rfl (2, (sh 2 1 1), (pA sh 2 (shT (fun _ => 0) (-1) (if 24 < 0 then 24 else 0)))) rfl rfl ⟨h2, (by show ((sh 2 1 1), (pA sh 2 (shT (fun _ => 0) (-1) (if 24 < 0 then 24 else 0)))) = fgDrop sh 2; simp only [fgDrop, if_neg (show ¬ (2 : Nat) = 4 by decide), if_neg (show ¬ (sh 2 1 0) = (-1) from c7), if_pos trivial])⟩
    · refine g_bipush hE dX4_drop_20 (-11) (by decide) ?_
      exact g_iret hE hQ dX4_drop_22 rfl (2, (-11), sh) rfl rfl ⟨h2, (by show ((-11), sh) = fgDrop sh 2; simp only [fgDrop, if_neg (show ¬ (2 : Nat) = 4 by decide), if_pos (show (sh 2 1 0) = (-1) from c7), if_pos trivial])⟩
  · show Go E Q 4 0 0 5 [(0, .ref (a 0)), (1, .int x)] [.ref (a 43)] (loftW cI cS a m v w (seS T C li ap va le) (tpS B L P F) sh kf)
    refine g_astore_n hE dX4_drop_5 [(2, .ref (a 43)), (0, .ref (a 0)), (1, .int x)] rfl (by decide) rfl ?_
    refine g_aload_n hE dX4_drop_6 0 rfl ?_
    refine g_ifnonnull hE 12 dX4_drop_7 (by decide) ?_
    refine g_aload_n hE dX4_drop_12 0 rfl ?_
    refine g_get hE fl_X4_247 dX4_drop_13 43 rfl rfl ?_
    refine g_iconst hE dX4_drop_16 (-1) (by decide) ?_
    refine g_icmp_ne hE 23 dX4_drop_17 (by decide) (fun c9 => ?_) (fun c9 => ?_)
    · refine g_aload_n hE dX4_drop_23 0 rfl ?_
      refine g_get hE fl_X4_250 dX4_drop_24 43 rfl rfl ?_
      refine g_istore_n hE dX4_drop_27 [(3, .int (sh 3 1 1)), (2, .ref (a 43)), (0, .ref (a 0)), (1, .int x)] rfl (by decide) rfl ?_
      refine g_aload_n hE dX4_drop_28 1 rfl ?_
      refine g_iconst hE dX4_drop_29 (-1) (by decide) ?_
      refine g_iconst hE dX4_drop_30 0 (by decide) ?_
      refine g_callV hE (c_X2_renew cI cS (fun i => a (i + 43)) (sh 3 0) (sh 3 1 0) (sh 3 1 1) (-1) 0) mk_X2_renew mv_X2_renew ml_X4_244 dX4_drop_31 (As := [.int (-1), .int 0]) (rest := []) rfl rfl 43 rfl (show vwCl[2]? = some (RX2, TX2, 3) from rfl) (by decide) (by decide) (Nat.le_of_ble_eq_true rfl) (by decide) (by decide) [43, 44] rfl (by decide) (fun u => Nat.le_of_ble_eq_true rfl) (ws' := fun u => loftW cI cS a m v w (seS T C li ap va le) (tpS B L P F) (pA sh 3 (shT (fun _ => 0) (-1) (if 24 < 0 then 24 else 0))) kf) (fun u => rfl) (fun u hu => ?_)
      show Go E Q 4 0 0 34 [(3, .int (sh 3 1 1)), (2, .ref (a 43)), (0, .ref (a 0)), (1, .int x)] [] (loftW cI cS a m v w (seS T C li ap va le) (tpS B L P F) (pA sh 3 (shT (fun _ => 0) (-1) (if 24 < 0 then 24 else 0))) kf)
      refine g_iload_n hE dX4_drop_34 0 rfl ?_
      exact g_iret hE hQ dX4_drop_35 rfl (3, (sh 3 1 1), (pA sh 3 (shT (fun _ => 0) (-1) (if 24 < 0 then 24 else 0)))) rfl rfl ⟨h2, (by show ((sh 3 1 1), (pA sh 3 (shT (fun _ => 0) (-1) (if 24 < 0 then 24 else 0)))) = fgDrop sh 3; simp only [fgDrop, if_neg (show ¬ (3 : Nat) = 4 by decide), if_neg (show ¬ (sh 3 1 0) = (-1) from c9), if_pos trivial])⟩
    · refine g_bipush hE dX4_drop_20 (-11) (by decide) ?_
      exact g_iret hE hQ dX4_drop_22 rfl (3, (-11), sh) rfl rfl ⟨h2, (by show ((-11), sh) = fgDrop sh 3; simp only [fgDrop, if_neg (show ¬ (3 : Nat) = 4 by decide), if_pos (show (sh 3 1 0) = (-1) from c9), if_pos trivial])⟩
  · show Go E Q 4 0 0 5 [(0, .ref (a 0)), (1, .int x)] [.null] (loftW cI cS a m v w (seS T C li ap va le) (tpS B L P F) sh kf)
    refine g_astore_nN hE dX4_drop_5 [(2, .null), (0, .ref (a 0)), (1, .int x)] rfl (by decide) rfl ?_
    refine g_aload_nN hE dX4_drop_6 0 rfl ?_
    refine g_ifnonnullN hE dX4_drop_7 ?_
    refine g_iconst hE dX4_drop_10 (-1) (by decide) ?_
    exact g_iret hE hQ dX4_drop_11 rfl (4, (-1), sh) rfl rfl ⟨h2, (by show ((-1), sh) = fgDrop sh 4; simp only [fgDrop, if_pos (show (4 : Nat) = 4 by decide), if_pos trivial])⟩
set_option maxHeartbeats 4000000 in
set_option maxRecDepth 100000 in
theorem c_X4_item (cI cS : ClassId) (a : Nat → Nat) (m v w : Nat → Nat → Int32) (T C : Nat → Int32) (li ap va le : Int32) (B : Nat → Int32) (L P : Nat) (F : Int32) (sh : Nat → Nat → Nat → Int32) (kf : Int32) {n sv pl n1 sv1 pl1 n2 sv2 pl2 : Nat} (hM : MW m n sv pl) (hV : MW v n1 sv1 pl1) (hW : MW w n2 sv2 pl2) (hL : L ≤ 120) (x l i v0 : Int32) : CT cI cS yX4_item cX4_item 7 (some .int) 2 [.ref (a 0), .int x, .int l, .int i, .int v0] (loftW cI cS a m v w (seS T C li ap va le) (tpS B L P F) sh kf) 0 0 (fun u : Nat × Int32 × (Nat → Nat → Nat → Int32) => SK u.1 x ∧ (u.2.1, u.2.2) = fgItem sh u.1 l i v0) (fun u => some (.int u.2.1)) (fun u => (loftW cI cS a m v w (seS T C li ap va le) (tpS B L P F) u.2.2 kf)) := by
  refine ct_intro (by decide) (Nat.le_of_ble_eq_true rfl) (fun E Q hE hQ hI => ?_)
  have hE : CxOk E cI cS RX4 cX4_item 7 (some .int) 2 0 0 := hE
  show Go E Q 7 0 0 0 [(0, .ref (a 0)), (1, .int x), (2, .int l), (3, .int i), (4, .int v0)] [] (loftW cI cS a m v w (seS T C li ap va le) (tpS B L P F) sh kf)
  have hn := hM.1
  have hn6 := hM.2.1
  have hsv := hM.2.2.1
  have hsv8 := hM.2.2.2.1
  have hpl := hM.2.2.2.2.1
  have hpl6 := hM.2.2.2.2.2
  have hn1 := hV.1
  have hn16 := hV.2.1
  have hsv1 := hV.2.2.1
  have hsv18 := hV.2.2.2.1
  have hpl1 := hV.2.2.2.2.1
  have hpl16 := hV.2.2.2.2.2
  refine g_aload_n hE dX4_item_0 0 rfl ?_
  refine g_iload_n hE dX4_item_1 1 rfl ?_
  refine g_callV hE (c_X4_sheetAt cI cS a m v w T C li ap va le B L P F sh kf (by first | assumption | exact mw_of (by assumption)) (by first | assumption | exact mw_of (by assumption)) (by first | assumption | exact mw_of (by assumption)) hL x) mk_X4_sheetAt mv_X4_sheetAt ml_X4_221 dX4_item_2 (As := [.int x]) (rest := []) rfl rfl 0 rfl (show vwCl[4]? = some (RX4, TX4, 7) from rfl) (by decide) (by decide) (Nat.le_of_ble_eq_true rfl) (by decide) (by decide) [0, 1, 2, 3, 4, 5, 6, 7, 8, 9, 10, 11, 12, 13, 14, 15, 16, 17, 18, 19, 20, 21, 22, 23, 24, 25, 26, 27, 28, 29, 30, 31, 32, 33, 34, 35, 36, 37, 38, 39, 40, 41, 42, 43, 44] rfl (by decide) (fun u => Nat.le_of_ble_eq_true rfl) (ws' := fun u => loftW cI cS a m v w (seS T C li ap va le) (tpS B L P F) sh kf) (fun u => rfl) (fun u hu => ?_)
  obtain ⟨k_1, rfl⟩ : ∃ z, z = u := ⟨_, rfl⟩
  have h2 : SK k_1 x := hu
  rcases (show k_1 = 0 ∨ k_1 = 1 ∨ k_1 = 2 ∨ k_1 = 3 ∨ k_1 = 4 by rcases h2 with q | q <;> omega) with rfl | rfl | rfl | rfl | rfl
  · show Go E Q 7 0 0 5 [(0, .ref (a 0)), (1, .int x), (2, .int l), (3, .int i), (4, .int v0)] [.ref (a 37)] (loftW cI cS a m v w (seS T C li ap va le) (tpS B L P F) sh kf)
    refine g_astore hE dX4_item_5 [(5, .ref (a 37)), (0, .ref (a 0)), (1, .int x), (2, .int l), (3, .int i), (4, .int v0)] (by decide) rfl ?_
    refine g_aload hE dX4_item_7 0 rfl ?_
    refine g_ifnull hE dX4_item_9 ?_
    refine g_iload_n hE dX4_item_12 3 rfl ?_
    refine g_callS hE (c_X4_isLane cI cS l) mk_X4_isLane st_X4_isLane ml_X4_225 dX4_item_13 (As := [.int l]) (rest := []) rfl rfl (by decide) (by decide) (Nat.le_of_ble_eq_true rfl) (by decide) (by decide) [] rfl (by decide) (fun u => Nat.le_of_ble_eq_true rfl) (ws' := fun u => loftW cI cS a m v w (seS T C li ap va le) (tpS B L P F) sh kf) (fun u => rfl) (fun u hu => ?_)
    obtain ⟨r_3, rfl⟩ : ∃ z, z = u := ⟨_, rfl⟩
    have h4 : r_3 = if 0 ≤ l ∧ l ≤ 2 then 1 else 0 := hu
    by_cases c5 : 0 ≤ l ∧ l ≤ 2
    · rw [if_pos c5] at h4
      subst h4
      show Go E Q 7 0 0 16 [(5, .ref (a 37)), (0, .ref (a 0)), (1, .int x), (2, .int l), (3, .int i), (4, .int v0)] [.int 1] (loftW cI cS a m v w (seS T C li ap va le) (tpS B L P F) sh kf)
      refine g_if_ne hE 21 dX4_item_16 (by decide) (fun c6 => ?_) (fun c6 => absurd c6 (by decide))
      refine g_aload hE dX4_item_21 0 rfl ?_
      refine g_iload_n hE dX4_item_23 3 rfl ?_
      refine g_iload_n hE dX4_item_24 4 rfl ?_
      refine g_iconst hE dX4_item_25 1 (by decide) ?_
      refine g_callV hE (c_X2_refusal cI cS (fun i => a (i + 37)) (sh 0 0) (sh 0 1 0) (sh 0 1 1) l i 1) mk_X2_refusal mv_X2_refusal ml_X4_233 dX4_item_26 (As := [.int l, .int i, .int 1]) (rest := []) rfl rfl 37 rfl (show vwCl[2]? = some (RX2, TX2, 3) from rfl) (by decide) (by decide) (Nat.le_of_ble_eq_true rfl) (by decide) (by decide) [37, 38] rfl (by decide) (fun u => Nat.le_of_ble_eq_true rfl) (ws' := fun u => loftW cI cS a m v w (seS T C li ap va le) (tpS B L P F) sh kf) (fun u => rfl) (fun u hu => ?_)
      obtain ⟨r_7, rfl⟩ : ∃ z, z = u := ⟨_, rfl⟩
      have h8 : r_7 = (refS (sh 0 1 0) (sh 0 1 1) l i 1) := hu
      subst h8
      show Go E Q 7 0 0 29 [(5, .ref (a 37)), (0, .ref (a 0)), (1, .int x), (2, .int l), (3, .int i), (4, .int v0)] [.int (refS (sh 0 1 0) (sh 0 1 1) l i 1)] (loftW cI cS a m v w (seS T C li ap va le) (tpS B L P F) sh kf)
      refine g_istore hE dX4_item_29 [(6, .int (refS (sh 0 1 0) (sh 0 1 1) l i 1)), (5, .ref (a 37)), (0, .ref (a 0)), (1, .int x), (2, .int l), (3, .int i), (4, .int v0)] (by decide) rfl ?_
      refine g_iload hE dX4_item_31 0 rfl ?_
      refine g_if_eq hE 39 dX4_item_33 (by decide) (fun c9 => ?_) (fun c9 => ?_)
      · refine g_aload hE dX4_item_39 1 rfl ?_
        refine g_iload_n hE dX4_item_41 5 rfl ?_
        refine g_iload hE dX4_item_42 6 rfl ?_
        refine g_callV hE (c_X2_write cI cS (fun i => a (i + 37)) (sh 0 0) (sh 0 1 0) (sh 0 1 1) i v0) mk_X2_write mv_X2_write ml_X4_251 dX4_item_44 (As := [.int i, .int v0]) (rest := []) rfl rfl 37 rfl (show vwCl[2]? = some (RX2, TX2, 3) from rfl) (by decide) (by decide) (Nat.le_of_ble_eq_true rfl) (by decide) (by decide) [37, 38] rfl (by decide) (fun u => Nat.le_of_ble_eq_true rfl) (ws' := fun u => loftW cI cS a m v w (seS T C li ap va le) (tpS B L P F) (pA sh 0 (shT (putv (sh 0 0) 24 i (lnS (sh 0 1 0) v0)) (sh 0 1 0) (sh 0 1 1))) kf) (fun u => rfl) (fun u hu => ?_)
        show Go E Q 7 0 0 47 [(6, .int (refS (sh 0 1 0) (sh 0 1 1) l i 1)), (5, .ref (a 37)), (0, .ref (a 0)), (1, .int x), (2, .int l), (3, .int i), (4, .int v0)] [] (loftW cI cS a m v w (seS T C li ap va le) (tpS B L P F) (pA sh 0 (shT (putv (sh 0 0) 24 i (lnS (sh 0 1 0) v0)) (sh 0 1 0) (sh 0 1 1))) kf)
        refine g_iconst hE dX4_item_47 1 (by decide) ?_
        exact g_iret hE hQ dX4_item_48 rfl (0, 1, (pA sh 0 (shT (putv (sh 0 0) 24 i (lnS (sh 0 1 0) v0)) (sh 0 1 0) (sh 0 1 1)))) rfl rfl ⟨h2, (by show (1, (pA sh 0 (shT (putv (sh 0 0) 24 i (lnS (sh 0 1 0) v0)) (sh 0 1 0) (sh 0 1 1)))) = fgItem sh 0 l i v0; simp only [fgItem, if_neg (show ¬ (0 : Nat) = 4 by decide), if_pos c5, if_pos (show (refS (sh 0 1 0) (sh 0 1 1) l i 1) = 0 from c9), if_pos trivial])⟩
      · refine g_iload hE dX4_item_36 0 rfl ?_
        exact g_iret hE hQ dX4_item_38 rfl (0, (refS (sh 0 1 0) (sh 0 1 1) l i 1), sh) rfl rfl ⟨h2, (by show ((refS (sh 0 1 0) (sh 0 1 1) l i 1), sh) = fgItem sh 0 l i v0; simp only [fgItem, if_neg (show ¬ (0 : Nat) = 4 by decide), if_pos c5, if_neg (show ¬ (refS (sh 0 1 0) (sh 0 1 1) l i 1) = 0 from c9), if_pos trivial])⟩
    · rw [if_neg c5] at h4
      subst h4
      show Go E Q 7 0 0 16 [(5, .ref (a 37)), (0, .ref (a 0)), (1, .int x), (2, .int l), (3, .int i), (4, .int v0)] [.int 0] (loftW cI cS a m v w (seS T C li ap va le) (tpS B L P F) sh kf)
      refine g_if_ne hE 21 dX4_item_16 (by decide) (fun c11 => absurd (by decide) c11) (fun c11 => ?_)
      refine g_iconst hE dX4_item_19 (-1) (by decide) ?_
      exact g_iret hE hQ dX4_item_20 rfl (0, (-1), sh) rfl rfl ⟨h2, (by show ((-1), sh) = fgItem sh 0 l i v0; simp only [fgItem, if_neg (show ¬ (0 : Nat) = 4 by decide), if_neg c5, if_pos trivial])⟩
  · show Go E Q 7 0 0 5 [(0, .ref (a 0)), (1, .int x), (2, .int l), (3, .int i), (4, .int v0)] [.ref (a 39)] (loftW cI cS a m v w (seS T C li ap va le) (tpS B L P F) sh kf)
    refine g_astore hE dX4_item_5 [(5, .ref (a 39)), (0, .ref (a 0)), (1, .int x), (2, .int l), (3, .int i), (4, .int v0)] (by decide) rfl ?_
    refine g_aload hE dX4_item_7 0 rfl ?_
    refine g_ifnull hE dX4_item_9 ?_
    refine g_iload_n hE dX4_item_12 3 rfl ?_
    refine g_callS hE (c_X4_isLane cI cS l) mk_X4_isLane st_X4_isLane ml_X4_225 dX4_item_13 (As := [.int l]) (rest := []) rfl rfl (by decide) (by decide) (Nat.le_of_ble_eq_true rfl) (by decide) (by decide) [] rfl (by decide) (fun u => Nat.le_of_ble_eq_true rfl) (ws' := fun u => loftW cI cS a m v w (seS T C li ap va le) (tpS B L P F) sh kf) (fun u => rfl) (fun u hu => ?_)
    obtain ⟨r_12, rfl⟩ : ∃ z, z = u := ⟨_, rfl⟩
    have h13 : r_12 = if 0 ≤ l ∧ l ≤ 2 then 1 else 0 := hu
    by_cases c14 : 0 ≤ l ∧ l ≤ 2
    · rw [if_pos c14] at h13
      subst h13
      show Go E Q 7 0 0 16 [(5, .ref (a 39)), (0, .ref (a 0)), (1, .int x), (2, .int l), (3, .int i), (4, .int v0)] [.int 1] (loftW cI cS a m v w (seS T C li ap va le) (tpS B L P F) sh kf)
      refine g_if_ne hE 21 dX4_item_16 (by decide) (fun c15 => ?_) (fun c15 => absurd c15 (by decide))
      refine g_aload hE dX4_item_21 0 rfl ?_
      refine g_iload_n hE dX4_item_23 3 rfl ?_
      refine g_iload_n hE dX4_item_24 4 rfl ?_
      refine g_iconst hE dX4_item_25 1 (by decide) ?_
      refine g_callV hE (c_X2_refusal cI cS (fun i => a (i + 39)) (sh 1 0) (sh 1 1 0) (sh 1 1 1) l i 1) mk_X2_refusal mv_X2_refusal ml_X4_233 dX4_item_26 (As := [.int l, .int i, .int 1]) (rest := []) rfl rfl 39 rfl (show vwCl[2]? = some (RX2, TX2, 3) from rfl) (by decide) (by decide) (Nat.le_of_ble_eq_true rfl) (by decide) (by decide) [39, 40] rfl (by decide) (fun u => Nat.le_of_ble_eq_true rfl) (ws' := fun u => loftW cI cS a m v w (seS T C li ap va le) (tpS B L P F) sh kf) (fun u => rfl) (fun u hu => ?_)
      obtain ⟨r_16, rfl⟩ : ∃ z, z = u := ⟨_, rfl⟩
      have h17 : r_16 = (refS (sh 1 1 0) (sh 1 1 1) l i 1) := hu
      subst h17
      show Go E Q 7 0 0 29 [(5, .ref (a 39)), (0, .ref (a 0)), (1, .int x), (2, .int l), (3, .int i), (4, .int v0)] [.int (refS (sh 1 1 0) (sh 1 1 1) l i 1)] (loftW cI cS a m v w (seS T C li ap va le) (tpS B L P F) sh kf)
      refine g_istore hE dX4_item_29 [(6, .int (refS (sh 1 1 0) (sh 1 1 1) l i 1)), (5, .ref (a 39)), (0, .ref (a 0)), (1, .int x), (2, .int l), (3, .int i), (4, .int v0)] (by decide) rfl ?_
      refine g_iload hE dX4_item_31 0 rfl ?_
      refine g_if_eq hE 39 dX4_item_33 (by decide) (fun c18 => ?_) (fun c18 => ?_)
      · refine g_aload hE dX4_item_39 1 rfl ?_
        refine g_iload_n hE dX4_item_41 5 rfl ?_
        refine g_iload hE dX4_item_42 6 rfl ?_
        refine g_callV hE (c_X2_write cI cS (fun i => a (i + 39)) (sh 1 0) (sh 1 1 0) (sh 1 1 1) i v0) mk_X2_write mv_X2_write ml_X4_251 dX4_item_44 (As := [.int i, .int v0]) (rest := []) rfl rfl 39 rfl (show vwCl[2]? = some (RX2, TX2, 3) from rfl) (by decide) (by decide) (Nat.le_of_ble_eq_true rfl) (by decide) (by decide) [39, 40] rfl (by decide) (fun u => Nat.le_of_ble_eq_true rfl) (ws' := fun u => loftW cI cS a m v w (seS T C li ap va le) (tpS B L P F) (pA sh 1 (shT (putv (sh 1 0) 24 i (lnS (sh 1 1 0) v0)) (sh 1 1 0) (sh 1 1 1))) kf) (fun u => rfl) (fun u hu => ?_)
        show Go E Q 7 0 0 47 [(6, .int (refS (sh 1 1 0) (sh 1 1 1) l i 1)), (5, .ref (a 39)), (0, .ref (a 0)), (1, .int x), (2, .int l), (3, .int i), (4, .int v0)] [] (loftW cI cS a m v w (seS T C li ap va le) (tpS B L P F) (pA sh 1 (shT (putv (sh 1 0) 24 i (lnS (sh 1 1 0) v0)) (sh 1 1 0) (sh 1 1 1))) kf)
        refine g_iconst hE dX4_item_47 1 (by decide) ?_
        exact g_iret hE hQ dX4_item_48 rfl (1, 1, (pA sh 1 (shT (putv (sh 1 0) 24 i (lnS (sh 1 1 0) v0)) (sh 1 1 0) (sh 1 1 1)))) rfl rfl ⟨h2, (by show (1, (pA sh 1 (shT (putv (sh 1 0) 24 i (lnS (sh 1 1 0) v0)) (sh 1 1 0) (sh 1 1 1)))) = fgItem sh 1 l i v0; simp only [fgItem, if_neg (show ¬ (1 : Nat) = 4 by decide), if_pos c14, if_pos (show (refS (sh 1 1 0) (sh 1 1 1) l i 1) = 0 from c18), if_pos trivial])⟩
      · refine g_iload hE dX4_item_36 0 rfl ?_
        exact g_iret hE hQ dX4_item_38 rfl (1, (refS (sh 1 1 0) (sh 1 1 1) l i 1), sh) rfl rfl ⟨h2, (by show ((refS (sh 1 1 0) (sh 1 1 1) l i 1), sh) = fgItem sh 1 l i v0; simp only [fgItem, if_neg (show ¬ (1 : Nat) = 4 by decide), if_pos c14, if_neg (show ¬ (refS (sh 1 1 0) (sh 1 1 1) l i 1) = 0 from c18), if_pos trivial])⟩
    · rw [if_neg c14] at h13
      subst h13
      show Go E Q 7 0 0 16 [(5, .ref (a 39)), (0, .ref (a 0)), (1, .int x), (2, .int l), (3, .int i), (4, .int v0)] [.int 0] (loftW cI cS a m v w (seS T C li ap va le) (tpS B L P F) sh kf)
      refine g_if_ne hE 21 dX4_item_16 (by decide) (fun c20 => absurd (by decide) c20) (fun c20 => ?_)
      refine g_iconst hE dX4_item_19 (-1) (by decide) ?_
      exact g_iret hE hQ dX4_item_20 rfl (1, (-1), sh) rfl rfl ⟨h2, (by show ((-1), sh) = fgItem sh 1 l i v0; simp only [fgItem, if_neg (show ¬ (1 : Nat) = 4 by decide), if_neg c14, if_pos trivial])⟩
  · show Go E Q 7 0 0 5 [(0, .ref (a 0)), (1, .int x), (2, .int l), (3, .int i), (4, .int v0)] [.ref (a 41)] (loftW cI cS a m v w (seS T C li ap va le) (tpS B L P F) sh kf)
    refine g_astore hE dX4_item_5 [(5, .ref (a 41)), (0, .ref (a 0)), (1, .int x), (2, .int l), (3, .int i), (4, .int v0)] (by decide) rfl ?_
    refine g_aload hE dX4_item_7 0 rfl ?_
    refine g_ifnull hE dX4_item_9 ?_
    refine g_iload_n hE dX4_item_12 3 rfl ?_
    refine g_callS hE (c_X4_isLane cI cS l) mk_X4_isLane st_X4_isLane ml_X4_225 dX4_item_13 (As := [.int l]) (rest := []) rfl rfl (by decide) (by decide) (Nat.le_of_ble_eq_true rfl) (by decide) (by decide) [] rfl (by decide) (fun u => Nat.le_of_ble_eq_true rfl) (ws' := fun u => loftW cI cS a m v w (seS T C li ap va le) (tpS B L P F) sh kf) (fun u => rfl) (fun u hu => ?_)
    obtain ⟨r_21, rfl⟩ : ∃ z, z = u := ⟨_, rfl⟩
    have h22 : r_21 = if 0 ≤ l ∧ l ≤ 2 then 1 else 0 := hu
    by_cases c23 : 0 ≤ l ∧ l ≤ 2
    · rw [if_pos c23] at h22
      subst h22
      show Go E Q 7 0 0 16 [(5, .ref (a 41)), (0, .ref (a 0)), (1, .int x), (2, .int l), (3, .int i), (4, .int v0)] [.int 1] (loftW cI cS a m v w (seS T C li ap va le) (tpS B L P F) sh kf)
      refine g_if_ne hE 21 dX4_item_16 (by decide) (fun c24 => ?_) (fun c24 => absurd c24 (by decide))
      refine g_aload hE dX4_item_21 0 rfl ?_
      refine g_iload_n hE dX4_item_23 3 rfl ?_
      refine g_iload_n hE dX4_item_24 4 rfl ?_
      refine g_iconst hE dX4_item_25 1 (by decide) ?_
      refine g_callV hE (c_X2_refusal cI cS (fun i => a (i + 41)) (sh 2 0) (sh 2 1 0) (sh 2 1 1) l i 1) mk_X2_refusal mv_X2_refusal ml_X4_233 dX4_item_26 (As := [.int l, .int i, .int 1]) (rest := []) rfl rfl 41 rfl (show vwCl[2]? = some (RX2, TX2, 3) from rfl) (by decide) (by decide) (Nat.le_of_ble_eq_true rfl) (by decide) (by decide) [41, 42] rfl (by decide) (fun u => Nat.le_of_ble_eq_true rfl) (ws' := fun u => loftW cI cS a m v w (seS T C li ap va le) (tpS B L P F) sh kf) (fun u => rfl) (fun u hu => ?_)
      obtain ⟨r_25, rfl⟩ : ∃ z, z = u := ⟨_, rfl⟩
      have h26 : r_25 = (refS (sh 2 1 0) (sh 2 1 1) l i 1) := hu
      subst h26
      show Go E Q 7 0 0 29 [(5, .ref (a 41)), (0, .ref (a 0)), (1, .int x), (2, .int l), (3, .int i), (4, .int v0)] [.int (refS (sh 2 1 0) (sh 2 1 1) l i 1)] (loftW cI cS a m v w (seS T C li ap va le) (tpS B L P F) sh kf)
      refine g_istore hE dX4_item_29 [(6, .int (refS (sh 2 1 0) (sh 2 1 1) l i 1)), (5, .ref (a 41)), (0, .ref (a 0)), (1, .int x), (2, .int l), (3, .int i), (4, .int v0)] (by decide) rfl ?_
      refine g_iload hE dX4_item_31 0 rfl ?_
      refine g_if_eq hE 39 dX4_item_33 (by decide) (fun c27 => ?_) (fun c27 => ?_)
      · refine g_aload hE dX4_item_39 1 rfl ?_
        refine g_iload_n hE dX4_item_41 5 rfl ?_
        refine g_iload hE dX4_item_42 6 rfl ?_
        refine g_callV hE (c_X2_write cI cS (fun i => a (i + 41)) (sh 2 0) (sh 2 1 0) (sh 2 1 1) i v0) mk_X2_write mv_X2_write ml_X4_251 dX4_item_44 (As := [.int i, .int v0]) (rest := []) rfl rfl 41 rfl (show vwCl[2]? = some (RX2, TX2, 3) from rfl) (by decide) (by decide) (Nat.le_of_ble_eq_true rfl) (by decide) (by decide) [41, 42] rfl (by decide) (fun u => Nat.le_of_ble_eq_true rfl) (ws' := fun u => loftW cI cS a m v w (seS T C li ap va le) (tpS B L P F) (pA sh 2 (shT (putv (sh 2 0) 24 i (lnS (sh 2 1 0) v0)) (sh 2 1 0) (sh 2 1 1))) kf) (fun u => rfl) (fun u hu => ?_)
        show Go E Q 7 0 0 47 [(6, .int (refS (sh 2 1 0) (sh 2 1 1) l i 1)), (5, .ref (a 41)), (0, .ref (a 0)), (1, .int x), (2, .int l), (3, .int i), (4, .int v0)] [] (loftW cI cS a m v w (seS T C li ap va le) (tpS B L P F) (pA sh 2 (shT (putv (sh 2 0) 24 i (lnS (sh 2 1 0) v0)) (sh 2 1 0) (sh 2 1 1))) kf)
        refine g_iconst hE dX4_item_47 1 (by decide) ?_
        exact g_iret hE hQ dX4_item_48 rfl (2, 1, (pA sh 2 (shT (putv (sh 2 0) 24 i (lnS (sh 2 1 0) v0)) (sh 2 1 0) (sh 2 1 1)))) rfl rfl ⟨h2, (by show (1, (pA sh 2 (shT (putv (sh 2 0) 24 i (lnS (sh 2 1 0) v0)) (sh 2 1 0) (sh 2 1 1)))) = fgItem sh 2 l i v0; simp only [fgItem, if_neg (show ¬ (2 : Nat) = 4 by decide), if_pos c23, if_pos (show (refS (sh 2 1 0) (sh 2 1 1) l i 1) = 0 from c27), if_pos trivial])⟩
      · refine g_iload hE dX4_item_36 0 rfl ?_
        exact g_iret hE hQ dX4_item_38 rfl (2, (refS (sh 2 1 0) (sh 2 1 1) l i 1), sh) rfl rfl ⟨h2, (by show ((refS (sh 2 1 0) (sh 2 1 1) l i 1), sh) = fgItem sh 2 l i v0; simp only [fgItem, if_neg (show ¬ (2 : Nat) = 4 by decide), if_pos c23, if_neg (show ¬ (refS (sh 2 1 0) (sh 2 1 1) l i 1) = 0 from c27), if_pos trivial])⟩
    · rw [if_neg c23] at h22
      subst h22
      show Go E Q 7 0 0 16 [(5, .ref (a 41)), (0, .ref (a 0)), (1, .int x), (2, .int l), (3, .int i), (4, .int v0)] [.int 0] (loftW cI cS a m v w (seS T C li ap va le) (tpS B L P F) sh kf)
      refine g_if_ne hE 21 dX4_item_16 (by decide) (fun c29 => absurd (by decide) c29) (fun c29 => ?_)
      refine g_iconst hE dX4_item_19 (-1) (by decide) ?_
      exact g_iret hE hQ dX4_item_20 rfl (2, (-1), sh) rfl rfl ⟨h2, (by show ((-1), sh) = fgItem sh 2 l i v0; simp only [fgItem, if_neg (show ¬ (2 : Nat) = 4 by decide), if_neg c23, if_pos trivial])⟩
  · show Go E Q 7 0 0 5 [(0, .ref (a 0)), (1, .int x), (2, .int l), (3, .int i), (4, .int v0)] [.ref (a 43)] (loftW cI cS a m v w (seS T C li ap va le) (tpS B L P F) sh kf)
    refine g_astore hE dX4_item_5 [(5, .ref (a 43)), (0, .ref (a 0)), (1, .int x), (2, .int l), (3, .int i), (4, .int v0)] (by decide) rfl ?_
    refine g_aload hE dX4_item_7 0 rfl ?_
    refine g_ifnull hE dX4_item_9 ?_
    refine g_iload_n hE dX4_item_12 3 rfl ?_
    refine g_callS hE (c_X4_isLane cI cS l) mk_X4_isLane st_X4_isLane ml_X4_225 dX4_item_13 (As := [.int l]) (rest := []) rfl rfl (by decide) (by decide) (Nat.le_of_ble_eq_true rfl) (by decide) (by decide) [] rfl (by decide) (fun u => Nat.le_of_ble_eq_true rfl) (ws' := fun u => loftW cI cS a m v w (seS T C li ap va le) (tpS B L P F) sh kf) (fun u => rfl) (fun u hu => ?_)
    obtain ⟨r_30, rfl⟩ : ∃ z, z = u := ⟨_, rfl⟩
    have h31 : r_30 = if 0 ≤ l ∧ l ≤ 2 then 1 else 0 := hu
    by_cases c32 : 0 ≤ l ∧ l ≤ 2
    · rw [if_pos c32] at h31
      subst h31
      show Go E Q 7 0 0 16 [(5, .ref (a 43)), (0, .ref (a 0)), (1, .int x), (2, .int l), (3, .int i), (4, .int v0)] [.int 1] (loftW cI cS a m v w (seS T C li ap va le) (tpS B L P F) sh kf)
      refine g_if_ne hE 21 dX4_item_16 (by decide) (fun c33 => ?_) (fun c33 => absurd c33 (by decide))
      refine g_aload hE dX4_item_21 0 rfl ?_
      refine g_iload_n hE dX4_item_23 3 rfl ?_
      refine g_iload_n hE dX4_item_24 4 rfl ?_
      refine g_iconst hE dX4_item_25 1 (by decide) ?_
      refine g_callV hE (c_X2_refusal cI cS (fun i => a (i + 43)) (sh 3 0) (sh 3 1 0) (sh 3 1 1) l i 1) mk_X2_refusal mv_X2_refusal ml_X4_233 dX4_item_26 (As := [.int l, .int i, .int 1]) (rest := []) rfl rfl 43 rfl (show vwCl[2]? = some (RX2, TX2, 3) from rfl) (by decide) (by decide) (Nat.le_of_ble_eq_true rfl) (by decide) (by decide) [43, 44] rfl (by decide) (fun u => Nat.le_of_ble_eq_true rfl) (ws' := fun u => loftW cI cS a m v w (seS T C li ap va le) (tpS B L P F) sh kf) (fun u => rfl) (fun u hu => ?_)
      obtain ⟨r_34, rfl⟩ : ∃ z, z = u := ⟨_, rfl⟩
      have h35 : r_34 = (refS (sh 3 1 0) (sh 3 1 1) l i 1) := hu
      subst h35
      show Go E Q 7 0 0 29 [(5, .ref (a 43)), (0, .ref (a 0)), (1, .int x), (2, .int l), (3, .int i), (4, .int v0)] [.int (refS (sh 3 1 0) (sh 3 1 1) l i 1)] (loftW cI cS a m v w (seS T C li ap va le) (tpS B L P F) sh kf)
      refine g_istore hE dX4_item_29 [(6, .int (refS (sh 3 1 0) (sh 3 1 1) l i 1)), (5, .ref (a 43)), (0, .ref (a 0)), (1, .int x), (2, .int l), (3, .int i), (4, .int v0)] (by decide) rfl ?_
      refine g_iload hE dX4_item_31 0 rfl ?_
      refine g_if_eq hE 39 dX4_item_33 (by decide) (fun c36 => ?_) (fun c36 => ?_)
      · refine g_aload hE dX4_item_39 1 rfl ?_
        refine g_iload_n hE dX4_item_41 5 rfl ?_
        refine g_iload hE dX4_item_42 6 rfl ?_
        refine g_callV hE (c_X2_write cI cS (fun i => a (i + 43)) (sh 3 0) (sh 3 1 0) (sh 3 1 1) i v0) mk_X2_write mv_X2_write ml_X4_251 dX4_item_44 (As := [.int i, .int v0]) (rest := []) rfl rfl 43 rfl (show vwCl[2]? = some (RX2, TX2, 3) from rfl) (by decide) (by decide) (Nat.le_of_ble_eq_true rfl) (by decide) (by decide) [43, 44] rfl (by decide) (fun u => Nat.le_of_ble_eq_true rfl) (ws' := fun u => loftW cI cS a m v w (seS T C li ap va le) (tpS B L P F) (pA sh 3 (shT (putv (sh 3 0) 24 i (lnS (sh 3 1 0) v0)) (sh 3 1 0) (sh 3 1 1))) kf) (fun u => rfl) (fun u hu => ?_)
        show Go E Q 7 0 0 47 [(6, .int (refS (sh 3 1 0) (sh 3 1 1) l i 1)), (5, .ref (a 43)), (0, .ref (a 0)), (1, .int x), (2, .int l), (3, .int i), (4, .int v0)] [] (loftW cI cS a m v w (seS T C li ap va le) (tpS B L P F) (pA sh 3 (shT (putv (sh 3 0) 24 i (lnS (sh 3 1 0) v0)) (sh 3 1 0) (sh 3 1 1))) kf)
        refine g_iconst hE dX4_item_47 1 (by decide) ?_
        exact g_iret hE hQ dX4_item_48 rfl (3, 1, (pA sh 3 (shT (putv (sh 3 0) 24 i (lnS (sh 3 1 0) v0)) (sh 3 1 0) (sh 3 1 1)))) rfl rfl ⟨h2, (by show (1, (pA sh 3 (shT (putv (sh 3 0) 24 i (lnS (sh 3 1 0) v0)) (sh 3 1 0) (sh 3 1 1)))) = fgItem sh 3 l i v0; simp only [fgItem, if_neg (show ¬ (3 : Nat) = 4 by decide), if_pos c32, if_pos (show (refS (sh 3 1 0) (sh 3 1 1) l i 1) = 0 from c36), if_pos trivial])⟩
      · refine g_iload hE dX4_item_36 0 rfl ?_
        exact g_iret hE hQ dX4_item_38 rfl (3, (refS (sh 3 1 0) (sh 3 1 1) l i 1), sh) rfl rfl ⟨h2, (by show ((refS (sh 3 1 0) (sh 3 1 1) l i 1), sh) = fgItem sh 3 l i v0; simp only [fgItem, if_neg (show ¬ (3 : Nat) = 4 by decide), if_pos c32, if_neg (show ¬ (refS (sh 3 1 0) (sh 3 1 1) l i 1) = 0 from c36), if_pos trivial])⟩
    · rw [if_neg c32] at h31
      subst h31
      show Go E Q 7 0 0 16 [(5, .ref (a 43)), (0, .ref (a 0)), (1, .int x), (2, .int l), (3, .int i), (4, .int v0)] [.int 0] (loftW cI cS a m v w (seS T C li ap va le) (tpS B L P F) sh kf)
      refine g_if_ne hE 21 dX4_item_16 (by decide) (fun c38 => absurd (by decide) c38) (fun c38 => ?_)
      refine g_iconst hE dX4_item_19 (-1) (by decide) ?_
      exact g_iret hE hQ dX4_item_20 rfl (3, (-1), sh) rfl rfl ⟨h2, (by show ((-1), sh) = fgItem sh 3 l i v0; simp only [fgItem, if_neg (show ¬ (3 : Nat) = 4 by decide), if_neg c32, if_pos trivial])⟩
  · show Go E Q 7 0 0 5 [(0, .ref (a 0)), (1, .int x), (2, .int l), (3, .int i), (4, .int v0)] [.null] (loftW cI cS a m v w (seS T C li ap va le) (tpS B L P F) sh kf)
    refine g_astoreN hE dX4_item_5 [(5, .null), (0, .ref (a 0)), (1, .int x), (2, .int l), (3, .int i), (4, .int v0)] (by decide) rfl ?_
    refine g_aloadN hE dX4_item_7 0 rfl ?_
    refine g_ifnullN hE 19 dX4_item_9 (by decide) ?_
    refine g_iconst hE dX4_item_19 (-1) (by decide) ?_
    exact g_iret hE hQ dX4_item_20 rfl (4, (-1), sh) rfl rfl ⟨h2, (by show ((-1), sh) = fgItem sh 4 l i v0; simp only [fgItem, if_pos (show (4 : Nat) = 4 by decide), if_pos trivial])⟩
set_option maxHeartbeats 4000000 in
set_option maxRecDepth 100000 in
theorem c_X4_copy (cI cS : ClassId) (a : Nat → Nat) (m v w : Nat → Nat → Int32) (T C : Nat → Int32) (li ap va le : Int32) (B : Nat → Int32) (L P : Nat) (F : Int32) (sh : Nat → Nat → Nat → Int32) (kf : Int32) {n sv pl n1 sv1 pl1 n2 sv2 pl2 : Nat} (hM : MW m n sv pl) (hV : MW v n1 sv1 pl1) (hW : MW w n2 sv2 pl2) (hL : L ≤ 120) (x i y j n0 : Int32) (hsh : ∀ k, k < 4 → sh k 1 1 ≤ 24) : CT cI cS yX4_copy cX4_copy 8 (some .int) 2 [.ref (a 0), .int x, .int i, .int y, .int j, .int n0] (loftW cI cS a m v w (seS T C li ap va le) (tpS B L P F) sh kf) 0 0 (fun u : Nat × Nat × Int32 × (Nat → Nat → Nat → Int32) => SK u.1 x ∧ SK u.2.1 y ∧ (u.2.2.1, u.2.2.2) = fgCopy sh u.1 u.2.1 i j n0) (fun u => some (.int u.2.2.1)) (fun u => (loftW cI cS a m v w (seS T C li ap va le) (tpS B L P F) u.2.2.2 kf)) := by
  refine ct_intro (by decide) (Nat.le_of_ble_eq_true rfl) (fun E Q hE hQ hI => ?_)
  have hE : CxOk E cI cS RX4 cX4_copy 8 (some .int) 2 0 0 := hE
  show Go E Q 8 0 0 0 [(0, .ref (a 0)), (1, .int x), (2, .int i), (3, .int y), (4, .int j), (5, .int n0)] [] (loftW cI cS a m v w (seS T C li ap va le) (tpS B L P F) sh kf)
  have hn := hM.1
  have hn6 := hM.2.1
  have hsv := hM.2.2.1
  have hsv8 := hM.2.2.2.1
  have hpl := hM.2.2.2.2.1
  have hpl6 := hM.2.2.2.2.2
  have hn1 := hV.1
  have hn16 := hV.2.1
  have hsv1 := hV.2.2.1
  have hsv18 := hV.2.2.2.1
  have hpl1 := hV.2.2.2.2.1
  have hpl16 := hV.2.2.2.2.2
  refine g_aload_n hE dX4_copy_0 0 rfl ?_
  refine g_iload_n hE dX4_copy_1 1 rfl ?_
  refine g_callV hE (c_X4_sheetAt cI cS a m v w T C li ap va le B L P F sh kf (by first | assumption | exact mw_of (by assumption)) (by first | assumption | exact mw_of (by assumption)) (by first | assumption | exact mw_of (by assumption)) hL x) mk_X4_sheetAt mv_X4_sheetAt ml_X4_221 dX4_copy_2 (As := [.int x]) (rest := []) rfl rfl 0 rfl (show vwCl[4]? = some (RX4, TX4, 7) from rfl) (by decide) (by decide) (Nat.le_of_ble_eq_true rfl) (by decide) (by decide) [0, 1, 2, 3, 4, 5, 6, 7, 8, 9, 10, 11, 12, 13, 14, 15, 16, 17, 18, 19, 20, 21, 22, 23, 24, 25, 26, 27, 28, 29, 30, 31, 32, 33, 34, 35, 36, 37, 38, 39, 40, 41, 42, 43, 44] rfl (by decide) (fun u => Nat.le_of_ble_eq_true rfl) (ws' := fun u => loftW cI cS a m v w (seS T C li ap va le) (tpS B L P F) sh kf) (fun u => rfl) (fun u hu => ?_)
  obtain ⟨k_1, rfl⟩ : ∃ z, z = u := ⟨_, rfl⟩
  have h2 : SK k_1 x := hu
  rcases (show k_1 = 0 ∨ k_1 = 1 ∨ k_1 = 2 ∨ k_1 = 3 ∨ k_1 = 4 by rcases h2 with q | q <;> omega) with rfl | rfl | rfl | rfl | rfl
  · show Go E Q 8 0 0 5 [(0, .ref (a 0)), (1, .int x), (2, .int i), (3, .int y), (4, .int j), (5, .int n0)] [.ref (a 37)] (loftW cI cS a m v w (seS T C li ap va le) (tpS B L P F) sh kf)
    refine g_astore hE dX4_copy_5 [(6, .ref (a 37)), (0, .ref (a 0)), (1, .int x), (2, .int i), (3, .int y), (4, .int j), (5, .int n0)] (by decide) rfl ?_
    refine g_aload_n hE dX4_copy_7 1 rfl ?_
    refine g_iload_n hE dX4_copy_8 4 rfl ?_
    refine g_callV hE (c_X4_sheetAt cI cS a m v w T C li ap va le B L P F sh kf (by first | assumption | exact mw_of (by assumption)) (by first | assumption | exact mw_of (by assumption)) (by first | assumption | exact mw_of (by assumption)) hL y) mk_X4_sheetAt mv_X4_sheetAt ml_X4_221 dX4_copy_9 (As := [.int y]) (rest := []) rfl rfl 0 rfl (show vwCl[4]? = some (RX4, TX4, 7) from rfl) (by decide) (by decide) (Nat.le_of_ble_eq_true rfl) (by decide) (by decide) [0, 1, 2, 3, 4, 5, 6, 7, 8, 9, 10, 11, 12, 13, 14, 15, 16, 17, 18, 19, 20, 21, 22, 23, 24, 25, 26, 27, 28, 29, 30, 31, 32, 33, 34, 35, 36, 37, 38, 39, 40, 41, 42, 43, 44] rfl (by decide) (fun u => Nat.le_of_ble_eq_true rfl) (ws' := fun u => loftW cI cS a m v w (seS T C li ap va le) (tpS B L P F) sh kf) (fun u => rfl) (fun u hu => ?_)
    obtain ⟨k_3, rfl⟩ : ∃ z, z = u := ⟨_, rfl⟩
    have h4 : SK k_3 y := hu
    rcases (show k_3 = 0 ∨ k_3 = 1 ∨ k_3 = 2 ∨ k_3 = 3 ∨ k_3 = 4 by rcases h4 with q | q <;> omega) with rfl | rfl | rfl | rfl | rfl
    · show Go E Q 8 0 0 12 [(6, .ref (a 37)), (0, .ref (a 0)), (1, .int x), (2, .int i), (3, .int y), (4, .int j), (5, .int n0)] [.ref (a 37)] (loftW cI cS a m v w (seS T C li ap va le) (tpS B L P F) sh kf)
      refine g_astore hE dX4_copy_12 [(7, .ref (a 37)), (6, .ref (a 37)), (0, .ref (a 0)), (1, .int x), (2, .int i), (3, .int y), (4, .int j), (5, .int n0)] (by decide) rfl ?_
      refine g_aload hE dX4_copy_14 1 rfl ?_
      refine g_ifnull hE dX4_copy_16 ?_
      refine g_aload hE dX4_copy_19 0 rfl ?_
      refine g_ifnonnull hE 26 dX4_copy_21 (by decide) ?_
      refine g_aload hE dX4_copy_26 1 rfl ?_
      refine g_get hE fl_X4_247 dX4_copy_28 37 rfl rfl ?_
      refine g_iconst hE dX4_copy_31 (-1) (by decide) ?_
      refine g_icmp_eq hE 44 dX4_copy_32 (by decide) (fun c5 => ?_) (fun c5 => ?_)
      · refine g_bipush hE dX4_copy_44 (-11) (by decide) ?_
        exact g_iret hE hQ dX4_copy_46 rfl (0, 0, (-11), sh) rfl rfl ⟨h2, h4, (by show ((-11), sh) = fgCopy sh 0 0 i j n0; simp only [fgCopy, if_neg (show ¬ (0 : Nat) = 4 by decide), if_neg (show ¬ (0 : Nat) = 4 by decide), if_pos (show (sh 0 1 0) = (-1) from c5), if_pos trivial])⟩
      · refine g_aload hE dX4_copy_35 0 rfl ?_
        refine g_get hE fl_X4_247 dX4_copy_37 37 rfl rfl ?_
        refine g_iconst hE dX4_copy_40 (-1) (by decide) ?_
        refine g_icmp_ne hE 47 dX4_copy_41 (by decide) (fun c6 => ?_) (fun c6 => absurd c6 (show ¬ (sh 0 1 0) = (-1) from c5))
        refine g_aload hE dX4_copy_47 1 rfl ?_
        refine g_get hE fl_X4_247 dX4_copy_49 37 rfl rfl ?_
        refine g_aload hE dX4_copy_52 0 rfl ?_
        refine g_get hE fl_X4_247 dX4_copy_54 37 rfl rfl ?_
        refine g_icmp_eq hE 63 dX4_copy_57 (by decide) (fun c7 => ?_) (fun c7 => ?_)
        · refine g_aload hE dX4_copy_63 1 rfl ?_
          refine g_iload_n hE dX4_copy_65 4 rfl ?_
          refine g_iload hE dX4_copy_66 7 rfl ?_
          refine g_callV hE (c_X2_hasItems cI cS (fun i => a (i + 37)) (sh 0 0) (sh 0 1 0) (sh 0 1 1) i n0) mk_X2_hasItems mv_X2_hasItems ml_X4_254 dX4_copy_68 (As := [.int i, .int n0]) (rest := []) rfl rfl 37 rfl (show vwCl[2]? = some (RX2, TX2, 3) from rfl) (by decide) (by decide) (Nat.le_of_ble_eq_true rfl) (by decide) (by decide) [37, 38] rfl (by decide) (fun u => Nat.le_of_ble_eq_true rfl) (ws' := fun u => loftW cI cS a m v w (seS T C li ap va le) (tpS B L P F) sh kf) (fun u => rfl) (fun u hu => ?_)
          obtain ⟨r_8, rfl⟩ : ∃ z, z = u := ⟨_, rfl⟩
          have h9 : r_8 = if hasI (sh 0 1 1) i n0 then 1 else 0 := hu
          by_cases c10 : hasI (sh 0 1 1) i n0
          · rw [if_pos c10] at h9
            subst h9
            show Go E Q 8 0 0 71 [(7, .ref (a 37)), (6, .ref (a 37)), (0, .ref (a 0)), (1, .int x), (2, .int i), (3, .int y), (4, .int j), (5, .int n0)] [.int 1] (loftW cI cS a m v w (seS T C li ap va le) (tpS B L P F) sh kf)
            refine g_if_eq hE 86 dX4_copy_71 (by decide) (fun c11 => absurd c11 (by decide)) (fun c11 => ?_)
            refine g_aload hE dX4_copy_74 0 rfl ?_
            refine g_iload hE dX4_copy_76 6 rfl ?_
            refine g_iload hE dX4_copy_78 7 rfl ?_
            refine g_callV hE (c_X2_hasItems cI cS (fun i => a (i + 37)) (sh 0 0) (sh 0 1 0) (sh 0 1 1) j n0) mk_X2_hasItems mv_X2_hasItems ml_X4_254 dX4_copy_80 (As := [.int j, .int n0]) (rest := []) rfl rfl 37 rfl (show vwCl[2]? = some (RX2, TX2, 3) from rfl) (by decide) (by decide) (Nat.le_of_ble_eq_true rfl) (by decide) (by decide) [37, 38] rfl (by decide) (fun u => Nat.le_of_ble_eq_true rfl) (ws' := fun u => loftW cI cS a m v w (seS T C li ap va le) (tpS B L P F) sh kf) (fun u => rfl) (fun u hu => ?_)
            obtain ⟨r_12, rfl⟩ : ∃ z, z = u := ⟨_, rfl⟩
            have h13 : r_12 = if hasI (sh 0 1 1) j n0 then 1 else 0 := hu
            by_cases c14 : hasI (sh 0 1 1) j n0
            · rw [if_pos c14] at h13
              subst h13
              show Go E Q 8 0 0 83 [(7, .ref (a 37)), (6, .ref (a 37)), (0, .ref (a 0)), (1, .int x), (2, .int i), (3, .int y), (4, .int j), (5, .int n0)] [.int 1] (loftW cI cS a m v w (seS T C li ap va le) (tpS B L P F) sh kf)
              refine g_if_ne hE 89 dX4_copy_83 (by decide) (fun c15 => ?_) (fun c15 => absurd c15 (by decide))
              refine g_aload hE dX4_copy_89 1 rfl ?_
              refine g_get hE fl_X4_257 dX4_copy_91 37 rfl rfl ?_
              refine g_iload_n hE dX4_copy_94 4 rfl ?_
              refine g_aload hE dX4_copy_95 0 rfl ?_
              refine g_get hE fl_X4_257 dX4_copy_97 37 rfl rfl ?_
              refine g_iload hE dX4_copy_100 6 rfl ?_
              refine g_iload hE dX4_copy_102 7 rfl ?_
              refine g_copy hE (by decide) ml_X4_260 ac_na ac_st ac_in dX4_copy_104 38 38 rfl rfl (Int32.not_lt.mpr c10.1) (Int32.not_lt.mpr c14.1) (Int32.not_lt.mpr c10.2.2.1) (cp_b c10 (hsh 0 (by decide))) (cp_b c14 (hsh 0 (by decide))) (Nat.le_of_ble_eq_true rfl) (loftW cI cS a m v w (seS T C li ap va le) (tpS B L P F) (pA sh 0 (shT (va_cpy (sh 0 0) (sh 0 0) (Int32.toNatClampNeg i) (Int32.toNatClampNeg j) (Int32.toNatClampNeg n0)) (sh 0 1 0) (sh 0 1 1))) kf) (by rfl) ?_
              refine g_iload hE dX4_copy_107 7 rfl ?_
              exact g_iret hE hQ dX4_copy_109 rfl (0, 0, n0, (pA sh 0 (shT (va_cpy (sh 0 0) (sh 0 0) (Int32.toNatClampNeg i) (Int32.toNatClampNeg j) (Int32.toNatClampNeg n0)) (sh 0 1 0) (sh 0 1 1)))) rfl rfl ⟨h2, h4, (by show (n0, (pA sh 0 (shT (va_cpy (sh 0 0) (sh 0 0) (Int32.toNatClampNeg i) (Int32.toNatClampNeg j) (Int32.toNatClampNeg n0)) (sh 0 1 0) (sh 0 1 1)))) = fgCopy sh 0 0 i j n0; simp only [fgCopy, if_neg (show ¬ (0 : Nat) = 4 by decide), if_neg (show ¬ (0 : Nat) = 4 by decide), if_neg (show ¬ (sh 0 1 0) = (-1) from c5), if_neg (show ¬ (sh 0 1 0) = (-1) from c5), if_pos (show (sh 0 1 0) = (sh 0 1 0) from c7), if_pos c10, if_pos c14, if_pos trivial])⟩
            · rw [if_neg c14] at h13
              subst h13
              show Go E Q 8 0 0 83 [(7, .ref (a 37)), (6, .ref (a 37)), (0, .ref (a 0)), (1, .int x), (2, .int i), (3, .int y), (4, .int j), (5, .int n0)] [.int 0] (loftW cI cS a m v w (seS T C li ap va le) (tpS B L P F) sh kf)
              refine g_if_ne hE 89 dX4_copy_83 (by decide) (fun c16 => absurd (by decide) c16) (fun c16 => ?_)
              refine g_bipush hE dX4_copy_86 (-13) (by decide) ?_
              exact g_iret hE hQ dX4_copy_88 rfl (0, 0, (-13), sh) rfl rfl ⟨h2, h4, (by show ((-13), sh) = fgCopy sh 0 0 i j n0; simp only [fgCopy, if_neg (show ¬ (0 : Nat) = 4 by decide), if_neg (show ¬ (0 : Nat) = 4 by decide), if_neg (show ¬ (sh 0 1 0) = (-1) from c5), if_neg (show ¬ (sh 0 1 0) = (-1) from c5), if_pos (show (sh 0 1 0) = (sh 0 1 0) from c7), if_pos c10, if_neg c14, if_pos trivial])⟩
          · rw [if_neg c10] at h9
            subst h9
            show Go E Q 8 0 0 71 [(7, .ref (a 37)), (6, .ref (a 37)), (0, .ref (a 0)), (1, .int x), (2, .int i), (3, .int y), (4, .int j), (5, .int n0)] [.int 0] (loftW cI cS a m v w (seS T C li ap va le) (tpS B L P F) sh kf)
            refine g_if_eq hE 86 dX4_copy_71 (by decide) (fun c17 => ?_) (fun c17 => absurd (by decide) c17)
            refine g_bipush hE dX4_copy_86 (-13) (by decide) ?_
            exact g_iret hE hQ dX4_copy_88 rfl (0, 0, (-13), sh) rfl rfl ⟨h2, h4, (by show ((-13), sh) = fgCopy sh 0 0 i j n0; simp only [fgCopy, if_neg (show ¬ (0 : Nat) = 4 by decide), if_neg (show ¬ (0 : Nat) = 4 by decide), if_neg (show ¬ (sh 0 1 0) = (-1) from c5), if_neg (show ¬ (sh 0 1 0) = (-1) from c5), if_pos (show (sh 0 1 0) = (sh 0 1 0) from c7), if_neg c10, if_pos trivial])⟩
        · refine g_bipush hE dX4_copy_60 (-12) (by decide) ?_
          exact g_iret hE hQ dX4_copy_62 rfl (0, 0, (-12), sh) rfl rfl ⟨h2, h4, (absurd rfl (show ¬ (sh 0 1 0) = (sh 0 1 0) from c7))⟩
    · show Go E Q 8 0 0 12 [(6, .ref (a 37)), (0, .ref (a 0)), (1, .int x), (2, .int i), (3, .int y), (4, .int j), (5, .int n0)] [.ref (a 39)] (loftW cI cS a m v w (seS T C li ap va le) (tpS B L P F) sh kf)
      refine g_astore hE dX4_copy_12 [(7, .ref (a 39)), (6, .ref (a 37)), (0, .ref (a 0)), (1, .int x), (2, .int i), (3, .int y), (4, .int j), (5, .int n0)] (by decide) rfl ?_
      refine g_aload hE dX4_copy_14 1 rfl ?_
      refine g_ifnull hE dX4_copy_16 ?_
      refine g_aload hE dX4_copy_19 0 rfl ?_
      refine g_ifnonnull hE 26 dX4_copy_21 (by decide) ?_
      refine g_aload hE dX4_copy_26 1 rfl ?_
      refine g_get hE fl_X4_247 dX4_copy_28 37 rfl rfl ?_
      refine g_iconst hE dX4_copy_31 (-1) (by decide) ?_
      refine g_icmp_eq hE 44 dX4_copy_32 (by decide) (fun c18 => ?_) (fun c18 => ?_)
      · refine g_bipush hE dX4_copy_44 (-11) (by decide) ?_
        exact g_iret hE hQ dX4_copy_46 rfl (0, 1, (-11), sh) rfl rfl ⟨h2, h4, (by show ((-11), sh) = fgCopy sh 0 1 i j n0; simp only [fgCopy, if_neg (show ¬ (0 : Nat) = 4 by decide), if_neg (show ¬ (1 : Nat) = 4 by decide), if_pos (show (sh 0 1 0) = (-1) from c18), if_pos trivial])⟩
      · refine g_aload hE dX4_copy_35 0 rfl ?_
        refine g_get hE fl_X4_247 dX4_copy_37 39 rfl rfl ?_
        refine g_iconst hE dX4_copy_40 (-1) (by decide) ?_
        refine g_icmp_ne hE 47 dX4_copy_41 (by decide) (fun c19 => ?_) (fun c19 => ?_)
        · refine g_aload hE dX4_copy_47 1 rfl ?_
          refine g_get hE fl_X4_247 dX4_copy_49 37 rfl rfl ?_
          refine g_aload hE dX4_copy_52 0 rfl ?_
          refine g_get hE fl_X4_247 dX4_copy_54 39 rfl rfl ?_
          refine g_icmp_eq hE 63 dX4_copy_57 (by decide) (fun c20 => ?_) (fun c20 => ?_)
          · refine g_aload hE dX4_copy_63 1 rfl ?_
            refine g_iload_n hE dX4_copy_65 4 rfl ?_
            refine g_iload hE dX4_copy_66 7 rfl ?_
            refine g_callV hE (c_X2_hasItems cI cS (fun i => a (i + 37)) (sh 0 0) (sh 0 1 0) (sh 0 1 1) i n0) mk_X2_hasItems mv_X2_hasItems ml_X4_254 dX4_copy_68 (As := [.int i, .int n0]) (rest := []) rfl rfl 37 rfl (show vwCl[2]? = some (RX2, TX2, 3) from rfl) (by decide) (by decide) (Nat.le_of_ble_eq_true rfl) (by decide) (by decide) [37, 38] rfl (by decide) (fun u => Nat.le_of_ble_eq_true rfl) (ws' := fun u => loftW cI cS a m v w (seS T C li ap va le) (tpS B L P F) sh kf) (fun u => rfl) (fun u hu => ?_)
            obtain ⟨r_21, rfl⟩ : ∃ z, z = u := ⟨_, rfl⟩
            have h22 : r_21 = if hasI (sh 0 1 1) i n0 then 1 else 0 := hu
            by_cases c23 : hasI (sh 0 1 1) i n0
            · rw [if_pos c23] at h22
              subst h22
              show Go E Q 8 0 0 71 [(7, .ref (a 39)), (6, .ref (a 37)), (0, .ref (a 0)), (1, .int x), (2, .int i), (3, .int y), (4, .int j), (5, .int n0)] [.int 1] (loftW cI cS a m v w (seS T C li ap va le) (tpS B L P F) sh kf)
              refine g_if_eq hE 86 dX4_copy_71 (by decide) (fun c24 => absurd c24 (by decide)) (fun c24 => ?_)
              refine g_aload hE dX4_copy_74 0 rfl ?_
              refine g_iload hE dX4_copy_76 6 rfl ?_
              refine g_iload hE dX4_copy_78 7 rfl ?_
              refine g_callV hE (c_X2_hasItems cI cS (fun i => a (i + 39)) (sh 1 0) (sh 1 1 0) (sh 1 1 1) j n0) mk_X2_hasItems mv_X2_hasItems ml_X4_254 dX4_copy_80 (As := [.int j, .int n0]) (rest := []) rfl rfl 39 rfl (show vwCl[2]? = some (RX2, TX2, 3) from rfl) (by decide) (by decide) (Nat.le_of_ble_eq_true rfl) (by decide) (by decide) [39, 40] rfl (by decide) (fun u => Nat.le_of_ble_eq_true rfl) (ws' := fun u => loftW cI cS a m v w (seS T C li ap va le) (tpS B L P F) sh kf) (fun u => rfl) (fun u hu => ?_)
              obtain ⟨r_25, rfl⟩ : ∃ z, z = u := ⟨_, rfl⟩
              have h26 : r_25 = if hasI (sh 1 1 1) j n0 then 1 else 0 := hu
              by_cases c27 : hasI (sh 1 1 1) j n0
              · rw [if_pos c27] at h26
                subst h26
                show Go E Q 8 0 0 83 [(7, .ref (a 39)), (6, .ref (a 37)), (0, .ref (a 0)), (1, .int x), (2, .int i), (3, .int y), (4, .int j), (5, .int n0)] [.int 1] (loftW cI cS a m v w (seS T C li ap va le) (tpS B L P F) sh kf)
                refine g_if_ne hE 89 dX4_copy_83 (by decide) (fun c28 => ?_) (fun c28 => absurd c28 (by decide))
                refine g_aload hE dX4_copy_89 1 rfl ?_
                refine g_get hE fl_X4_257 dX4_copy_91 37 rfl rfl ?_
                refine g_iload_n hE dX4_copy_94 4 rfl ?_
                refine g_aload hE dX4_copy_95 0 rfl ?_
                refine g_get hE fl_X4_257 dX4_copy_97 39 rfl rfl ?_
                refine g_iload hE dX4_copy_100 6 rfl ?_
                refine g_iload hE dX4_copy_102 7 rfl ?_
                refine g_copy hE (by decide) ml_X4_260 ac_na ac_st ac_in dX4_copy_104 38 40 rfl rfl (Int32.not_lt.mpr c23.1) (Int32.not_lt.mpr c27.1) (Int32.not_lt.mpr c23.2.2.1) (cp_b c23 (hsh 0 (by decide))) (cp_b c27 (hsh 1 (by decide))) (Nat.le_of_ble_eq_true rfl) (loftW cI cS a m v w (seS T C li ap va le) (tpS B L P F) (pA sh 1 (shT (va_cpy (sh 0 0) (sh 1 0) (Int32.toNatClampNeg i) (Int32.toNatClampNeg j) (Int32.toNatClampNeg n0)) (sh 1 1 0) (sh 1 1 1))) kf) (by rfl) ?_
                refine g_iload hE dX4_copy_107 7 rfl ?_
                exact g_iret hE hQ dX4_copy_109 rfl (0, 1, n0, (pA sh 1 (shT (va_cpy (sh 0 0) (sh 1 0) (Int32.toNatClampNeg i) (Int32.toNatClampNeg j) (Int32.toNatClampNeg n0)) (sh 1 1 0) (sh 1 1 1)))) rfl rfl ⟨h2, h4, (by show (n0, (pA sh 1 (shT (va_cpy (sh 0 0) (sh 1 0) (Int32.toNatClampNeg i) (Int32.toNatClampNeg j) (Int32.toNatClampNeg n0)) (sh 1 1 0) (sh 1 1 1)))) = fgCopy sh 0 1 i j n0; simp only [fgCopy, if_neg (show ¬ (0 : Nat) = 4 by decide), if_neg (show ¬ (1 : Nat) = 4 by decide), if_neg (show ¬ (sh 0 1 0) = (-1) from c18), if_neg (show ¬ (sh 1 1 0) = (-1) from c19), if_pos (show (sh 0 1 0) = (sh 1 1 0) from c20), if_pos c23, if_pos c27, if_pos trivial])⟩
              · rw [if_neg c27] at h26
                subst h26
                show Go E Q 8 0 0 83 [(7, .ref (a 39)), (6, .ref (a 37)), (0, .ref (a 0)), (1, .int x), (2, .int i), (3, .int y), (4, .int j), (5, .int n0)] [.int 0] (loftW cI cS a m v w (seS T C li ap va le) (tpS B L P F) sh kf)
                refine g_if_ne hE 89 dX4_copy_83 (by decide) (fun c29 => absurd (by decide) c29) (fun c29 => ?_)
                refine g_bipush hE dX4_copy_86 (-13) (by decide) ?_
                exact g_iret hE hQ dX4_copy_88 rfl (0, 1, (-13), sh) rfl rfl ⟨h2, h4, (by show ((-13), sh) = fgCopy sh 0 1 i j n0; simp only [fgCopy, if_neg (show ¬ (0 : Nat) = 4 by decide), if_neg (show ¬ (1 : Nat) = 4 by decide), if_neg (show ¬ (sh 0 1 0) = (-1) from c18), if_neg (show ¬ (sh 1 1 0) = (-1) from c19), if_pos (show (sh 0 1 0) = (sh 1 1 0) from c20), if_pos c23, if_neg c27, if_pos trivial])⟩
            · rw [if_neg c23] at h22
              subst h22
              show Go E Q 8 0 0 71 [(7, .ref (a 39)), (6, .ref (a 37)), (0, .ref (a 0)), (1, .int x), (2, .int i), (3, .int y), (4, .int j), (5, .int n0)] [.int 0] (loftW cI cS a m v w (seS T C li ap va le) (tpS B L P F) sh kf)
              refine g_if_eq hE 86 dX4_copy_71 (by decide) (fun c30 => ?_) (fun c30 => absurd (by decide) c30)
              refine g_bipush hE dX4_copy_86 (-13) (by decide) ?_
              exact g_iret hE hQ dX4_copy_88 rfl (0, 1, (-13), sh) rfl rfl ⟨h2, h4, (by show ((-13), sh) = fgCopy sh 0 1 i j n0; simp only [fgCopy, if_neg (show ¬ (0 : Nat) = 4 by decide), if_neg (show ¬ (1 : Nat) = 4 by decide), if_neg (show ¬ (sh 0 1 0) = (-1) from c18), if_neg (show ¬ (sh 1 1 0) = (-1) from c19), if_pos (show (sh 0 1 0) = (sh 1 1 0) from c20), if_neg c23, if_pos trivial])⟩
          · refine g_bipush hE dX4_copy_60 (-12) (by decide) ?_
            exact g_iret hE hQ dX4_copy_62 rfl (0, 1, (-12), sh) rfl rfl ⟨h2, h4, (by show ((-12), sh) = fgCopy sh 0 1 i j n0; simp only [fgCopy, if_neg (show ¬ (0 : Nat) = 4 by decide), if_neg (show ¬ (1 : Nat) = 4 by decide), if_neg (show ¬ (sh 0 1 0) = (-1) from c18), if_neg (show ¬ (sh 1 1 0) = (-1) from c19), if_neg (show ¬ (sh 0 1 0) = (sh 1 1 0) from c20), if_pos trivial])⟩
        · refine g_bipush hE dX4_copy_44 (-11) (by decide) ?_
          exact g_iret hE hQ dX4_copy_46 rfl (0, 1, (-11), sh) rfl rfl ⟨h2, h4, (by show ((-11), sh) = fgCopy sh 0 1 i j n0; simp only [fgCopy, if_neg (show ¬ (0 : Nat) = 4 by decide), if_neg (show ¬ (1 : Nat) = 4 by decide), if_neg (show ¬ (sh 0 1 0) = (-1) from c18), if_pos (show (sh 1 1 0) = (-1) from c19), if_pos trivial])⟩
    · show Go E Q 8 0 0 12 [(6, .ref (a 37)), (0, .ref (a 0)), (1, .int x), (2, .int i), (3, .int y), (4, .int j), (5, .int n0)] [.ref (a 41)] (loftW cI cS a m v w (seS T C li ap va le) (tpS B L P F) sh kf)
      refine g_astore hE dX4_copy_12 [(7, .ref (a 41)), (6, .ref (a 37)), (0, .ref (a 0)), (1, .int x), (2, .int i), (3, .int y), (4, .int j), (5, .int n0)] (by decide) rfl ?_
      refine g_aload hE dX4_copy_14 1 rfl ?_
      refine g_ifnull hE dX4_copy_16 ?_
      refine g_aload hE dX4_copy_19 0 rfl ?_
      refine g_ifnonnull hE 26 dX4_copy_21 (by decide) ?_
      refine g_aload hE dX4_copy_26 1 rfl ?_
      refine g_get hE fl_X4_247 dX4_copy_28 37 rfl rfl ?_
      refine g_iconst hE dX4_copy_31 (-1) (by decide) ?_
      refine g_icmp_eq hE 44 dX4_copy_32 (by decide) (fun c31 => ?_) (fun c31 => ?_)
      · refine g_bipush hE dX4_copy_44 (-11) (by decide) ?_
        exact g_iret hE hQ dX4_copy_46 rfl (0, 2, (-11), sh) rfl rfl ⟨h2, h4, (by show ((-11), sh) = fgCopy sh 0 2 i j n0; simp only [fgCopy, if_neg (show ¬ (0 : Nat) = 4 by decide), if_neg (show ¬ (2 : Nat) = 4 by decide), if_pos (show (sh 0 1 0) = (-1) from c31), if_pos trivial])⟩
      · refine g_aload hE dX4_copy_35 0 rfl ?_
        refine g_get hE fl_X4_247 dX4_copy_37 41 rfl rfl ?_
        refine g_iconst hE dX4_copy_40 (-1) (by decide) ?_
        refine g_icmp_ne hE 47 dX4_copy_41 (by decide) (fun c32 => ?_) (fun c32 => ?_)
        · refine g_aload hE dX4_copy_47 1 rfl ?_
          refine g_get hE fl_X4_247 dX4_copy_49 37 rfl rfl ?_
          refine g_aload hE dX4_copy_52 0 rfl ?_
          refine g_get hE fl_X4_247 dX4_copy_54 41 rfl rfl ?_
          refine g_icmp_eq hE 63 dX4_copy_57 (by decide) (fun c33 => ?_) (fun c33 => ?_)
          · refine g_aload hE dX4_copy_63 1 rfl ?_
            refine g_iload_n hE dX4_copy_65 4 rfl ?_
            refine g_iload hE dX4_copy_66 7 rfl ?_
            refine g_callV hE (c_X2_hasItems cI cS (fun i => a (i + 37)) (sh 0 0) (sh 0 1 0) (sh 0 1 1) i n0) mk_X2_hasItems mv_X2_hasItems ml_X4_254 dX4_copy_68 (As := [.int i, .int n0]) (rest := []) rfl rfl 37 rfl (show vwCl[2]? = some (RX2, TX2, 3) from rfl) (by decide) (by decide) (Nat.le_of_ble_eq_true rfl) (by decide) (by decide) [37, 38] rfl (by decide) (fun u => Nat.le_of_ble_eq_true rfl) (ws' := fun u => loftW cI cS a m v w (seS T C li ap va le) (tpS B L P F) sh kf) (fun u => rfl) (fun u hu => ?_)
            obtain ⟨r_34, rfl⟩ : ∃ z, z = u := ⟨_, rfl⟩
            have h35 : r_34 = if hasI (sh 0 1 1) i n0 then 1 else 0 := hu
            by_cases c36 : hasI (sh 0 1 1) i n0
            · rw [if_pos c36] at h35
              subst h35
              show Go E Q 8 0 0 71 [(7, .ref (a 41)), (6, .ref (a 37)), (0, .ref (a 0)), (1, .int x), (2, .int i), (3, .int y), (4, .int j), (5, .int n0)] [.int 1] (loftW cI cS a m v w (seS T C li ap va le) (tpS B L P F) sh kf)
              refine g_if_eq hE 86 dX4_copy_71 (by decide) (fun c37 => absurd c37 (by decide)) (fun c37 => ?_)
              refine g_aload hE dX4_copy_74 0 rfl ?_
              refine g_iload hE dX4_copy_76 6 rfl ?_
              refine g_iload hE dX4_copy_78 7 rfl ?_
              refine g_callV hE (c_X2_hasItems cI cS (fun i => a (i + 41)) (sh 2 0) (sh 2 1 0) (sh 2 1 1) j n0) mk_X2_hasItems mv_X2_hasItems ml_X4_254 dX4_copy_80 (As := [.int j, .int n0]) (rest := []) rfl rfl 41 rfl (show vwCl[2]? = some (RX2, TX2, 3) from rfl) (by decide) (by decide) (Nat.le_of_ble_eq_true rfl) (by decide) (by decide) [41, 42] rfl (by decide) (fun u => Nat.le_of_ble_eq_true rfl) (ws' := fun u => loftW cI cS a m v w (seS T C li ap va le) (tpS B L P F) sh kf) (fun u => rfl) (fun u hu => ?_)
              obtain ⟨r_38, rfl⟩ : ∃ z, z = u := ⟨_, rfl⟩
              have h39 : r_38 = if hasI (sh 2 1 1) j n0 then 1 else 0 := hu
              by_cases c40 : hasI (sh 2 1 1) j n0
              · rw [if_pos c40] at h39
                subst h39
                show Go E Q 8 0 0 83 [(7, .ref (a 41)), (6, .ref (a 37)), (0, .ref (a 0)), (1, .int x), (2, .int i), (3, .int y), (4, .int j), (5, .int n0)] [.int 1] (loftW cI cS a m v w (seS T C li ap va le) (tpS B L P F) sh kf)
                refine g_if_ne hE 89 dX4_copy_83 (by decide) (fun c41 => ?_) (fun c41 => absurd c41 (by decide))
                refine g_aload hE dX4_copy_89 1 rfl ?_
                refine g_get hE fl_X4_257 dX4_copy_91 37 rfl rfl ?_
                refine g_iload_n hE dX4_copy_94 4 rfl ?_
                refine g_aload hE dX4_copy_95 0 rfl ?_
                refine g_get hE fl_X4_257 dX4_copy_97 41 rfl rfl ?_
                refine g_iload hE dX4_copy_100 6 rfl ?_
                refine g_iload hE dX4_copy_102 7 rfl ?_
                refine g_copy hE (by decide) ml_X4_260 ac_na ac_st ac_in dX4_copy_104 38 42 rfl rfl (Int32.not_lt.mpr c36.1) (Int32.not_lt.mpr c40.1) (Int32.not_lt.mpr c36.2.2.1) (cp_b c36 (hsh 0 (by decide))) (cp_b c40 (hsh 2 (by decide))) (Nat.le_of_ble_eq_true rfl) (loftW cI cS a m v w (seS T C li ap va le) (tpS B L P F) (pA sh 2 (shT (va_cpy (sh 0 0) (sh 2 0) (Int32.toNatClampNeg i) (Int32.toNatClampNeg j) (Int32.toNatClampNeg n0)) (sh 2 1 0) (sh 2 1 1))) kf) (by rfl) ?_
                refine g_iload hE dX4_copy_107 7 rfl ?_
                exact g_iret hE hQ dX4_copy_109 rfl (0, 2, n0, (pA sh 2 (shT (va_cpy (sh 0 0) (sh 2 0) (Int32.toNatClampNeg i) (Int32.toNatClampNeg j) (Int32.toNatClampNeg n0)) (sh 2 1 0) (sh 2 1 1)))) rfl rfl ⟨h2, h4, (by show (n0, (pA sh 2 (shT (va_cpy (sh 0 0) (sh 2 0) (Int32.toNatClampNeg i) (Int32.toNatClampNeg j) (Int32.toNatClampNeg n0)) (sh 2 1 0) (sh 2 1 1)))) = fgCopy sh 0 2 i j n0; simp only [fgCopy, if_neg (show ¬ (0 : Nat) = 4 by decide), if_neg (show ¬ (2 : Nat) = 4 by decide), if_neg (show ¬ (sh 0 1 0) = (-1) from c31), if_neg (show ¬ (sh 2 1 0) = (-1) from c32), if_pos (show (sh 0 1 0) = (sh 2 1 0) from c33), if_pos c36, if_pos c40, if_pos trivial])⟩
              · rw [if_neg c40] at h39
                subst h39
                show Go E Q 8 0 0 83 [(7, .ref (a 41)), (6, .ref (a 37)), (0, .ref (a 0)), (1, .int x), (2, .int i), (3, .int y), (4, .int j), (5, .int n0)] [.int 0] (loftW cI cS a m v w (seS T C li ap va le) (tpS B L P F) sh kf)
                refine g_if_ne hE 89 dX4_copy_83 (by decide) (fun c42 => absurd (by decide) c42) (fun c42 => ?_)
                refine g_bipush hE dX4_copy_86 (-13) (by decide) ?_
                exact g_iret hE hQ dX4_copy_88 rfl (0, 2, (-13), sh) rfl rfl ⟨h2, h4, (by show ((-13), sh) = fgCopy sh 0 2 i j n0; simp only [fgCopy, if_neg (show ¬ (0 : Nat) = 4 by decide), if_neg (show ¬ (2 : Nat) = 4 by decide), if_neg (show ¬ (sh 0 1 0) = (-1) from c31), if_neg (show ¬ (sh 2 1 0) = (-1) from c32), if_pos (show (sh 0 1 0) = (sh 2 1 0) from c33), if_pos c36, if_neg c40, if_pos trivial])⟩
            · rw [if_neg c36] at h35
              subst h35
              show Go E Q 8 0 0 71 [(7, .ref (a 41)), (6, .ref (a 37)), (0, .ref (a 0)), (1, .int x), (2, .int i), (3, .int y), (4, .int j), (5, .int n0)] [.int 0] (loftW cI cS a m v w (seS T C li ap va le) (tpS B L P F) sh kf)
              refine g_if_eq hE 86 dX4_copy_71 (by decide) (fun c43 => ?_) (fun c43 => absurd (by decide) c43)
              refine g_bipush hE dX4_copy_86 (-13) (by decide) ?_
              exact g_iret hE hQ dX4_copy_88 rfl (0, 2, (-13), sh) rfl rfl ⟨h2, h4, (by show ((-13), sh) = fgCopy sh 0 2 i j n0; simp only [fgCopy, if_neg (show ¬ (0 : Nat) = 4 by decide), if_neg (show ¬ (2 : Nat) = 4 by decide), if_neg (show ¬ (sh 0 1 0) = (-1) from c31), if_neg (show ¬ (sh 2 1 0) = (-1) from c32), if_pos (show (sh 0 1 0) = (sh 2 1 0) from c33), if_neg c36, if_pos trivial])⟩
          · refine g_bipush hE dX4_copy_60 (-12) (by decide) ?_
            exact g_iret hE hQ dX4_copy_62 rfl (0, 2, (-12), sh) rfl rfl ⟨h2, h4, (by show ((-12), sh) = fgCopy sh 0 2 i j n0; simp only [fgCopy, if_neg (show ¬ (0 : Nat) = 4 by decide), if_neg (show ¬ (2 : Nat) = 4 by decide), if_neg (show ¬ (sh 0 1 0) = (-1) from c31), if_neg (show ¬ (sh 2 1 0) = (-1) from c32), if_neg (show ¬ (sh 0 1 0) = (sh 2 1 0) from c33), if_pos trivial])⟩
        · refine g_bipush hE dX4_copy_44 (-11) (by decide) ?_
          exact g_iret hE hQ dX4_copy_46 rfl (0, 2, (-11), sh) rfl rfl ⟨h2, h4, (by show ((-11), sh) = fgCopy sh 0 2 i j n0; simp only [fgCopy, if_neg (show ¬ (0 : Nat) = 4 by decide), if_neg (show ¬ (2 : Nat) = 4 by decide), if_neg (show ¬ (sh 0 1 0) = (-1) from c31), if_pos (show (sh 2 1 0) = (-1) from c32), if_pos trivial])⟩
    · show Go E Q 8 0 0 12 [(6, .ref (a 37)), (0, .ref (a 0)), (1, .int x), (2, .int i), (3, .int y), (4, .int j), (5, .int n0)] [.ref (a 43)] (loftW cI cS a m v w (seS T C li ap va le) (tpS B L P F) sh kf)
      refine g_astore hE dX4_copy_12 [(7, .ref (a 43)), (6, .ref (a 37)), (0, .ref (a 0)), (1, .int x), (2, .int i), (3, .int y), (4, .int j), (5, .int n0)] (by decide) rfl ?_
      refine g_aload hE dX4_copy_14 1 rfl ?_
      refine g_ifnull hE dX4_copy_16 ?_
      refine g_aload hE dX4_copy_19 0 rfl ?_
      refine g_ifnonnull hE 26 dX4_copy_21 (by decide) ?_
      refine g_aload hE dX4_copy_26 1 rfl ?_
      refine g_get hE fl_X4_247 dX4_copy_28 37 rfl rfl ?_
      refine g_iconst hE dX4_copy_31 (-1) (by decide) ?_
      refine g_icmp_eq hE 44 dX4_copy_32 (by decide) (fun c44 => ?_) (fun c44 => ?_)
      · refine g_bipush hE dX4_copy_44 (-11) (by decide) ?_
        exact g_iret hE hQ dX4_copy_46 rfl (0, 3, (-11), sh) rfl rfl ⟨h2, h4, (by show ((-11), sh) = fgCopy sh 0 3 i j n0; simp only [fgCopy, if_neg (show ¬ (0 : Nat) = 4 by decide), if_neg (show ¬ (3 : Nat) = 4 by decide), if_pos (show (sh 0 1 0) = (-1) from c44), if_pos trivial])⟩
      · refine g_aload hE dX4_copy_35 0 rfl ?_
        refine g_get hE fl_X4_247 dX4_copy_37 43 rfl rfl ?_
        refine g_iconst hE dX4_copy_40 (-1) (by decide) ?_
        refine g_icmp_ne hE 47 dX4_copy_41 (by decide) (fun c45 => ?_) (fun c45 => ?_)
        · refine g_aload hE dX4_copy_47 1 rfl ?_
          refine g_get hE fl_X4_247 dX4_copy_49 37 rfl rfl ?_
          refine g_aload hE dX4_copy_52 0 rfl ?_
          refine g_get hE fl_X4_247 dX4_copy_54 43 rfl rfl ?_
          refine g_icmp_eq hE 63 dX4_copy_57 (by decide) (fun c46 => ?_) (fun c46 => ?_)
          · refine g_aload hE dX4_copy_63 1 rfl ?_
            refine g_iload_n hE dX4_copy_65 4 rfl ?_
            refine g_iload hE dX4_copy_66 7 rfl ?_
            refine g_callV hE (c_X2_hasItems cI cS (fun i => a (i + 37)) (sh 0 0) (sh 0 1 0) (sh 0 1 1) i n0) mk_X2_hasItems mv_X2_hasItems ml_X4_254 dX4_copy_68 (As := [.int i, .int n0]) (rest := []) rfl rfl 37 rfl (show vwCl[2]? = some (RX2, TX2, 3) from rfl) (by decide) (by decide) (Nat.le_of_ble_eq_true rfl) (by decide) (by decide) [37, 38] rfl (by decide) (fun u => Nat.le_of_ble_eq_true rfl) (ws' := fun u => loftW cI cS a m v w (seS T C li ap va le) (tpS B L P F) sh kf) (fun u => rfl) (fun u hu => ?_)
            obtain ⟨r_47, rfl⟩ : ∃ z, z = u := ⟨_, rfl⟩
            have h48 : r_47 = if hasI (sh 0 1 1) i n0 then 1 else 0 := hu
            by_cases c49 : hasI (sh 0 1 1) i n0
            · rw [if_pos c49] at h48
              subst h48
              show Go E Q 8 0 0 71 [(7, .ref (a 43)), (6, .ref (a 37)), (0, .ref (a 0)), (1, .int x), (2, .int i), (3, .int y), (4, .int j), (5, .int n0)] [.int 1] (loftW cI cS a m v w (seS T C li ap va le) (tpS B L P F) sh kf)
              refine g_if_eq hE 86 dX4_copy_71 (by decide) (fun c50 => absurd c50 (by decide)) (fun c50 => ?_)
              refine g_aload hE dX4_copy_74 0 rfl ?_
              refine g_iload hE dX4_copy_76 6 rfl ?_
              refine g_iload hE dX4_copy_78 7 rfl ?_
              refine g_callV hE (c_X2_hasItems cI cS (fun i => a (i + 43)) (sh 3 0) (sh 3 1 0) (sh 3 1 1) j n0) mk_X2_hasItems mv_X2_hasItems ml_X4_254 dX4_copy_80 (As := [.int j, .int n0]) (rest := []) rfl rfl 43 rfl (show vwCl[2]? = some (RX2, TX2, 3) from rfl) (by decide) (by decide) (Nat.le_of_ble_eq_true rfl) (by decide) (by decide) [43, 44] rfl (by decide) (fun u => Nat.le_of_ble_eq_true rfl) (ws' := fun u => loftW cI cS a m v w (seS T C li ap va le) (tpS B L P F) sh kf) (fun u => rfl) (fun u hu => ?_)
              obtain ⟨r_51, rfl⟩ : ∃ z, z = u := ⟨_, rfl⟩
              have h52 : r_51 = if hasI (sh 3 1 1) j n0 then 1 else 0 := hu
              by_cases c53 : hasI (sh 3 1 1) j n0
              · rw [if_pos c53] at h52
                subst h52
                show Go E Q 8 0 0 83 [(7, .ref (a 43)), (6, .ref (a 37)), (0, .ref (a 0)), (1, .int x), (2, .int i), (3, .int y), (4, .int j), (5, .int n0)] [.int 1] (loftW cI cS a m v w (seS T C li ap va le) (tpS B L P F) sh kf)
                refine g_if_ne hE 89 dX4_copy_83 (by decide) (fun c54 => ?_) (fun c54 => absurd c54 (by decide))
                refine g_aload hE dX4_copy_89 1 rfl ?_
                refine g_get hE fl_X4_257 dX4_copy_91 37 rfl rfl ?_
                refine g_iload_n hE dX4_copy_94 4 rfl ?_
                refine g_aload hE dX4_copy_95 0 rfl ?_
                refine g_get hE fl_X4_257 dX4_copy_97 43 rfl rfl ?_
                refine g_iload hE dX4_copy_100 6 rfl ?_
                refine g_iload hE dX4_copy_102 7 rfl ?_
                refine g_copy hE (by decide) ml_X4_260 ac_na ac_st ac_in dX4_copy_104 38 44 rfl rfl (Int32.not_lt.mpr c49.1) (Int32.not_lt.mpr c53.1) (Int32.not_lt.mpr c49.2.2.1) (cp_b c49 (hsh 0 (by decide))) (cp_b c53 (hsh 3 (by decide))) (Nat.le_of_ble_eq_true rfl) (loftW cI cS a m v w (seS T C li ap va le) (tpS B L P F) (pA sh 3 (shT (va_cpy (sh 0 0) (sh 3 0) (Int32.toNatClampNeg i) (Int32.toNatClampNeg j) (Int32.toNatClampNeg n0)) (sh 3 1 0) (sh 3 1 1))) kf) (by rfl) ?_
                refine g_iload hE dX4_copy_107 7 rfl ?_
                exact g_iret hE hQ dX4_copy_109 rfl (0, 3, n0, (pA sh 3 (shT (va_cpy (sh 0 0) (sh 3 0) (Int32.toNatClampNeg i) (Int32.toNatClampNeg j) (Int32.toNatClampNeg n0)) (sh 3 1 0) (sh 3 1 1)))) rfl rfl ⟨h2, h4, (by show (n0, (pA sh 3 (shT (va_cpy (sh 0 0) (sh 3 0) (Int32.toNatClampNeg i) (Int32.toNatClampNeg j) (Int32.toNatClampNeg n0)) (sh 3 1 0) (sh 3 1 1)))) = fgCopy sh 0 3 i j n0; simp only [fgCopy, if_neg (show ¬ (0 : Nat) = 4 by decide), if_neg (show ¬ (3 : Nat) = 4 by decide), if_neg (show ¬ (sh 0 1 0) = (-1) from c44), if_neg (show ¬ (sh 3 1 0) = (-1) from c45), if_pos (show (sh 0 1 0) = (sh 3 1 0) from c46), if_pos c49, if_pos c53, if_pos trivial])⟩
              · rw [if_neg c53] at h52
                subst h52
                show Go E Q 8 0 0 83 [(7, .ref (a 43)), (6, .ref (a 37)), (0, .ref (a 0)), (1, .int x), (2, .int i), (3, .int y), (4, .int j), (5, .int n0)] [.int 0] (loftW cI cS a m v w (seS T C li ap va le) (tpS B L P F) sh kf)
                refine g_if_ne hE 89 dX4_copy_83 (by decide) (fun c55 => absurd (by decide) c55) (fun c55 => ?_)
                refine g_bipush hE dX4_copy_86 (-13) (by decide) ?_
                exact g_iret hE hQ dX4_copy_88 rfl (0, 3, (-13), sh) rfl rfl ⟨h2, h4, (by show ((-13), sh) = fgCopy sh 0 3 i j n0; simp only [fgCopy, if_neg (show ¬ (0 : Nat) = 4 by decide), if_neg (show ¬ (3 : Nat) = 4 by decide), if_neg (show ¬ (sh 0 1 0) = (-1) from c44), if_neg (show ¬ (sh 3 1 0) = (-1) from c45), if_pos (show (sh 0 1 0) = (sh 3 1 0) from c46), if_pos c49, if_neg c53, if_pos trivial])⟩
            · rw [if_neg c49] at h48
              subst h48
              show Go E Q 8 0 0 71 [(7, .ref (a 43)), (6, .ref (a 37)), (0, .ref (a 0)), (1, .int x), (2, .int i), (3, .int y), (4, .int j), (5, .int n0)] [.int 0] (loftW cI cS a m v w (seS T C li ap va le) (tpS B L P F) sh kf)
              refine g_if_eq hE 86 dX4_copy_71 (by decide) (fun c56 => ?_) (fun c56 => absurd (by decide) c56)
              refine g_bipush hE dX4_copy_86 (-13) (by decide) ?_
              exact g_iret hE hQ dX4_copy_88 rfl (0, 3, (-13), sh) rfl rfl ⟨h2, h4, (by show ((-13), sh) = fgCopy sh 0 3 i j n0; simp only [fgCopy, if_neg (show ¬ (0 : Nat) = 4 by decide), if_neg (show ¬ (3 : Nat) = 4 by decide), if_neg (show ¬ (sh 0 1 0) = (-1) from c44), if_neg (show ¬ (sh 3 1 0) = (-1) from c45), if_pos (show (sh 0 1 0) = (sh 3 1 0) from c46), if_neg c49, if_pos trivial])⟩
          · refine g_bipush hE dX4_copy_60 (-12) (by decide) ?_
            exact g_iret hE hQ dX4_copy_62 rfl (0, 3, (-12), sh) rfl rfl ⟨h2, h4, (by show ((-12), sh) = fgCopy sh 0 3 i j n0; simp only [fgCopy, if_neg (show ¬ (0 : Nat) = 4 by decide), if_neg (show ¬ (3 : Nat) = 4 by decide), if_neg (show ¬ (sh 0 1 0) = (-1) from c44), if_neg (show ¬ (sh 3 1 0) = (-1) from c45), if_neg (show ¬ (sh 0 1 0) = (sh 3 1 0) from c46), if_pos trivial])⟩
        · refine g_bipush hE dX4_copy_44 (-11) (by decide) ?_
          exact g_iret hE hQ dX4_copy_46 rfl (0, 3, (-11), sh) rfl rfl ⟨h2, h4, (by show ((-11), sh) = fgCopy sh 0 3 i j n0; simp only [fgCopy, if_neg (show ¬ (0 : Nat) = 4 by decide), if_neg (show ¬ (3 : Nat) = 4 by decide), if_neg (show ¬ (sh 0 1 0) = (-1) from c44), if_pos (show (sh 3 1 0) = (-1) from c45), if_pos trivial])⟩
    · show Go E Q 8 0 0 12 [(6, .ref (a 37)), (0, .ref (a 0)), (1, .int x), (2, .int i), (3, .int y), (4, .int j), (5, .int n0)] [.null] (loftW cI cS a m v w (seS T C li ap va le) (tpS B L P F) sh kf)
      refine g_astoreN hE dX4_copy_12 [(7, .null), (6, .ref (a 37)), (0, .ref (a 0)), (1, .int x), (2, .int i), (3, .int y), (4, .int j), (5, .int n0)] (by decide) rfl ?_
      refine g_aload hE dX4_copy_14 1 rfl ?_
      refine g_ifnull hE dX4_copy_16 ?_
      refine g_aloadN hE dX4_copy_19 0 rfl ?_
      refine g_ifnonnullN hE dX4_copy_21 ?_
      refine g_iconst hE dX4_copy_24 (-1) (by decide) ?_
      exact g_iret hE hQ dX4_copy_25 rfl (0, 4, (-1), sh) rfl rfl ⟨h2, h4, (by show ((-1), sh) = fgCopy sh 0 4 i j n0; simp only [fgCopy, if_neg (show ¬ (0 : Nat) = 4 by decide), if_pos (show (4 : Nat) = 4 by decide), if_pos trivial])⟩
  · show Go E Q 8 0 0 5 [(0, .ref (a 0)), (1, .int x), (2, .int i), (3, .int y), (4, .int j), (5, .int n0)] [.ref (a 39)] (loftW cI cS a m v w (seS T C li ap va le) (tpS B L P F) sh kf)
    refine g_astore hE dX4_copy_5 [(6, .ref (a 39)), (0, .ref (a 0)), (1, .int x), (2, .int i), (3, .int y), (4, .int j), (5, .int n0)] (by decide) rfl ?_
    refine g_aload_n hE dX4_copy_7 1 rfl ?_
    refine g_iload_n hE dX4_copy_8 4 rfl ?_
    refine g_callV hE (c_X4_sheetAt cI cS a m v w T C li ap va le B L P F sh kf (by first | assumption | exact mw_of (by assumption)) (by first | assumption | exact mw_of (by assumption)) (by first | assumption | exact mw_of (by assumption)) hL y) mk_X4_sheetAt mv_X4_sheetAt ml_X4_221 dX4_copy_9 (As := [.int y]) (rest := []) rfl rfl 0 rfl (show vwCl[4]? = some (RX4, TX4, 7) from rfl) (by decide) (by decide) (Nat.le_of_ble_eq_true rfl) (by decide) (by decide) [0, 1, 2, 3, 4, 5, 6, 7, 8, 9, 10, 11, 12, 13, 14, 15, 16, 17, 18, 19, 20, 21, 22, 23, 24, 25, 26, 27, 28, 29, 30, 31, 32, 33, 34, 35, 36, 37, 38, 39, 40, 41, 42, 43, 44] rfl (by decide) (fun u => Nat.le_of_ble_eq_true rfl) (ws' := fun u => loftW cI cS a m v w (seS T C li ap va le) (tpS B L P F) sh kf) (fun u => rfl) (fun u hu => ?_)
    obtain ⟨k_57, rfl⟩ : ∃ z, z = u := ⟨_, rfl⟩
    have h58 : SK k_57 y := hu
    rcases (show k_57 = 0 ∨ k_57 = 1 ∨ k_57 = 2 ∨ k_57 = 3 ∨ k_57 = 4 by rcases h58 with q | q <;> omega) with rfl | rfl | rfl | rfl | rfl
    · show Go E Q 8 0 0 12 [(6, .ref (a 39)), (0, .ref (a 0)), (1, .int x), (2, .int i), (3, .int y), (4, .int j), (5, .int n0)] [.ref (a 37)] (loftW cI cS a m v w (seS T C li ap va le) (tpS B L P F) sh kf)
      refine g_astore hE dX4_copy_12 [(7, .ref (a 37)), (6, .ref (a 39)), (0, .ref (a 0)), (1, .int x), (2, .int i), (3, .int y), (4, .int j), (5, .int n0)] (by decide) rfl ?_
      refine g_aload hE dX4_copy_14 1 rfl ?_
      refine g_ifnull hE dX4_copy_16 ?_
      refine g_aload hE dX4_copy_19 0 rfl ?_
      refine g_ifnonnull hE 26 dX4_copy_21 (by decide) ?_
      refine g_aload hE dX4_copy_26 1 rfl ?_
      refine g_get hE fl_X4_247 dX4_copy_28 39 rfl rfl ?_
      refine g_iconst hE dX4_copy_31 (-1) (by decide) ?_
      refine g_icmp_eq hE 44 dX4_copy_32 (by decide) (fun c59 => ?_) (fun c59 => ?_)
      · refine g_bipush hE dX4_copy_44 (-11) (by decide) ?_
        exact g_iret hE hQ dX4_copy_46 rfl (1, 0, (-11), sh) rfl rfl ⟨h2, h58, (by show ((-11), sh) = fgCopy sh 1 0 i j n0; simp only [fgCopy, if_neg (show ¬ (1 : Nat) = 4 by decide), if_neg (show ¬ (0 : Nat) = 4 by decide), if_pos (show (sh 1 1 0) = (-1) from c59), if_pos trivial])⟩
      · refine g_aload hE dX4_copy_35 0 rfl ?_
        refine g_get hE fl_X4_247 dX4_copy_37 37 rfl rfl ?_
        refine g_iconst hE dX4_copy_40 (-1) (by decide) ?_
        refine g_icmp_ne hE 47 dX4_copy_41 (by decide) (fun c60 => ?_) (fun c60 => ?_)
        · refine g_aload hE dX4_copy_47 1 rfl ?_
          refine g_get hE fl_X4_247 dX4_copy_49 39 rfl rfl ?_
          refine g_aload hE dX4_copy_52 0 rfl ?_
          refine g_get hE fl_X4_247 dX4_copy_54 37 rfl rfl ?_
          refine g_icmp_eq hE 63 dX4_copy_57 (by decide) (fun c61 => ?_) (fun c61 => ?_)
          · refine g_aload hE dX4_copy_63 1 rfl ?_
            refine g_iload_n hE dX4_copy_65 4 rfl ?_
            refine g_iload hE dX4_copy_66 7 rfl ?_
            refine g_callV hE (c_X2_hasItems cI cS (fun i => a (i + 39)) (sh 1 0) (sh 1 1 0) (sh 1 1 1) i n0) mk_X2_hasItems mv_X2_hasItems ml_X4_254 dX4_copy_68 (As := [.int i, .int n0]) (rest := []) rfl rfl 39 rfl (show vwCl[2]? = some (RX2, TX2, 3) from rfl) (by decide) (by decide) (Nat.le_of_ble_eq_true rfl) (by decide) (by decide) [39, 40] rfl (by decide) (fun u => Nat.le_of_ble_eq_true rfl) (ws' := fun u => loftW cI cS a m v w (seS T C li ap va le) (tpS B L P F) sh kf) (fun u => rfl) (fun u hu => ?_)
            obtain ⟨r_62, rfl⟩ : ∃ z, z = u := ⟨_, rfl⟩
            have h63 : r_62 = if hasI (sh 1 1 1) i n0 then 1 else 0 := hu
            by_cases c64 : hasI (sh 1 1 1) i n0
            · rw [if_pos c64] at h63
              subst h63
              show Go E Q 8 0 0 71 [(7, .ref (a 37)), (6, .ref (a 39)), (0, .ref (a 0)), (1, .int x), (2, .int i), (3, .int y), (4, .int j), (5, .int n0)] [.int 1] (loftW cI cS a m v w (seS T C li ap va le) (tpS B L P F) sh kf)
              refine g_if_eq hE 86 dX4_copy_71 (by decide) (fun c65 => absurd c65 (by decide)) (fun c65 => ?_)
              refine g_aload hE dX4_copy_74 0 rfl ?_
              refine g_iload hE dX4_copy_76 6 rfl ?_
              refine g_iload hE dX4_copy_78 7 rfl ?_
              refine g_callV hE (c_X2_hasItems cI cS (fun i => a (i + 37)) (sh 0 0) (sh 0 1 0) (sh 0 1 1) j n0) mk_X2_hasItems mv_X2_hasItems ml_X4_254 dX4_copy_80 (As := [.int j, .int n0]) (rest := []) rfl rfl 37 rfl (show vwCl[2]? = some (RX2, TX2, 3) from rfl) (by decide) (by decide) (Nat.le_of_ble_eq_true rfl) (by decide) (by decide) [37, 38] rfl (by decide) (fun u => Nat.le_of_ble_eq_true rfl) (ws' := fun u => loftW cI cS a m v w (seS T C li ap va le) (tpS B L P F) sh kf) (fun u => rfl) (fun u hu => ?_)
              obtain ⟨r_66, rfl⟩ : ∃ z, z = u := ⟨_, rfl⟩
              have h67 : r_66 = if hasI (sh 0 1 1) j n0 then 1 else 0 := hu
              by_cases c68 : hasI (sh 0 1 1) j n0
              · rw [if_pos c68] at h67
                subst h67
                show Go E Q 8 0 0 83 [(7, .ref (a 37)), (6, .ref (a 39)), (0, .ref (a 0)), (1, .int x), (2, .int i), (3, .int y), (4, .int j), (5, .int n0)] [.int 1] (loftW cI cS a m v w (seS T C li ap va le) (tpS B L P F) sh kf)
                refine g_if_ne hE 89 dX4_copy_83 (by decide) (fun c69 => ?_) (fun c69 => absurd c69 (by decide))
                refine g_aload hE dX4_copy_89 1 rfl ?_
                refine g_get hE fl_X4_257 dX4_copy_91 39 rfl rfl ?_
                refine g_iload_n hE dX4_copy_94 4 rfl ?_
                refine g_aload hE dX4_copy_95 0 rfl ?_
                refine g_get hE fl_X4_257 dX4_copy_97 37 rfl rfl ?_
                refine g_iload hE dX4_copy_100 6 rfl ?_
                refine g_iload hE dX4_copy_102 7 rfl ?_
                refine g_copy hE (by decide) ml_X4_260 ac_na ac_st ac_in dX4_copy_104 40 38 rfl rfl (Int32.not_lt.mpr c64.1) (Int32.not_lt.mpr c68.1) (Int32.not_lt.mpr c64.2.2.1) (cp_b c64 (hsh 1 (by decide))) (cp_b c68 (hsh 0 (by decide))) (Nat.le_of_ble_eq_true rfl) (loftW cI cS a m v w (seS T C li ap va le) (tpS B L P F) (pA sh 0 (shT (va_cpy (sh 1 0) (sh 0 0) (Int32.toNatClampNeg i) (Int32.toNatClampNeg j) (Int32.toNatClampNeg n0)) (sh 0 1 0) (sh 0 1 1))) kf) (by rfl) ?_
                refine g_iload hE dX4_copy_107 7 rfl ?_
                exact g_iret hE hQ dX4_copy_109 rfl (1, 0, n0, (pA sh 0 (shT (va_cpy (sh 1 0) (sh 0 0) (Int32.toNatClampNeg i) (Int32.toNatClampNeg j) (Int32.toNatClampNeg n0)) (sh 0 1 0) (sh 0 1 1)))) rfl rfl ⟨h2, h58, (by show (n0, (pA sh 0 (shT (va_cpy (sh 1 0) (sh 0 0) (Int32.toNatClampNeg i) (Int32.toNatClampNeg j) (Int32.toNatClampNeg n0)) (sh 0 1 0) (sh 0 1 1)))) = fgCopy sh 1 0 i j n0; simp only [fgCopy, if_neg (show ¬ (1 : Nat) = 4 by decide), if_neg (show ¬ (0 : Nat) = 4 by decide), if_neg (show ¬ (sh 1 1 0) = (-1) from c59), if_neg (show ¬ (sh 0 1 0) = (-1) from c60), if_pos (show (sh 1 1 0) = (sh 0 1 0) from c61), if_pos c64, if_pos c68, if_pos trivial])⟩
              · rw [if_neg c68] at h67
                subst h67
                show Go E Q 8 0 0 83 [(7, .ref (a 37)), (6, .ref (a 39)), (0, .ref (a 0)), (1, .int x), (2, .int i), (3, .int y), (4, .int j), (5, .int n0)] [.int 0] (loftW cI cS a m v w (seS T C li ap va le) (tpS B L P F) sh kf)
                refine g_if_ne hE 89 dX4_copy_83 (by decide) (fun c70 => absurd (by decide) c70) (fun c70 => ?_)
                refine g_bipush hE dX4_copy_86 (-13) (by decide) ?_
                exact g_iret hE hQ dX4_copy_88 rfl (1, 0, (-13), sh) rfl rfl ⟨h2, h58, (by show ((-13), sh) = fgCopy sh 1 0 i j n0; simp only [fgCopy, if_neg (show ¬ (1 : Nat) = 4 by decide), if_neg (show ¬ (0 : Nat) = 4 by decide), if_neg (show ¬ (sh 1 1 0) = (-1) from c59), if_neg (show ¬ (sh 0 1 0) = (-1) from c60), if_pos (show (sh 1 1 0) = (sh 0 1 0) from c61), if_pos c64, if_neg c68, if_pos trivial])⟩
            · rw [if_neg c64] at h63
              subst h63
              show Go E Q 8 0 0 71 [(7, .ref (a 37)), (6, .ref (a 39)), (0, .ref (a 0)), (1, .int x), (2, .int i), (3, .int y), (4, .int j), (5, .int n0)] [.int 0] (loftW cI cS a m v w (seS T C li ap va le) (tpS B L P F) sh kf)
              refine g_if_eq hE 86 dX4_copy_71 (by decide) (fun c71 => ?_) (fun c71 => absurd (by decide) c71)
              refine g_bipush hE dX4_copy_86 (-13) (by decide) ?_
              exact g_iret hE hQ dX4_copy_88 rfl (1, 0, (-13), sh) rfl rfl ⟨h2, h58, (by show ((-13), sh) = fgCopy sh 1 0 i j n0; simp only [fgCopy, if_neg (show ¬ (1 : Nat) = 4 by decide), if_neg (show ¬ (0 : Nat) = 4 by decide), if_neg (show ¬ (sh 1 1 0) = (-1) from c59), if_neg (show ¬ (sh 0 1 0) = (-1) from c60), if_pos (show (sh 1 1 0) = (sh 0 1 0) from c61), if_neg c64, if_pos trivial])⟩
          · refine g_bipush hE dX4_copy_60 (-12) (by decide) ?_
            exact g_iret hE hQ dX4_copy_62 rfl (1, 0, (-12), sh) rfl rfl ⟨h2, h58, (by show ((-12), sh) = fgCopy sh 1 0 i j n0; simp only [fgCopy, if_neg (show ¬ (1 : Nat) = 4 by decide), if_neg (show ¬ (0 : Nat) = 4 by decide), if_neg (show ¬ (sh 1 1 0) = (-1) from c59), if_neg (show ¬ (sh 0 1 0) = (-1) from c60), if_neg (show ¬ (sh 1 1 0) = (sh 0 1 0) from c61), if_pos trivial])⟩
        · refine g_bipush hE dX4_copy_44 (-11) (by decide) ?_
          exact g_iret hE hQ dX4_copy_46 rfl (1, 0, (-11), sh) rfl rfl ⟨h2, h58, (by show ((-11), sh) = fgCopy sh 1 0 i j n0; simp only [fgCopy, if_neg (show ¬ (1 : Nat) = 4 by decide), if_neg (show ¬ (0 : Nat) = 4 by decide), if_neg (show ¬ (sh 1 1 0) = (-1) from c59), if_pos (show (sh 0 1 0) = (-1) from c60), if_pos trivial])⟩
    · show Go E Q 8 0 0 12 [(6, .ref (a 39)), (0, .ref (a 0)), (1, .int x), (2, .int i), (3, .int y), (4, .int j), (5, .int n0)] [.ref (a 39)] (loftW cI cS a m v w (seS T C li ap va le) (tpS B L P F) sh kf)
      refine g_astore hE dX4_copy_12 [(7, .ref (a 39)), (6, .ref (a 39)), (0, .ref (a 0)), (1, .int x), (2, .int i), (3, .int y), (4, .int j), (5, .int n0)] (by decide) rfl ?_
      refine g_aload hE dX4_copy_14 1 rfl ?_
      refine g_ifnull hE dX4_copy_16 ?_
      refine g_aload hE dX4_copy_19 0 rfl ?_
      refine g_ifnonnull hE 26 dX4_copy_21 (by decide) ?_
      refine g_aload hE dX4_copy_26 1 rfl ?_
      refine g_get hE fl_X4_247 dX4_copy_28 39 rfl rfl ?_
      refine g_iconst hE dX4_copy_31 (-1) (by decide) ?_
      refine g_icmp_eq hE 44 dX4_copy_32 (by decide) (fun c72 => ?_) (fun c72 => ?_)
      · refine g_bipush hE dX4_copy_44 (-11) (by decide) ?_
        exact g_iret hE hQ dX4_copy_46 rfl (1, 1, (-11), sh) rfl rfl ⟨h2, h58, (by show ((-11), sh) = fgCopy sh 1 1 i j n0; simp only [fgCopy, if_neg (show ¬ (1 : Nat) = 4 by decide), if_neg (show ¬ (1 : Nat) = 4 by decide), if_pos (show (sh 1 1 0) = (-1) from c72), if_pos trivial])⟩
      · refine g_aload hE dX4_copy_35 0 rfl ?_
        refine g_get hE fl_X4_247 dX4_copy_37 39 rfl rfl ?_
        refine g_iconst hE dX4_copy_40 (-1) (by decide) ?_
        refine g_icmp_ne hE 47 dX4_copy_41 (by decide) (fun c73 => ?_) (fun c73 => absurd c73 (show ¬ (sh 1 1 0) = (-1) from c72))
        refine g_aload hE dX4_copy_47 1 rfl ?_
        refine g_get hE fl_X4_247 dX4_copy_49 39 rfl rfl ?_
        refine g_aload hE dX4_copy_52 0 rfl ?_
        refine g_get hE fl_X4_247 dX4_copy_54 39 rfl rfl ?_
        refine g_icmp_eq hE 63 dX4_copy_57 (by decide) (fun c74 => ?_) (fun c74 => ?_)
        · refine g_aload hE dX4_copy_63 1 rfl ?_
          refine g_iload_n hE dX4_copy_65 4 rfl ?_
          refine g_iload hE dX4_copy_66 7 rfl ?_
          refine g_callV hE (c_X2_hasItems cI cS (fun i => a (i + 39)) (sh 1 0) (sh 1 1 0) (sh 1 1 1) i n0) mk_X2_hasItems mv_X2_hasItems ml_X4_254 dX4_copy_68 (As := [.int i, .int n0]) (rest := []) rfl rfl 39 rfl (show vwCl[2]? = some (RX2, TX2, 3) from rfl) (by decide) (by decide) (Nat.le_of_ble_eq_true rfl) (by decide) (by decide) [39, 40] rfl (by decide) (fun u => Nat.le_of_ble_eq_true rfl) (ws' := fun u => loftW cI cS a m v w (seS T C li ap va le) (tpS B L P F) sh kf) (fun u => rfl) (fun u hu => ?_)
          obtain ⟨r_75, rfl⟩ : ∃ z, z = u := ⟨_, rfl⟩
          have h76 : r_75 = if hasI (sh 1 1 1) i n0 then 1 else 0 := hu
          by_cases c77 : hasI (sh 1 1 1) i n0
          · rw [if_pos c77] at h76
            subst h76
            show Go E Q 8 0 0 71 [(7, .ref (a 39)), (6, .ref (a 39)), (0, .ref (a 0)), (1, .int x), (2, .int i), (3, .int y), (4, .int j), (5, .int n0)] [.int 1] (loftW cI cS a m v w (seS T C li ap va le) (tpS B L P F) sh kf)
            refine g_if_eq hE 86 dX4_copy_71 (by decide) (fun c78 => absurd c78 (by decide)) (fun c78 => ?_)
            refine g_aload hE dX4_copy_74 0 rfl ?_
            refine g_iload hE dX4_copy_76 6 rfl ?_
            refine g_iload hE dX4_copy_78 7 rfl ?_
            refine g_callV hE (c_X2_hasItems cI cS (fun i => a (i + 39)) (sh 1 0) (sh 1 1 0) (sh 1 1 1) j n0) mk_X2_hasItems mv_X2_hasItems ml_X4_254 dX4_copy_80 (As := [.int j, .int n0]) (rest := []) rfl rfl 39 rfl (show vwCl[2]? = some (RX2, TX2, 3) from rfl) (by decide) (by decide) (Nat.le_of_ble_eq_true rfl) (by decide) (by decide) [39, 40] rfl (by decide) (fun u => Nat.le_of_ble_eq_true rfl) (ws' := fun u => loftW cI cS a m v w (seS T C li ap va le) (tpS B L P F) sh kf) (fun u => rfl) (fun u hu => ?_)
            obtain ⟨r_79, rfl⟩ : ∃ z, z = u := ⟨_, rfl⟩
            have h80 : r_79 = if hasI (sh 1 1 1) j n0 then 1 else 0 := hu
            by_cases c81 : hasI (sh 1 1 1) j n0
            · rw [if_pos c81] at h80
              subst h80
              show Go E Q 8 0 0 83 [(7, .ref (a 39)), (6, .ref (a 39)), (0, .ref (a 0)), (1, .int x), (2, .int i), (3, .int y), (4, .int j), (5, .int n0)] [.int 1] (loftW cI cS a m v w (seS T C li ap va le) (tpS B L P F) sh kf)
              refine g_if_ne hE 89 dX4_copy_83 (by decide) (fun c82 => ?_) (fun c82 => absurd c82 (by decide))
              refine g_aload hE dX4_copy_89 1 rfl ?_
              refine g_get hE fl_X4_257 dX4_copy_91 39 rfl rfl ?_
              refine g_iload_n hE dX4_copy_94 4 rfl ?_
              refine g_aload hE dX4_copy_95 0 rfl ?_
              refine g_get hE fl_X4_257 dX4_copy_97 39 rfl rfl ?_
              refine g_iload hE dX4_copy_100 6 rfl ?_
              refine g_iload hE dX4_copy_102 7 rfl ?_
              refine g_copy hE (by decide) ml_X4_260 ac_na ac_st ac_in dX4_copy_104 40 40 rfl rfl (Int32.not_lt.mpr c77.1) (Int32.not_lt.mpr c81.1) (Int32.not_lt.mpr c77.2.2.1) (cp_b c77 (hsh 1 (by decide))) (cp_b c81 (hsh 1 (by decide))) (Nat.le_of_ble_eq_true rfl) (loftW cI cS a m v w (seS T C li ap va le) (tpS B L P F) (pA sh 1 (shT (va_cpy (sh 1 0) (sh 1 0) (Int32.toNatClampNeg i) (Int32.toNatClampNeg j) (Int32.toNatClampNeg n0)) (sh 1 1 0) (sh 1 1 1))) kf) (by rfl) ?_
              refine g_iload hE dX4_copy_107 7 rfl ?_
              exact g_iret hE hQ dX4_copy_109 rfl (1, 1, n0, (pA sh 1 (shT (va_cpy (sh 1 0) (sh 1 0) (Int32.toNatClampNeg i) (Int32.toNatClampNeg j) (Int32.toNatClampNeg n0)) (sh 1 1 0) (sh 1 1 1)))) rfl rfl ⟨h2, h58, (by show (n0, (pA sh 1 (shT (va_cpy (sh 1 0) (sh 1 0) (Int32.toNatClampNeg i) (Int32.toNatClampNeg j) (Int32.toNatClampNeg n0)) (sh 1 1 0) (sh 1 1 1)))) = fgCopy sh 1 1 i j n0; simp only [fgCopy, if_neg (show ¬ (1 : Nat) = 4 by decide), if_neg (show ¬ (1 : Nat) = 4 by decide), if_neg (show ¬ (sh 1 1 0) = (-1) from c72), if_neg (show ¬ (sh 1 1 0) = (-1) from c72), if_pos (show (sh 1 1 0) = (sh 1 1 0) from c74), if_pos c77, if_pos c81, if_pos trivial])⟩
            · rw [if_neg c81] at h80
              subst h80
              show Go E Q 8 0 0 83 [(7, .ref (a 39)), (6, .ref (a 39)), (0, .ref (a 0)), (1, .int x), (2, .int i), (3, .int y), (4, .int j), (5, .int n0)] [.int 0] (loftW cI cS a m v w (seS T C li ap va le) (tpS B L P F) sh kf)
              refine g_if_ne hE 89 dX4_copy_83 (by decide) (fun c83 => absurd (by decide) c83) (fun c83 => ?_)
              refine g_bipush hE dX4_copy_86 (-13) (by decide) ?_
              exact g_iret hE hQ dX4_copy_88 rfl (1, 1, (-13), sh) rfl rfl ⟨h2, h58, (by show ((-13), sh) = fgCopy sh 1 1 i j n0; simp only [fgCopy, if_neg (show ¬ (1 : Nat) = 4 by decide), if_neg (show ¬ (1 : Nat) = 4 by decide), if_neg (show ¬ (sh 1 1 0) = (-1) from c72), if_neg (show ¬ (sh 1 1 0) = (-1) from c72), if_pos (show (sh 1 1 0) = (sh 1 1 0) from c74), if_pos c77, if_neg c81, if_pos trivial])⟩
          · rw [if_neg c77] at h76
            subst h76
            show Go E Q 8 0 0 71 [(7, .ref (a 39)), (6, .ref (a 39)), (0, .ref (a 0)), (1, .int x), (2, .int i), (3, .int y), (4, .int j), (5, .int n0)] [.int 0] (loftW cI cS a m v w (seS T C li ap va le) (tpS B L P F) sh kf)
            refine g_if_eq hE 86 dX4_copy_71 (by decide) (fun c84 => ?_) (fun c84 => absurd (by decide) c84)
            refine g_bipush hE dX4_copy_86 (-13) (by decide) ?_
            exact g_iret hE hQ dX4_copy_88 rfl (1, 1, (-13), sh) rfl rfl ⟨h2, h58, (by show ((-13), sh) = fgCopy sh 1 1 i j n0; simp only [fgCopy, if_neg (show ¬ (1 : Nat) = 4 by decide), if_neg (show ¬ (1 : Nat) = 4 by decide), if_neg (show ¬ (sh 1 1 0) = (-1) from c72), if_neg (show ¬ (sh 1 1 0) = (-1) from c72), if_pos (show (sh 1 1 0) = (sh 1 1 0) from c74), if_neg c77, if_pos trivial])⟩
        · refine g_bipush hE dX4_copy_60 (-12) (by decide) ?_
          exact g_iret hE hQ dX4_copy_62 rfl (1, 1, (-12), sh) rfl rfl ⟨h2, h58, (absurd rfl (show ¬ (sh 1 1 0) = (sh 1 1 0) from c74))⟩
    · show Go E Q 8 0 0 12 [(6, .ref (a 39)), (0, .ref (a 0)), (1, .int x), (2, .int i), (3, .int y), (4, .int j), (5, .int n0)] [.ref (a 41)] (loftW cI cS a m v w (seS T C li ap va le) (tpS B L P F) sh kf)
      refine g_astore hE dX4_copy_12 [(7, .ref (a 41)), (6, .ref (a 39)), (0, .ref (a 0)), (1, .int x), (2, .int i), (3, .int y), (4, .int j), (5, .int n0)] (by decide) rfl ?_
      refine g_aload hE dX4_copy_14 1 rfl ?_
      refine g_ifnull hE dX4_copy_16 ?_
      refine g_aload hE dX4_copy_19 0 rfl ?_
      refine g_ifnonnull hE 26 dX4_copy_21 (by decide) ?_
      refine g_aload hE dX4_copy_26 1 rfl ?_
      refine g_get hE fl_X4_247 dX4_copy_28 39 rfl rfl ?_
      refine g_iconst hE dX4_copy_31 (-1) (by decide) ?_
      refine g_icmp_eq hE 44 dX4_copy_32 (by decide) (fun c85 => ?_) (fun c85 => ?_)
      · refine g_bipush hE dX4_copy_44 (-11) (by decide) ?_
        exact g_iret hE hQ dX4_copy_46 rfl (1, 2, (-11), sh) rfl rfl ⟨h2, h58, (by show ((-11), sh) = fgCopy sh 1 2 i j n0; simp only [fgCopy, if_neg (show ¬ (1 : Nat) = 4 by decide), if_neg (show ¬ (2 : Nat) = 4 by decide), if_pos (show (sh 1 1 0) = (-1) from c85), if_pos trivial])⟩
      · refine g_aload hE dX4_copy_35 0 rfl ?_
        refine g_get hE fl_X4_247 dX4_copy_37 41 rfl rfl ?_
        refine g_iconst hE dX4_copy_40 (-1) (by decide) ?_
        refine g_icmp_ne hE 47 dX4_copy_41 (by decide) (fun c86 => ?_) (fun c86 => ?_)
        · refine g_aload hE dX4_copy_47 1 rfl ?_
          refine g_get hE fl_X4_247 dX4_copy_49 39 rfl rfl ?_
          refine g_aload hE dX4_copy_52 0 rfl ?_
          refine g_get hE fl_X4_247 dX4_copy_54 41 rfl rfl ?_
          refine g_icmp_eq hE 63 dX4_copy_57 (by decide) (fun c87 => ?_) (fun c87 => ?_)
          · refine g_aload hE dX4_copy_63 1 rfl ?_
            refine g_iload_n hE dX4_copy_65 4 rfl ?_
            refine g_iload hE dX4_copy_66 7 rfl ?_
            refine g_callV hE (c_X2_hasItems cI cS (fun i => a (i + 39)) (sh 1 0) (sh 1 1 0) (sh 1 1 1) i n0) mk_X2_hasItems mv_X2_hasItems ml_X4_254 dX4_copy_68 (As := [.int i, .int n0]) (rest := []) rfl rfl 39 rfl (show vwCl[2]? = some (RX2, TX2, 3) from rfl) (by decide) (by decide) (Nat.le_of_ble_eq_true rfl) (by decide) (by decide) [39, 40] rfl (by decide) (fun u => Nat.le_of_ble_eq_true rfl) (ws' := fun u => loftW cI cS a m v w (seS T C li ap va le) (tpS B L P F) sh kf) (fun u => rfl) (fun u hu => ?_)
            obtain ⟨r_88, rfl⟩ : ∃ z, z = u := ⟨_, rfl⟩
            have h89 : r_88 = if hasI (sh 1 1 1) i n0 then 1 else 0 := hu
            by_cases c90 : hasI (sh 1 1 1) i n0
            · rw [if_pos c90] at h89
              subst h89
              show Go E Q 8 0 0 71 [(7, .ref (a 41)), (6, .ref (a 39)), (0, .ref (a 0)), (1, .int x), (2, .int i), (3, .int y), (4, .int j), (5, .int n0)] [.int 1] (loftW cI cS a m v w (seS T C li ap va le) (tpS B L P F) sh kf)
              refine g_if_eq hE 86 dX4_copy_71 (by decide) (fun c91 => absurd c91 (by decide)) (fun c91 => ?_)
              refine g_aload hE dX4_copy_74 0 rfl ?_
              refine g_iload hE dX4_copy_76 6 rfl ?_
              refine g_iload hE dX4_copy_78 7 rfl ?_
              refine g_callV hE (c_X2_hasItems cI cS (fun i => a (i + 41)) (sh 2 0) (sh 2 1 0) (sh 2 1 1) j n0) mk_X2_hasItems mv_X2_hasItems ml_X4_254 dX4_copy_80 (As := [.int j, .int n0]) (rest := []) rfl rfl 41 rfl (show vwCl[2]? = some (RX2, TX2, 3) from rfl) (by decide) (by decide) (Nat.le_of_ble_eq_true rfl) (by decide) (by decide) [41, 42] rfl (by decide) (fun u => Nat.le_of_ble_eq_true rfl) (ws' := fun u => loftW cI cS a m v w (seS T C li ap va le) (tpS B L P F) sh kf) (fun u => rfl) (fun u hu => ?_)
              obtain ⟨r_92, rfl⟩ : ∃ z, z = u := ⟨_, rfl⟩
              have h93 : r_92 = if hasI (sh 2 1 1) j n0 then 1 else 0 := hu
              by_cases c94 : hasI (sh 2 1 1) j n0
              · rw [if_pos c94] at h93
                subst h93
                show Go E Q 8 0 0 83 [(7, .ref (a 41)), (6, .ref (a 39)), (0, .ref (a 0)), (1, .int x), (2, .int i), (3, .int y), (4, .int j), (5, .int n0)] [.int 1] (loftW cI cS a m v w (seS T C li ap va le) (tpS B L P F) sh kf)
                refine g_if_ne hE 89 dX4_copy_83 (by decide) (fun c95 => ?_) (fun c95 => absurd c95 (by decide))
                refine g_aload hE dX4_copy_89 1 rfl ?_
                refine g_get hE fl_X4_257 dX4_copy_91 39 rfl rfl ?_
                refine g_iload_n hE dX4_copy_94 4 rfl ?_
                refine g_aload hE dX4_copy_95 0 rfl ?_
                refine g_get hE fl_X4_257 dX4_copy_97 41 rfl rfl ?_
                refine g_iload hE dX4_copy_100 6 rfl ?_
                refine g_iload hE dX4_copy_102 7 rfl ?_
                refine g_copy hE (by decide) ml_X4_260 ac_na ac_st ac_in dX4_copy_104 40 42 rfl rfl (Int32.not_lt.mpr c90.1) (Int32.not_lt.mpr c94.1) (Int32.not_lt.mpr c90.2.2.1) (cp_b c90 (hsh 1 (by decide))) (cp_b c94 (hsh 2 (by decide))) (Nat.le_of_ble_eq_true rfl) (loftW cI cS a m v w (seS T C li ap va le) (tpS B L P F) (pA sh 2 (shT (va_cpy (sh 1 0) (sh 2 0) (Int32.toNatClampNeg i) (Int32.toNatClampNeg j) (Int32.toNatClampNeg n0)) (sh 2 1 0) (sh 2 1 1))) kf) (by rfl) ?_
                refine g_iload hE dX4_copy_107 7 rfl ?_
                exact g_iret hE hQ dX4_copy_109 rfl (1, 2, n0, (pA sh 2 (shT (va_cpy (sh 1 0) (sh 2 0) (Int32.toNatClampNeg i) (Int32.toNatClampNeg j) (Int32.toNatClampNeg n0)) (sh 2 1 0) (sh 2 1 1)))) rfl rfl ⟨h2, h58, (by show (n0, (pA sh 2 (shT (va_cpy (sh 1 0) (sh 2 0) (Int32.toNatClampNeg i) (Int32.toNatClampNeg j) (Int32.toNatClampNeg n0)) (sh 2 1 0) (sh 2 1 1)))) = fgCopy sh 1 2 i j n0; simp only [fgCopy, if_neg (show ¬ (1 : Nat) = 4 by decide), if_neg (show ¬ (2 : Nat) = 4 by decide), if_neg (show ¬ (sh 1 1 0) = (-1) from c85), if_neg (show ¬ (sh 2 1 0) = (-1) from c86), if_pos (show (sh 1 1 0) = (sh 2 1 0) from c87), if_pos c90, if_pos c94, if_pos trivial])⟩
              · rw [if_neg c94] at h93
                subst h93
                show Go E Q 8 0 0 83 [(7, .ref (a 41)), (6, .ref (a 39)), (0, .ref (a 0)), (1, .int x), (2, .int i), (3, .int y), (4, .int j), (5, .int n0)] [.int 0] (loftW cI cS a m v w (seS T C li ap va le) (tpS B L P F) sh kf)
                refine g_if_ne hE 89 dX4_copy_83 (by decide) (fun c96 => absurd (by decide) c96) (fun c96 => ?_)
                refine g_bipush hE dX4_copy_86 (-13) (by decide) ?_
                exact g_iret hE hQ dX4_copy_88 rfl (1, 2, (-13), sh) rfl rfl ⟨h2, h58, (by show ((-13), sh) = fgCopy sh 1 2 i j n0; simp only [fgCopy, if_neg (show ¬ (1 : Nat) = 4 by decide), if_neg (show ¬ (2 : Nat) = 4 by decide), if_neg (show ¬ (sh 1 1 0) = (-1) from c85), if_neg (show ¬ (sh 2 1 0) = (-1) from c86), if_pos (show (sh 1 1 0) = (sh 2 1 0) from c87), if_pos c90, if_neg c94, if_pos trivial])⟩
            · rw [if_neg c90] at h89
              subst h89
              show Go E Q 8 0 0 71 [(7, .ref (a 41)), (6, .ref (a 39)), (0, .ref (a 0)), (1, .int x), (2, .int i), (3, .int y), (4, .int j), (5, .int n0)] [.int 0] (loftW cI cS a m v w (seS T C li ap va le) (tpS B L P F) sh kf)
              refine g_if_eq hE 86 dX4_copy_71 (by decide) (fun c97 => ?_) (fun c97 => absurd (by decide) c97)
              refine g_bipush hE dX4_copy_86 (-13) (by decide) ?_
              exact g_iret hE hQ dX4_copy_88 rfl (1, 2, (-13), sh) rfl rfl ⟨h2, h58, (by show ((-13), sh) = fgCopy sh 1 2 i j n0; simp only [fgCopy, if_neg (show ¬ (1 : Nat) = 4 by decide), if_neg (show ¬ (2 : Nat) = 4 by decide), if_neg (show ¬ (sh 1 1 0) = (-1) from c85), if_neg (show ¬ (sh 2 1 0) = (-1) from c86), if_pos (show (sh 1 1 0) = (sh 2 1 0) from c87), if_neg c90, if_pos trivial])⟩
          · refine g_bipush hE dX4_copy_60 (-12) (by decide) ?_
            exact g_iret hE hQ dX4_copy_62 rfl (1, 2, (-12), sh) rfl rfl ⟨h2, h58, (by show ((-12), sh) = fgCopy sh 1 2 i j n0; simp only [fgCopy, if_neg (show ¬ (1 : Nat) = 4 by decide), if_neg (show ¬ (2 : Nat) = 4 by decide), if_neg (show ¬ (sh 1 1 0) = (-1) from c85), if_neg (show ¬ (sh 2 1 0) = (-1) from c86), if_neg (show ¬ (sh 1 1 0) = (sh 2 1 0) from c87), if_pos trivial])⟩
        · refine g_bipush hE dX4_copy_44 (-11) (by decide) ?_
          exact g_iret hE hQ dX4_copy_46 rfl (1, 2, (-11), sh) rfl rfl ⟨h2, h58, (by show ((-11), sh) = fgCopy sh 1 2 i j n0; simp only [fgCopy, if_neg (show ¬ (1 : Nat) = 4 by decide), if_neg (show ¬ (2 : Nat) = 4 by decide), if_neg (show ¬ (sh 1 1 0) = (-1) from c85), if_pos (show (sh 2 1 0) = (-1) from c86), if_pos trivial])⟩
    · show Go E Q 8 0 0 12 [(6, .ref (a 39)), (0, .ref (a 0)), (1, .int x), (2, .int i), (3, .int y), (4, .int j), (5, .int n0)] [.ref (a 43)] (loftW cI cS a m v w (seS T C li ap va le) (tpS B L P F) sh kf)
      refine g_astore hE dX4_copy_12 [(7, .ref (a 43)), (6, .ref (a 39)), (0, .ref (a 0)), (1, .int x), (2, .int i), (3, .int y), (4, .int j), (5, .int n0)] (by decide) rfl ?_
      refine g_aload hE dX4_copy_14 1 rfl ?_
      refine g_ifnull hE dX4_copy_16 ?_
      refine g_aload hE dX4_copy_19 0 rfl ?_
      refine g_ifnonnull hE 26 dX4_copy_21 (by decide) ?_
      refine g_aload hE dX4_copy_26 1 rfl ?_
      refine g_get hE fl_X4_247 dX4_copy_28 39 rfl rfl ?_
      refine g_iconst hE dX4_copy_31 (-1) (by decide) ?_
      refine g_icmp_eq hE 44 dX4_copy_32 (by decide) (fun c98 => ?_) (fun c98 => ?_)
      · refine g_bipush hE dX4_copy_44 (-11) (by decide) ?_
        exact g_iret hE hQ dX4_copy_46 rfl (1, 3, (-11), sh) rfl rfl ⟨h2, h58, (by show ((-11), sh) = fgCopy sh 1 3 i j n0; simp only [fgCopy, if_neg (show ¬ (1 : Nat) = 4 by decide), if_neg (show ¬ (3 : Nat) = 4 by decide), if_pos (show (sh 1 1 0) = (-1) from c98), if_pos trivial])⟩
      · refine g_aload hE dX4_copy_35 0 rfl ?_
        refine g_get hE fl_X4_247 dX4_copy_37 43 rfl rfl ?_
        refine g_iconst hE dX4_copy_40 (-1) (by decide) ?_
        refine g_icmp_ne hE 47 dX4_copy_41 (by decide) (fun c99 => ?_) (fun c99 => ?_)
        · refine g_aload hE dX4_copy_47 1 rfl ?_
          refine g_get hE fl_X4_247 dX4_copy_49 39 rfl rfl ?_
          refine g_aload hE dX4_copy_52 0 rfl ?_
          refine g_get hE fl_X4_247 dX4_copy_54 43 rfl rfl ?_
          refine g_icmp_eq hE 63 dX4_copy_57 (by decide) (fun c100 => ?_) (fun c100 => ?_)
          · refine g_aload hE dX4_copy_63 1 rfl ?_
            refine g_iload_n hE dX4_copy_65 4 rfl ?_
            refine g_iload hE dX4_copy_66 7 rfl ?_
            refine g_callV hE (c_X2_hasItems cI cS (fun i => a (i + 39)) (sh 1 0) (sh 1 1 0) (sh 1 1 1) i n0) mk_X2_hasItems mv_X2_hasItems ml_X4_254 dX4_copy_68 (As := [.int i, .int n0]) (rest := []) rfl rfl 39 rfl (show vwCl[2]? = some (RX2, TX2, 3) from rfl) (by decide) (by decide) (Nat.le_of_ble_eq_true rfl) (by decide) (by decide) [39, 40] rfl (by decide) (fun u => Nat.le_of_ble_eq_true rfl) (ws' := fun u => loftW cI cS a m v w (seS T C li ap va le) (tpS B L P F) sh kf) (fun u => rfl) (fun u hu => ?_)
            obtain ⟨r_101, rfl⟩ : ∃ z, z = u := ⟨_, rfl⟩
            have h102 : r_101 = if hasI (sh 1 1 1) i n0 then 1 else 0 := hu
            by_cases c103 : hasI (sh 1 1 1) i n0
            · rw [if_pos c103] at h102
              subst h102
              show Go E Q 8 0 0 71 [(7, .ref (a 43)), (6, .ref (a 39)), (0, .ref (a 0)), (1, .int x), (2, .int i), (3, .int y), (4, .int j), (5, .int n0)] [.int 1] (loftW cI cS a m v w (seS T C li ap va le) (tpS B L P F) sh kf)
              refine g_if_eq hE 86 dX4_copy_71 (by decide) (fun c104 => absurd c104 (by decide)) (fun c104 => ?_)
              refine g_aload hE dX4_copy_74 0 rfl ?_
              refine g_iload hE dX4_copy_76 6 rfl ?_
              refine g_iload hE dX4_copy_78 7 rfl ?_
              refine g_callV hE (c_X2_hasItems cI cS (fun i => a (i + 43)) (sh 3 0) (sh 3 1 0) (sh 3 1 1) j n0) mk_X2_hasItems mv_X2_hasItems ml_X4_254 dX4_copy_80 (As := [.int j, .int n0]) (rest := []) rfl rfl 43 rfl (show vwCl[2]? = some (RX2, TX2, 3) from rfl) (by decide) (by decide) (Nat.le_of_ble_eq_true rfl) (by decide) (by decide) [43, 44] rfl (by decide) (fun u => Nat.le_of_ble_eq_true rfl) (ws' := fun u => loftW cI cS a m v w (seS T C li ap va le) (tpS B L P F) sh kf) (fun u => rfl) (fun u hu => ?_)
              obtain ⟨r_105, rfl⟩ : ∃ z, z = u := ⟨_, rfl⟩
              have h106 : r_105 = if hasI (sh 3 1 1) j n0 then 1 else 0 := hu
              by_cases c107 : hasI (sh 3 1 1) j n0
              · rw [if_pos c107] at h106
                subst h106
                show Go E Q 8 0 0 83 [(7, .ref (a 43)), (6, .ref (a 39)), (0, .ref (a 0)), (1, .int x), (2, .int i), (3, .int y), (4, .int j), (5, .int n0)] [.int 1] (loftW cI cS a m v w (seS T C li ap va le) (tpS B L P F) sh kf)
                refine g_if_ne hE 89 dX4_copy_83 (by decide) (fun c108 => ?_) (fun c108 => absurd c108 (by decide))
                refine g_aload hE dX4_copy_89 1 rfl ?_
                refine g_get hE fl_X4_257 dX4_copy_91 39 rfl rfl ?_
                refine g_iload_n hE dX4_copy_94 4 rfl ?_
                refine g_aload hE dX4_copy_95 0 rfl ?_
                refine g_get hE fl_X4_257 dX4_copy_97 43 rfl rfl ?_
                refine g_iload hE dX4_copy_100 6 rfl ?_
                refine g_iload hE dX4_copy_102 7 rfl ?_
                refine g_copy hE (by decide) ml_X4_260 ac_na ac_st ac_in dX4_copy_104 40 44 rfl rfl (Int32.not_lt.mpr c103.1) (Int32.not_lt.mpr c107.1) (Int32.not_lt.mpr c103.2.2.1) (cp_b c103 (hsh 1 (by decide))) (cp_b c107 (hsh 3 (by decide))) (Nat.le_of_ble_eq_true rfl) (loftW cI cS a m v w (seS T C li ap va le) (tpS B L P F) (pA sh 3 (shT (va_cpy (sh 1 0) (sh 3 0) (Int32.toNatClampNeg i) (Int32.toNatClampNeg j) (Int32.toNatClampNeg n0)) (sh 3 1 0) (sh 3 1 1))) kf) (by rfl) ?_
                refine g_iload hE dX4_copy_107 7 rfl ?_
                exact g_iret hE hQ dX4_copy_109 rfl (1, 3, n0, (pA sh 3 (shT (va_cpy (sh 1 0) (sh 3 0) (Int32.toNatClampNeg i) (Int32.toNatClampNeg j) (Int32.toNatClampNeg n0)) (sh 3 1 0) (sh 3 1 1)))) rfl rfl ⟨h2, h58, (by show (n0, (pA sh 3 (shT (va_cpy (sh 1 0) (sh 3 0) (Int32.toNatClampNeg i) (Int32.toNatClampNeg j) (Int32.toNatClampNeg n0)) (sh 3 1 0) (sh 3 1 1)))) = fgCopy sh 1 3 i j n0; simp only [fgCopy, if_neg (show ¬ (1 : Nat) = 4 by decide), if_neg (show ¬ (3 : Nat) = 4 by decide), if_neg (show ¬ (sh 1 1 0) = (-1) from c98), if_neg (show ¬ (sh 3 1 0) = (-1) from c99), if_pos (show (sh 1 1 0) = (sh 3 1 0) from c100), if_pos c103, if_pos c107, if_pos trivial])⟩
              · rw [if_neg c107] at h106
                subst h106
                show Go E Q 8 0 0 83 [(7, .ref (a 43)), (6, .ref (a 39)), (0, .ref (a 0)), (1, .int x), (2, .int i), (3, .int y), (4, .int j), (5, .int n0)] [.int 0] (loftW cI cS a m v w (seS T C li ap va le) (tpS B L P F) sh kf)
                refine g_if_ne hE 89 dX4_copy_83 (by decide) (fun c109 => absurd (by decide) c109) (fun c109 => ?_)
                refine g_bipush hE dX4_copy_86 (-13) (by decide) ?_
                exact g_iret hE hQ dX4_copy_88 rfl (1, 3, (-13), sh) rfl rfl ⟨h2, h58, (by show ((-13), sh) = fgCopy sh 1 3 i j n0; simp only [fgCopy, if_neg (show ¬ (1 : Nat) = 4 by decide), if_neg (show ¬ (3 : Nat) = 4 by decide), if_neg (show ¬ (sh 1 1 0) = (-1) from c98), if_neg (show ¬ (sh 3 1 0) = (-1) from c99), if_pos (show (sh 1 1 0) = (sh 3 1 0) from c100), if_pos c103, if_neg c107, if_pos trivial])⟩
            · rw [if_neg c103] at h102
              subst h102
              show Go E Q 8 0 0 71 [(7, .ref (a 43)), (6, .ref (a 39)), (0, .ref (a 0)), (1, .int x), (2, .int i), (3, .int y), (4, .int j), (5, .int n0)] [.int 0] (loftW cI cS a m v w (seS T C li ap va le) (tpS B L P F) sh kf)
              refine g_if_eq hE 86 dX4_copy_71 (by decide) (fun c110 => ?_) (fun c110 => absurd (by decide) c110)
              refine g_bipush hE dX4_copy_86 (-13) (by decide) ?_
              exact g_iret hE hQ dX4_copy_88 rfl (1, 3, (-13), sh) rfl rfl ⟨h2, h58, (by show ((-13), sh) = fgCopy sh 1 3 i j n0; simp only [fgCopy, if_neg (show ¬ (1 : Nat) = 4 by decide), if_neg (show ¬ (3 : Nat) = 4 by decide), if_neg (show ¬ (sh 1 1 0) = (-1) from c98), if_neg (show ¬ (sh 3 1 0) = (-1) from c99), if_pos (show (sh 1 1 0) = (sh 3 1 0) from c100), if_neg c103, if_pos trivial])⟩
          · refine g_bipush hE dX4_copy_60 (-12) (by decide) ?_
            exact g_iret hE hQ dX4_copy_62 rfl (1, 3, (-12), sh) rfl rfl ⟨h2, h58, (by show ((-12), sh) = fgCopy sh 1 3 i j n0; simp only [fgCopy, if_neg (show ¬ (1 : Nat) = 4 by decide), if_neg (show ¬ (3 : Nat) = 4 by decide), if_neg (show ¬ (sh 1 1 0) = (-1) from c98), if_neg (show ¬ (sh 3 1 0) = (-1) from c99), if_neg (show ¬ (sh 1 1 0) = (sh 3 1 0) from c100), if_pos trivial])⟩
        · refine g_bipush hE dX4_copy_44 (-11) (by decide) ?_
          exact g_iret hE hQ dX4_copy_46 rfl (1, 3, (-11), sh) rfl rfl ⟨h2, h58, (by show ((-11), sh) = fgCopy sh 1 3 i j n0; simp only [fgCopy, if_neg (show ¬ (1 : Nat) = 4 by decide), if_neg (show ¬ (3 : Nat) = 4 by decide), if_neg (show ¬ (sh 1 1 0) = (-1) from c98), if_pos (show (sh 3 1 0) = (-1) from c99), if_pos trivial])⟩
    · show Go E Q 8 0 0 12 [(6, .ref (a 39)), (0, .ref (a 0)), (1, .int x), (2, .int i), (3, .int y), (4, .int j), (5, .int n0)] [.null] (loftW cI cS a m v w (seS T C li ap va le) (tpS B L P F) sh kf)
      refine g_astoreN hE dX4_copy_12 [(7, .null), (6, .ref (a 39)), (0, .ref (a 0)), (1, .int x), (2, .int i), (3, .int y), (4, .int j), (5, .int n0)] (by decide) rfl ?_
      refine g_aload hE dX4_copy_14 1 rfl ?_
      refine g_ifnull hE dX4_copy_16 ?_
      refine g_aloadN hE dX4_copy_19 0 rfl ?_
      refine g_ifnonnullN hE dX4_copy_21 ?_
      refine g_iconst hE dX4_copy_24 (-1) (by decide) ?_
      exact g_iret hE hQ dX4_copy_25 rfl (1, 4, (-1), sh) rfl rfl ⟨h2, h58, (by show ((-1), sh) = fgCopy sh 1 4 i j n0; simp only [fgCopy, if_neg (show ¬ (1 : Nat) = 4 by decide), if_pos (show (4 : Nat) = 4 by decide), if_pos trivial])⟩
  · show Go E Q 8 0 0 5 [(0, .ref (a 0)), (1, .int x), (2, .int i), (3, .int y), (4, .int j), (5, .int n0)] [.ref (a 41)] (loftW cI cS a m v w (seS T C li ap va le) (tpS B L P F) sh kf)
    refine g_astore hE dX4_copy_5 [(6, .ref (a 41)), (0, .ref (a 0)), (1, .int x), (2, .int i), (3, .int y), (4, .int j), (5, .int n0)] (by decide) rfl ?_
    refine g_aload_n hE dX4_copy_7 1 rfl ?_
    refine g_iload_n hE dX4_copy_8 4 rfl ?_
    refine g_callV hE (c_X4_sheetAt cI cS a m v w T C li ap va le B L P F sh kf (by first | assumption | exact mw_of (by assumption)) (by first | assumption | exact mw_of (by assumption)) (by first | assumption | exact mw_of (by assumption)) hL y) mk_X4_sheetAt mv_X4_sheetAt ml_X4_221 dX4_copy_9 (As := [.int y]) (rest := []) rfl rfl 0 rfl (show vwCl[4]? = some (RX4, TX4, 7) from rfl) (by decide) (by decide) (Nat.le_of_ble_eq_true rfl) (by decide) (by decide) [0, 1, 2, 3, 4, 5, 6, 7, 8, 9, 10, 11, 12, 13, 14, 15, 16, 17, 18, 19, 20, 21, 22, 23, 24, 25, 26, 27, 28, 29, 30, 31, 32, 33, 34, 35, 36, 37, 38, 39, 40, 41, 42, 43, 44] rfl (by decide) (fun u => Nat.le_of_ble_eq_true rfl) (ws' := fun u => loftW cI cS a m v w (seS T C li ap va le) (tpS B L P F) sh kf) (fun u => rfl) (fun u hu => ?_)
    obtain ⟨k_111, rfl⟩ : ∃ z, z = u := ⟨_, rfl⟩
    have h112 : SK k_111 y := hu
    rcases (show k_111 = 0 ∨ k_111 = 1 ∨ k_111 = 2 ∨ k_111 = 3 ∨ k_111 = 4 by rcases h112 with q | q <;> omega) with rfl | rfl | rfl | rfl | rfl
    · show Go E Q 8 0 0 12 [(6, .ref (a 41)), (0, .ref (a 0)), (1, .int x), (2, .int i), (3, .int y), (4, .int j), (5, .int n0)] [.ref (a 37)] (loftW cI cS a m v w (seS T C li ap va le) (tpS B L P F) sh kf)
      refine g_astore hE dX4_copy_12 [(7, .ref (a 37)), (6, .ref (a 41)), (0, .ref (a 0)), (1, .int x), (2, .int i), (3, .int y), (4, .int j), (5, .int n0)] (by decide) rfl ?_
      refine g_aload hE dX4_copy_14 1 rfl ?_
      refine g_ifnull hE dX4_copy_16 ?_
      refine g_aload hE dX4_copy_19 0 rfl ?_
      refine g_ifnonnull hE 26 dX4_copy_21 (by decide) ?_
      refine g_aload hE dX4_copy_26 1 rfl ?_
      refine g_get hE fl_X4_247 dX4_copy_28 41 rfl rfl ?_
      refine g_iconst hE dX4_copy_31 (-1) (by decide) ?_
      refine g_icmp_eq hE 44 dX4_copy_32 (by decide) (fun c113 => ?_) (fun c113 => ?_)
      · refine g_bipush hE dX4_copy_44 (-11) (by decide) ?_
        exact g_iret hE hQ dX4_copy_46 rfl (2, 0, (-11), sh) rfl rfl ⟨h2, h112, (by show ((-11), sh) = fgCopy sh 2 0 i j n0; simp only [fgCopy, if_neg (show ¬ (2 : Nat) = 4 by decide), if_neg (show ¬ (0 : Nat) = 4 by decide), if_pos (show (sh 2 1 0) = (-1) from c113), if_pos trivial])⟩
      · refine g_aload hE dX4_copy_35 0 rfl ?_
        refine g_get hE fl_X4_247 dX4_copy_37 37 rfl rfl ?_
        refine g_iconst hE dX4_copy_40 (-1) (by decide) ?_
        refine g_icmp_ne hE 47 dX4_copy_41 (by decide) (fun c114 => ?_) (fun c114 => ?_)
        · refine g_aload hE dX4_copy_47 1 rfl ?_
          refine g_get hE fl_X4_247 dX4_copy_49 41 rfl rfl ?_
          refine g_aload hE dX4_copy_52 0 rfl ?_
          refine g_get hE fl_X4_247 dX4_copy_54 37 rfl rfl ?_
          refine g_icmp_eq hE 63 dX4_copy_57 (by decide) (fun c115 => ?_) (fun c115 => ?_)
          · refine g_aload hE dX4_copy_63 1 rfl ?_
            refine g_iload_n hE dX4_copy_65 4 rfl ?_
            refine g_iload hE dX4_copy_66 7 rfl ?_
            refine g_callV hE (c_X2_hasItems cI cS (fun i => a (i + 41)) (sh 2 0) (sh 2 1 0) (sh 2 1 1) i n0) mk_X2_hasItems mv_X2_hasItems ml_X4_254 dX4_copy_68 (As := [.int i, .int n0]) (rest := []) rfl rfl 41 rfl (show vwCl[2]? = some (RX2, TX2, 3) from rfl) (by decide) (by decide) (Nat.le_of_ble_eq_true rfl) (by decide) (by decide) [41, 42] rfl (by decide) (fun u => Nat.le_of_ble_eq_true rfl) (ws' := fun u => loftW cI cS a m v w (seS T C li ap va le) (tpS B L P F) sh kf) (fun u => rfl) (fun u hu => ?_)
            obtain ⟨r_116, rfl⟩ : ∃ z, z = u := ⟨_, rfl⟩
            have h117 : r_116 = if hasI (sh 2 1 1) i n0 then 1 else 0 := hu
            by_cases c118 : hasI (sh 2 1 1) i n0
            · rw [if_pos c118] at h117
              subst h117
              show Go E Q 8 0 0 71 [(7, .ref (a 37)), (6, .ref (a 41)), (0, .ref (a 0)), (1, .int x), (2, .int i), (3, .int y), (4, .int j), (5, .int n0)] [.int 1] (loftW cI cS a m v w (seS T C li ap va le) (tpS B L P F) sh kf)
              refine g_if_eq hE 86 dX4_copy_71 (by decide) (fun c119 => absurd c119 (by decide)) (fun c119 => ?_)
              refine g_aload hE dX4_copy_74 0 rfl ?_
              refine g_iload hE dX4_copy_76 6 rfl ?_
              refine g_iload hE dX4_copy_78 7 rfl ?_
              refine g_callV hE (c_X2_hasItems cI cS (fun i => a (i + 37)) (sh 0 0) (sh 0 1 0) (sh 0 1 1) j n0) mk_X2_hasItems mv_X2_hasItems ml_X4_254 dX4_copy_80 (As := [.int j, .int n0]) (rest := []) rfl rfl 37 rfl (show vwCl[2]? = some (RX2, TX2, 3) from rfl) (by decide) (by decide) (Nat.le_of_ble_eq_true rfl) (by decide) (by decide) [37, 38] rfl (by decide) (fun u => Nat.le_of_ble_eq_true rfl) (ws' := fun u => loftW cI cS a m v w (seS T C li ap va le) (tpS B L P F) sh kf) (fun u => rfl) (fun u hu => ?_)
              obtain ⟨r_120, rfl⟩ : ∃ z, z = u := ⟨_, rfl⟩
              have h121 : r_120 = if hasI (sh 0 1 1) j n0 then 1 else 0 := hu
              by_cases c122 : hasI (sh 0 1 1) j n0
              · rw [if_pos c122] at h121
                subst h121
                show Go E Q 8 0 0 83 [(7, .ref (a 37)), (6, .ref (a 41)), (0, .ref (a 0)), (1, .int x), (2, .int i), (3, .int y), (4, .int j), (5, .int n0)] [.int 1] (loftW cI cS a m v w (seS T C li ap va le) (tpS B L P F) sh kf)
                refine g_if_ne hE 89 dX4_copy_83 (by decide) (fun c123 => ?_) (fun c123 => absurd c123 (by decide))
                refine g_aload hE dX4_copy_89 1 rfl ?_
                refine g_get hE fl_X4_257 dX4_copy_91 41 rfl rfl ?_
                refine g_iload_n hE dX4_copy_94 4 rfl ?_
                refine g_aload hE dX4_copy_95 0 rfl ?_
                refine g_get hE fl_X4_257 dX4_copy_97 37 rfl rfl ?_
                refine g_iload hE dX4_copy_100 6 rfl ?_
                refine g_iload hE dX4_copy_102 7 rfl ?_
                refine g_copy hE (by decide) ml_X4_260 ac_na ac_st ac_in dX4_copy_104 42 38 rfl rfl (Int32.not_lt.mpr c118.1) (Int32.not_lt.mpr c122.1) (Int32.not_lt.mpr c118.2.2.1) (cp_b c118 (hsh 2 (by decide))) (cp_b c122 (hsh 0 (by decide))) (Nat.le_of_ble_eq_true rfl) (loftW cI cS a m v w (seS T C li ap va le) (tpS B L P F) (pA sh 0 (shT (va_cpy (sh 2 0) (sh 0 0) (Int32.toNatClampNeg i) (Int32.toNatClampNeg j) (Int32.toNatClampNeg n0)) (sh 0 1 0) (sh 0 1 1))) kf) (by rfl) ?_
                refine g_iload hE dX4_copy_107 7 rfl ?_
                exact g_iret hE hQ dX4_copy_109 rfl (2, 0, n0, (pA sh 0 (shT (va_cpy (sh 2 0) (sh 0 0) (Int32.toNatClampNeg i) (Int32.toNatClampNeg j) (Int32.toNatClampNeg n0)) (sh 0 1 0) (sh 0 1 1)))) rfl rfl ⟨h2, h112, (by show (n0, (pA sh 0 (shT (va_cpy (sh 2 0) (sh 0 0) (Int32.toNatClampNeg i) (Int32.toNatClampNeg j) (Int32.toNatClampNeg n0)) (sh 0 1 0) (sh 0 1 1)))) = fgCopy sh 2 0 i j n0; simp only [fgCopy, if_neg (show ¬ (2 : Nat) = 4 by decide), if_neg (show ¬ (0 : Nat) = 4 by decide), if_neg (show ¬ (sh 2 1 0) = (-1) from c113), if_neg (show ¬ (sh 0 1 0) = (-1) from c114), if_pos (show (sh 2 1 0) = (sh 0 1 0) from c115), if_pos c118, if_pos c122, if_pos trivial])⟩
              · rw [if_neg c122] at h121
                subst h121
                show Go E Q 8 0 0 83 [(7, .ref (a 37)), (6, .ref (a 41)), (0, .ref (a 0)), (1, .int x), (2, .int i), (3, .int y), (4, .int j), (5, .int n0)] [.int 0] (loftW cI cS a m v w (seS T C li ap va le) (tpS B L P F) sh kf)
                refine g_if_ne hE 89 dX4_copy_83 (by decide) (fun c124 => absurd (by decide) c124) (fun c124 => ?_)
                refine g_bipush hE dX4_copy_86 (-13) (by decide) ?_
                exact g_iret hE hQ dX4_copy_88 rfl (2, 0, (-13), sh) rfl rfl ⟨h2, h112, (by show ((-13), sh) = fgCopy sh 2 0 i j n0; simp only [fgCopy, if_neg (show ¬ (2 : Nat) = 4 by decide), if_neg (show ¬ (0 : Nat) = 4 by decide), if_neg (show ¬ (sh 2 1 0) = (-1) from c113), if_neg (show ¬ (sh 0 1 0) = (-1) from c114), if_pos (show (sh 2 1 0) = (sh 0 1 0) from c115), if_pos c118, if_neg c122, if_pos trivial])⟩
            · rw [if_neg c118] at h117
              subst h117
              show Go E Q 8 0 0 71 [(7, .ref (a 37)), (6, .ref (a 41)), (0, .ref (a 0)), (1, .int x), (2, .int i), (3, .int y), (4, .int j), (5, .int n0)] [.int 0] (loftW cI cS a m v w (seS T C li ap va le) (tpS B L P F) sh kf)
              refine g_if_eq hE 86 dX4_copy_71 (by decide) (fun c125 => ?_) (fun c125 => absurd (by decide) c125)
              refine g_bipush hE dX4_copy_86 (-13) (by decide) ?_
              exact g_iret hE hQ dX4_copy_88 rfl (2, 0, (-13), sh) rfl rfl ⟨h2, h112, (by show ((-13), sh) = fgCopy sh 2 0 i j n0; simp only [fgCopy, if_neg (show ¬ (2 : Nat) = 4 by decide), if_neg (show ¬ (0 : Nat) = 4 by decide), if_neg (show ¬ (sh 2 1 0) = (-1) from c113), if_neg (show ¬ (sh 0 1 0) = (-1) from c114), if_pos (show (sh 2 1 0) = (sh 0 1 0) from c115), if_neg c118, if_pos trivial])⟩
          · refine g_bipush hE dX4_copy_60 (-12) (by decide) ?_
            exact g_iret hE hQ dX4_copy_62 rfl (2, 0, (-12), sh) rfl rfl ⟨h2, h112, (by show ((-12), sh) = fgCopy sh 2 0 i j n0; simp only [fgCopy, if_neg (show ¬ (2 : Nat) = 4 by decide), if_neg (show ¬ (0 : Nat) = 4 by decide), if_neg (show ¬ (sh 2 1 0) = (-1) from c113), if_neg (show ¬ (sh 0 1 0) = (-1) from c114), if_neg (show ¬ (sh 2 1 0) = (sh 0 1 0) from c115), if_pos trivial])⟩
        · refine g_bipush hE dX4_copy_44 (-11) (by decide) ?_
          exact g_iret hE hQ dX4_copy_46 rfl (2, 0, (-11), sh) rfl rfl ⟨h2, h112, (by show ((-11), sh) = fgCopy sh 2 0 i j n0; simp only [fgCopy, if_neg (show ¬ (2 : Nat) = 4 by decide), if_neg (show ¬ (0 : Nat) = 4 by decide), if_neg (show ¬ (sh 2 1 0) = (-1) from c113), if_pos (show (sh 0 1 0) = (-1) from c114), if_pos trivial])⟩
    · show Go E Q 8 0 0 12 [(6, .ref (a 41)), (0, .ref (a 0)), (1, .int x), (2, .int i), (3, .int y), (4, .int j), (5, .int n0)] [.ref (a 39)] (loftW cI cS a m v w (seS T C li ap va le) (tpS B L P F) sh kf)
      refine g_astore hE dX4_copy_12 [(7, .ref (a 39)), (6, .ref (a 41)), (0, .ref (a 0)), (1, .int x), (2, .int i), (3, .int y), (4, .int j), (5, .int n0)] (by decide) rfl ?_
      refine g_aload hE dX4_copy_14 1 rfl ?_
      refine g_ifnull hE dX4_copy_16 ?_
      refine g_aload hE dX4_copy_19 0 rfl ?_
      refine g_ifnonnull hE 26 dX4_copy_21 (by decide) ?_
      refine g_aload hE dX4_copy_26 1 rfl ?_
      refine g_get hE fl_X4_247 dX4_copy_28 41 rfl rfl ?_
      refine g_iconst hE dX4_copy_31 (-1) (by decide) ?_
      refine g_icmp_eq hE 44 dX4_copy_32 (by decide) (fun c126 => ?_) (fun c126 => ?_)
      · refine g_bipush hE dX4_copy_44 (-11) (by decide) ?_
        exact g_iret hE hQ dX4_copy_46 rfl (2, 1, (-11), sh) rfl rfl ⟨h2, h112, (by show ((-11), sh) = fgCopy sh 2 1 i j n0; simp only [fgCopy, if_neg (show ¬ (2 : Nat) = 4 by decide), if_neg (show ¬ (1 : Nat) = 4 by decide), if_pos (show (sh 2 1 0) = (-1) from c126), if_pos trivial])⟩
      · refine g_aload hE dX4_copy_35 0 rfl ?_
        refine g_get hE fl_X4_247 dX4_copy_37 39 rfl rfl ?_
        refine g_iconst hE dX4_copy_40 (-1) (by decide) ?_
        refine g_icmp_ne hE 47 dX4_copy_41 (by decide) (fun c127 => ?_) (fun c127 => ?_)
        · refine g_aload hE dX4_copy_47 1 rfl ?_
          refine g_get hE fl_X4_247 dX4_copy_49 41 rfl rfl ?_
          refine g_aload hE dX4_copy_52 0 rfl ?_
          refine g_get hE fl_X4_247 dX4_copy_54 39 rfl rfl ?_
          refine g_icmp_eq hE 63 dX4_copy_57 (by decide) (fun c128 => ?_) (fun c128 => ?_)
          · refine g_aload hE dX4_copy_63 1 rfl ?_
            refine g_iload_n hE dX4_copy_65 4 rfl ?_
            refine g_iload hE dX4_copy_66 7 rfl ?_
            refine g_callV hE (c_X2_hasItems cI cS (fun i => a (i + 41)) (sh 2 0) (sh 2 1 0) (sh 2 1 1) i n0) mk_X2_hasItems mv_X2_hasItems ml_X4_254 dX4_copy_68 (As := [.int i, .int n0]) (rest := []) rfl rfl 41 rfl (show vwCl[2]? = some (RX2, TX2, 3) from rfl) (by decide) (by decide) (Nat.le_of_ble_eq_true rfl) (by decide) (by decide) [41, 42] rfl (by decide) (fun u => Nat.le_of_ble_eq_true rfl) (ws' := fun u => loftW cI cS a m v w (seS T C li ap va le) (tpS B L P F) sh kf) (fun u => rfl) (fun u hu => ?_)
            obtain ⟨r_129, rfl⟩ : ∃ z, z = u := ⟨_, rfl⟩
            have h130 : r_129 = if hasI (sh 2 1 1) i n0 then 1 else 0 := hu
            by_cases c131 : hasI (sh 2 1 1) i n0
            · rw [if_pos c131] at h130
              subst h130
              show Go E Q 8 0 0 71 [(7, .ref (a 39)), (6, .ref (a 41)), (0, .ref (a 0)), (1, .int x), (2, .int i), (3, .int y), (4, .int j), (5, .int n0)] [.int 1] (loftW cI cS a m v w (seS T C li ap va le) (tpS B L P F) sh kf)
              refine g_if_eq hE 86 dX4_copy_71 (by decide) (fun c132 => absurd c132 (by decide)) (fun c132 => ?_)
              refine g_aload hE dX4_copy_74 0 rfl ?_
              refine g_iload hE dX4_copy_76 6 rfl ?_
              refine g_iload hE dX4_copy_78 7 rfl ?_
              refine g_callV hE (c_X2_hasItems cI cS (fun i => a (i + 39)) (sh 1 0) (sh 1 1 0) (sh 1 1 1) j n0) mk_X2_hasItems mv_X2_hasItems ml_X4_254 dX4_copy_80 (As := [.int j, .int n0]) (rest := []) rfl rfl 39 rfl (show vwCl[2]? = some (RX2, TX2, 3) from rfl) (by decide) (by decide) (Nat.le_of_ble_eq_true rfl) (by decide) (by decide) [39, 40] rfl (by decide) (fun u => Nat.le_of_ble_eq_true rfl) (ws' := fun u => loftW cI cS a m v w (seS T C li ap va le) (tpS B L P F) sh kf) (fun u => rfl) (fun u hu => ?_)
              obtain ⟨r_133, rfl⟩ : ∃ z, z = u := ⟨_, rfl⟩
              have h134 : r_133 = if hasI (sh 1 1 1) j n0 then 1 else 0 := hu
              by_cases c135 : hasI (sh 1 1 1) j n0
              · rw [if_pos c135] at h134
                subst h134
                show Go E Q 8 0 0 83 [(7, .ref (a 39)), (6, .ref (a 41)), (0, .ref (a 0)), (1, .int x), (2, .int i), (3, .int y), (4, .int j), (5, .int n0)] [.int 1] (loftW cI cS a m v w (seS T C li ap va le) (tpS B L P F) sh kf)
                refine g_if_ne hE 89 dX4_copy_83 (by decide) (fun c136 => ?_) (fun c136 => absurd c136 (by decide))
                refine g_aload hE dX4_copy_89 1 rfl ?_
                refine g_get hE fl_X4_257 dX4_copy_91 41 rfl rfl ?_
                refine g_iload_n hE dX4_copy_94 4 rfl ?_
                refine g_aload hE dX4_copy_95 0 rfl ?_
                refine g_get hE fl_X4_257 dX4_copy_97 39 rfl rfl ?_
                refine g_iload hE dX4_copy_100 6 rfl ?_
                refine g_iload hE dX4_copy_102 7 rfl ?_
                refine g_copy hE (by decide) ml_X4_260 ac_na ac_st ac_in dX4_copy_104 42 40 rfl rfl (Int32.not_lt.mpr c131.1) (Int32.not_lt.mpr c135.1) (Int32.not_lt.mpr c131.2.2.1) (cp_b c131 (hsh 2 (by decide))) (cp_b c135 (hsh 1 (by decide))) (Nat.le_of_ble_eq_true rfl) (loftW cI cS a m v w (seS T C li ap va le) (tpS B L P F) (pA sh 1 (shT (va_cpy (sh 2 0) (sh 1 0) (Int32.toNatClampNeg i) (Int32.toNatClampNeg j) (Int32.toNatClampNeg n0)) (sh 1 1 0) (sh 1 1 1))) kf) (by rfl) ?_
                refine g_iload hE dX4_copy_107 7 rfl ?_
                exact g_iret hE hQ dX4_copy_109 rfl (2, 1, n0, (pA sh 1 (shT (va_cpy (sh 2 0) (sh 1 0) (Int32.toNatClampNeg i) (Int32.toNatClampNeg j) (Int32.toNatClampNeg n0)) (sh 1 1 0) (sh 1 1 1)))) rfl rfl ⟨h2, h112, (by show (n0, (pA sh 1 (shT (va_cpy (sh 2 0) (sh 1 0) (Int32.toNatClampNeg i) (Int32.toNatClampNeg j) (Int32.toNatClampNeg n0)) (sh 1 1 0) (sh 1 1 1)))) = fgCopy sh 2 1 i j n0; simp only [fgCopy, if_neg (show ¬ (2 : Nat) = 4 by decide), if_neg (show ¬ (1 : Nat) = 4 by decide), if_neg (show ¬ (sh 2 1 0) = (-1) from c126), if_neg (show ¬ (sh 1 1 0) = (-1) from c127), if_pos (show (sh 2 1 0) = (sh 1 1 0) from c128), if_pos c131, if_pos c135, if_pos trivial])⟩
              · rw [if_neg c135] at h134
                subst h134
                show Go E Q 8 0 0 83 [(7, .ref (a 39)), (6, .ref (a 41)), (0, .ref (a 0)), (1, .int x), (2, .int i), (3, .int y), (4, .int j), (5, .int n0)] [.int 0] (loftW cI cS a m v w (seS T C li ap va le) (tpS B L P F) sh kf)
                refine g_if_ne hE 89 dX4_copy_83 (by decide) (fun c137 => absurd (by decide) c137) (fun c137 => ?_)
                refine g_bipush hE dX4_copy_86 (-13) (by decide) ?_
                exact g_iret hE hQ dX4_copy_88 rfl (2, 1, (-13), sh) rfl rfl ⟨h2, h112, (by show ((-13), sh) = fgCopy sh 2 1 i j n0; simp only [fgCopy, if_neg (show ¬ (2 : Nat) = 4 by decide), if_neg (show ¬ (1 : Nat) = 4 by decide), if_neg (show ¬ (sh 2 1 0) = (-1) from c126), if_neg (show ¬ (sh 1 1 0) = (-1) from c127), if_pos (show (sh 2 1 0) = (sh 1 1 0) from c128), if_pos c131, if_neg c135, if_pos trivial])⟩
            · rw [if_neg c131] at h130
              subst h130
              show Go E Q 8 0 0 71 [(7, .ref (a 39)), (6, .ref (a 41)), (0, .ref (a 0)), (1, .int x), (2, .int i), (3, .int y), (4, .int j), (5, .int n0)] [.int 0] (loftW cI cS a m v w (seS T C li ap va le) (tpS B L P F) sh kf)
              refine g_if_eq hE 86 dX4_copy_71 (by decide) (fun c138 => ?_) (fun c138 => absurd (by decide) c138)
              refine g_bipush hE dX4_copy_86 (-13) (by decide) ?_
              exact g_iret hE hQ dX4_copy_88 rfl (2, 1, (-13), sh) rfl rfl ⟨h2, h112, (by show ((-13), sh) = fgCopy sh 2 1 i j n0; simp only [fgCopy, if_neg (show ¬ (2 : Nat) = 4 by decide), if_neg (show ¬ (1 : Nat) = 4 by decide), if_neg (show ¬ (sh 2 1 0) = (-1) from c126), if_neg (show ¬ (sh 1 1 0) = (-1) from c127), if_pos (show (sh 2 1 0) = (sh 1 1 0) from c128), if_neg c131, if_pos trivial])⟩
          · refine g_bipush hE dX4_copy_60 (-12) (by decide) ?_
            exact g_iret hE hQ dX4_copy_62 rfl (2, 1, (-12), sh) rfl rfl ⟨h2, h112, (by show ((-12), sh) = fgCopy sh 2 1 i j n0; simp only [fgCopy, if_neg (show ¬ (2 : Nat) = 4 by decide), if_neg (show ¬ (1 : Nat) = 4 by decide), if_neg (show ¬ (sh 2 1 0) = (-1) from c126), if_neg (show ¬ (sh 1 1 0) = (-1) from c127), if_neg (show ¬ (sh 2 1 0) = (sh 1 1 0) from c128), if_pos trivial])⟩
        · refine g_bipush hE dX4_copy_44 (-11) (by decide) ?_
          exact g_iret hE hQ dX4_copy_46 rfl (2, 1, (-11), sh) rfl rfl ⟨h2, h112, (by show ((-11), sh) = fgCopy sh 2 1 i j n0; simp only [fgCopy, if_neg (show ¬ (2 : Nat) = 4 by decide), if_neg (show ¬ (1 : Nat) = 4 by decide), if_neg (show ¬ (sh 2 1 0) = (-1) from c126), if_pos (show (sh 1 1 0) = (-1) from c127), if_pos trivial])⟩
    · show Go E Q 8 0 0 12 [(6, .ref (a 41)), (0, .ref (a 0)), (1, .int x), (2, .int i), (3, .int y), (4, .int j), (5, .int n0)] [.ref (a 41)] (loftW cI cS a m v w (seS T C li ap va le) (tpS B L P F) sh kf)
      refine g_astore hE dX4_copy_12 [(7, .ref (a 41)), (6, .ref (a 41)), (0, .ref (a 0)), (1, .int x), (2, .int i), (3, .int y), (4, .int j), (5, .int n0)] (by decide) rfl ?_
      refine g_aload hE dX4_copy_14 1 rfl ?_
      refine g_ifnull hE dX4_copy_16 ?_
      refine g_aload hE dX4_copy_19 0 rfl ?_
      refine g_ifnonnull hE 26 dX4_copy_21 (by decide) ?_
      refine g_aload hE dX4_copy_26 1 rfl ?_
      refine g_get hE fl_X4_247 dX4_copy_28 41 rfl rfl ?_
      refine g_iconst hE dX4_copy_31 (-1) (by decide) ?_
      refine g_icmp_eq hE 44 dX4_copy_32 (by decide) (fun c139 => ?_) (fun c139 => ?_)
      · refine g_bipush hE dX4_copy_44 (-11) (by decide) ?_
        exact g_iret hE hQ dX4_copy_46 rfl (2, 2, (-11), sh) rfl rfl ⟨h2, h112, (by show ((-11), sh) = fgCopy sh 2 2 i j n0; simp only [fgCopy, if_neg (show ¬ (2 : Nat) = 4 by decide), if_neg (show ¬ (2 : Nat) = 4 by decide), if_pos (show (sh 2 1 0) = (-1) from c139), if_pos trivial])⟩
      · refine g_aload hE dX4_copy_35 0 rfl ?_
        refine g_get hE fl_X4_247 dX4_copy_37 41 rfl rfl ?_
        refine g_iconst hE dX4_copy_40 (-1) (by decide) ?_
        refine g_icmp_ne hE 47 dX4_copy_41 (by decide) (fun c140 => ?_) (fun c140 => absurd c140 (show ¬ (sh 2 1 0) = (-1) from c139))
        refine g_aload hE dX4_copy_47 1 rfl ?_
        refine g_get hE fl_X4_247 dX4_copy_49 41 rfl rfl ?_
        refine g_aload hE dX4_copy_52 0 rfl ?_
        refine g_get hE fl_X4_247 dX4_copy_54 41 rfl rfl ?_
        refine g_icmp_eq hE 63 dX4_copy_57 (by decide) (fun c141 => ?_) (fun c141 => ?_)
        · refine g_aload hE dX4_copy_63 1 rfl ?_
          refine g_iload_n hE dX4_copy_65 4 rfl ?_
          refine g_iload hE dX4_copy_66 7 rfl ?_
          refine g_callV hE (c_X2_hasItems cI cS (fun i => a (i + 41)) (sh 2 0) (sh 2 1 0) (sh 2 1 1) i n0) mk_X2_hasItems mv_X2_hasItems ml_X4_254 dX4_copy_68 (As := [.int i, .int n0]) (rest := []) rfl rfl 41 rfl (show vwCl[2]? = some (RX2, TX2, 3) from rfl) (by decide) (by decide) (Nat.le_of_ble_eq_true rfl) (by decide) (by decide) [41, 42] rfl (by decide) (fun u => Nat.le_of_ble_eq_true rfl) (ws' := fun u => loftW cI cS a m v w (seS T C li ap va le) (tpS B L P F) sh kf) (fun u => rfl) (fun u hu => ?_)
          obtain ⟨r_142, rfl⟩ : ∃ z, z = u := ⟨_, rfl⟩
          have h143 : r_142 = if hasI (sh 2 1 1) i n0 then 1 else 0 := hu
          by_cases c144 : hasI (sh 2 1 1) i n0
          · rw [if_pos c144] at h143
            subst h143
            show Go E Q 8 0 0 71 [(7, .ref (a 41)), (6, .ref (a 41)), (0, .ref (a 0)), (1, .int x), (2, .int i), (3, .int y), (4, .int j), (5, .int n0)] [.int 1] (loftW cI cS a m v w (seS T C li ap va le) (tpS B L P F) sh kf)
            refine g_if_eq hE 86 dX4_copy_71 (by decide) (fun c145 => absurd c145 (by decide)) (fun c145 => ?_)
            refine g_aload hE dX4_copy_74 0 rfl ?_
            refine g_iload hE dX4_copy_76 6 rfl ?_
            refine g_iload hE dX4_copy_78 7 rfl ?_
            refine g_callV hE (c_X2_hasItems cI cS (fun i => a (i + 41)) (sh 2 0) (sh 2 1 0) (sh 2 1 1) j n0) mk_X2_hasItems mv_X2_hasItems ml_X4_254 dX4_copy_80 (As := [.int j, .int n0]) (rest := []) rfl rfl 41 rfl (show vwCl[2]? = some (RX2, TX2, 3) from rfl) (by decide) (by decide) (Nat.le_of_ble_eq_true rfl) (by decide) (by decide) [41, 42] rfl (by decide) (fun u => Nat.le_of_ble_eq_true rfl) (ws' := fun u => loftW cI cS a m v w (seS T C li ap va le) (tpS B L P F) sh kf) (fun u => rfl) (fun u hu => ?_)
            obtain ⟨r_146, rfl⟩ : ∃ z, z = u := ⟨_, rfl⟩
            have h147 : r_146 = if hasI (sh 2 1 1) j n0 then 1 else 0 := hu
            by_cases c148 : hasI (sh 2 1 1) j n0
            · rw [if_pos c148] at h147
              subst h147
              show Go E Q 8 0 0 83 [(7, .ref (a 41)), (6, .ref (a 41)), (0, .ref (a 0)), (1, .int x), (2, .int i), (3, .int y), (4, .int j), (5, .int n0)] [.int 1] (loftW cI cS a m v w (seS T C li ap va le) (tpS B L P F) sh kf)
              refine g_if_ne hE 89 dX4_copy_83 (by decide) (fun c149 => ?_) (fun c149 => absurd c149 (by decide))
              refine g_aload hE dX4_copy_89 1 rfl ?_
              refine g_get hE fl_X4_257 dX4_copy_91 41 rfl rfl ?_
              refine g_iload_n hE dX4_copy_94 4 rfl ?_
              refine g_aload hE dX4_copy_95 0 rfl ?_
              refine g_get hE fl_X4_257 dX4_copy_97 41 rfl rfl ?_
              refine g_iload hE dX4_copy_100 6 rfl ?_
              refine g_iload hE dX4_copy_102 7 rfl ?_
              refine g_copy hE (by decide) ml_X4_260 ac_na ac_st ac_in dX4_copy_104 42 42 rfl rfl (Int32.not_lt.mpr c144.1) (Int32.not_lt.mpr c148.1) (Int32.not_lt.mpr c144.2.2.1) (cp_b c144 (hsh 2 (by decide))) (cp_b c148 (hsh 2 (by decide))) (Nat.le_of_ble_eq_true rfl) (loftW cI cS a m v w (seS T C li ap va le) (tpS B L P F) (pA sh 2 (shT (va_cpy (sh 2 0) (sh 2 0) (Int32.toNatClampNeg i) (Int32.toNatClampNeg j) (Int32.toNatClampNeg n0)) (sh 2 1 0) (sh 2 1 1))) kf) (by rfl) ?_
              refine g_iload hE dX4_copy_107 7 rfl ?_
              exact g_iret hE hQ dX4_copy_109 rfl (2, 2, n0, (pA sh 2 (shT (va_cpy (sh 2 0) (sh 2 0) (Int32.toNatClampNeg i) (Int32.toNatClampNeg j) (Int32.toNatClampNeg n0)) (sh 2 1 0) (sh 2 1 1)))) rfl rfl ⟨h2, h112, (by show (n0, (pA sh 2 (shT (va_cpy (sh 2 0) (sh 2 0) (Int32.toNatClampNeg i) (Int32.toNatClampNeg j) (Int32.toNatClampNeg n0)) (sh 2 1 0) (sh 2 1 1)))) = fgCopy sh 2 2 i j n0; simp only [fgCopy, if_neg (show ¬ (2 : Nat) = 4 by decide), if_neg (show ¬ (2 : Nat) = 4 by decide), if_neg (show ¬ (sh 2 1 0) = (-1) from c139), if_neg (show ¬ (sh 2 1 0) = (-1) from c139), if_pos (show (sh 2 1 0) = (sh 2 1 0) from c141), if_pos c144, if_pos c148, if_pos trivial])⟩
            · rw [if_neg c148] at h147
              subst h147
              show Go E Q 8 0 0 83 [(7, .ref (a 41)), (6, .ref (a 41)), (0, .ref (a 0)), (1, .int x), (2, .int i), (3, .int y), (4, .int j), (5, .int n0)] [.int 0] (loftW cI cS a m v w (seS T C li ap va le) (tpS B L P F) sh kf)
              refine g_if_ne hE 89 dX4_copy_83 (by decide) (fun c150 => absurd (by decide) c150) (fun c150 => ?_)
              refine g_bipush hE dX4_copy_86 (-13) (by decide) ?_
              exact g_iret hE hQ dX4_copy_88 rfl (2, 2, (-13), sh) rfl rfl ⟨h2, h112, (by show ((-13), sh) = fgCopy sh 2 2 i j n0; simp only [fgCopy, if_neg (show ¬ (2 : Nat) = 4 by decide), if_neg (show ¬ (2 : Nat) = 4 by decide), if_neg (show ¬ (sh 2 1 0) = (-1) from c139), if_neg (show ¬ (sh 2 1 0) = (-1) from c139), if_pos (show (sh 2 1 0) = (sh 2 1 0) from c141), if_pos c144, if_neg c148, if_pos trivial])⟩
          · rw [if_neg c144] at h143
            subst h143
            show Go E Q 8 0 0 71 [(7, .ref (a 41)), (6, .ref (a 41)), (0, .ref (a 0)), (1, .int x), (2, .int i), (3, .int y), (4, .int j), (5, .int n0)] [.int 0] (loftW cI cS a m v w (seS T C li ap va le) (tpS B L P F) sh kf)
            refine g_if_eq hE 86 dX4_copy_71 (by decide) (fun c151 => ?_) (fun c151 => absurd (by decide) c151)
            refine g_bipush hE dX4_copy_86 (-13) (by decide) ?_
            exact g_iret hE hQ dX4_copy_88 rfl (2, 2, (-13), sh) rfl rfl ⟨h2, h112, (by show ((-13), sh) = fgCopy sh 2 2 i j n0; simp only [fgCopy, if_neg (show ¬ (2 : Nat) = 4 by decide), if_neg (show ¬ (2 : Nat) = 4 by decide), if_neg (show ¬ (sh 2 1 0) = (-1) from c139), if_neg (show ¬ (sh 2 1 0) = (-1) from c139), if_pos (show (sh 2 1 0) = (sh 2 1 0) from c141), if_neg c144, if_pos trivial])⟩
        · refine g_bipush hE dX4_copy_60 (-12) (by decide) ?_
          exact g_iret hE hQ dX4_copy_62 rfl (2, 2, (-12), sh) rfl rfl ⟨h2, h112, (absurd rfl (show ¬ (sh 2 1 0) = (sh 2 1 0) from c141))⟩
    · show Go E Q 8 0 0 12 [(6, .ref (a 41)), (0, .ref (a 0)), (1, .int x), (2, .int i), (3, .int y), (4, .int j), (5, .int n0)] [.ref (a 43)] (loftW cI cS a m v w (seS T C li ap va le) (tpS B L P F) sh kf)
      refine g_astore hE dX4_copy_12 [(7, .ref (a 43)), (6, .ref (a 41)), (0, .ref (a 0)), (1, .int x), (2, .int i), (3, .int y), (4, .int j), (5, .int n0)] (by decide) rfl ?_
      refine g_aload hE dX4_copy_14 1 rfl ?_
      refine g_ifnull hE dX4_copy_16 ?_
      refine g_aload hE dX4_copy_19 0 rfl ?_
      refine g_ifnonnull hE 26 dX4_copy_21 (by decide) ?_
      refine g_aload hE dX4_copy_26 1 rfl ?_
      refine g_get hE fl_X4_247 dX4_copy_28 41 rfl rfl ?_
      refine g_iconst hE dX4_copy_31 (-1) (by decide) ?_
      refine g_icmp_eq hE 44 dX4_copy_32 (by decide) (fun c152 => ?_) (fun c152 => ?_)
      · refine g_bipush hE dX4_copy_44 (-11) (by decide) ?_
        exact g_iret hE hQ dX4_copy_46 rfl (2, 3, (-11), sh) rfl rfl ⟨h2, h112, (by show ((-11), sh) = fgCopy sh 2 3 i j n0; simp only [fgCopy, if_neg (show ¬ (2 : Nat) = 4 by decide), if_neg (show ¬ (3 : Nat) = 4 by decide), if_pos (show (sh 2 1 0) = (-1) from c152), if_pos trivial])⟩
      · refine g_aload hE dX4_copy_35 0 rfl ?_
        refine g_get hE fl_X4_247 dX4_copy_37 43 rfl rfl ?_
        refine g_iconst hE dX4_copy_40 (-1) (by decide) ?_
        refine g_icmp_ne hE 47 dX4_copy_41 (by decide) (fun c153 => ?_) (fun c153 => ?_)
        · refine g_aload hE dX4_copy_47 1 rfl ?_
          refine g_get hE fl_X4_247 dX4_copy_49 41 rfl rfl ?_
          refine g_aload hE dX4_copy_52 0 rfl ?_
          refine g_get hE fl_X4_247 dX4_copy_54 43 rfl rfl ?_
          refine g_icmp_eq hE 63 dX4_copy_57 (by decide) (fun c154 => ?_) (fun c154 => ?_)
          · refine g_aload hE dX4_copy_63 1 rfl ?_
            refine g_iload_n hE dX4_copy_65 4 rfl ?_
            refine g_iload hE dX4_copy_66 7 rfl ?_
            refine g_callV hE (c_X2_hasItems cI cS (fun i => a (i + 41)) (sh 2 0) (sh 2 1 0) (sh 2 1 1) i n0) mk_X2_hasItems mv_X2_hasItems ml_X4_254 dX4_copy_68 (As := [.int i, .int n0]) (rest := []) rfl rfl 41 rfl (show vwCl[2]? = some (RX2, TX2, 3) from rfl) (by decide) (by decide) (Nat.le_of_ble_eq_true rfl) (by decide) (by decide) [41, 42] rfl (by decide) (fun u => Nat.le_of_ble_eq_true rfl) (ws' := fun u => loftW cI cS a m v w (seS T C li ap va le) (tpS B L P F) sh kf) (fun u => rfl) (fun u hu => ?_)
            obtain ⟨r_155, rfl⟩ : ∃ z, z = u := ⟨_, rfl⟩
            have h156 : r_155 = if hasI (sh 2 1 1) i n0 then 1 else 0 := hu
            by_cases c157 : hasI (sh 2 1 1) i n0
            · rw [if_pos c157] at h156
              subst h156
              show Go E Q 8 0 0 71 [(7, .ref (a 43)), (6, .ref (a 41)), (0, .ref (a 0)), (1, .int x), (2, .int i), (3, .int y), (4, .int j), (5, .int n0)] [.int 1] (loftW cI cS a m v w (seS T C li ap va le) (tpS B L P F) sh kf)
              refine g_if_eq hE 86 dX4_copy_71 (by decide) (fun c158 => absurd c158 (by decide)) (fun c158 => ?_)
              refine g_aload hE dX4_copy_74 0 rfl ?_
              refine g_iload hE dX4_copy_76 6 rfl ?_
              refine g_iload hE dX4_copy_78 7 rfl ?_
              refine g_callV hE (c_X2_hasItems cI cS (fun i => a (i + 43)) (sh 3 0) (sh 3 1 0) (sh 3 1 1) j n0) mk_X2_hasItems mv_X2_hasItems ml_X4_254 dX4_copy_80 (As := [.int j, .int n0]) (rest := []) rfl rfl 43 rfl (show vwCl[2]? = some (RX2, TX2, 3) from rfl) (by decide) (by decide) (Nat.le_of_ble_eq_true rfl) (by decide) (by decide) [43, 44] rfl (by decide) (fun u => Nat.le_of_ble_eq_true rfl) (ws' := fun u => loftW cI cS a m v w (seS T C li ap va le) (tpS B L P F) sh kf) (fun u => rfl) (fun u hu => ?_)
              obtain ⟨r_159, rfl⟩ : ∃ z, z = u := ⟨_, rfl⟩
              have h160 : r_159 = if hasI (sh 3 1 1) j n0 then 1 else 0 := hu
              by_cases c161 : hasI (sh 3 1 1) j n0
              · rw [if_pos c161] at h160
                subst h160
                show Go E Q 8 0 0 83 [(7, .ref (a 43)), (6, .ref (a 41)), (0, .ref (a 0)), (1, .int x), (2, .int i), (3, .int y), (4, .int j), (5, .int n0)] [.int 1] (loftW cI cS a m v w (seS T C li ap va le) (tpS B L P F) sh kf)
                refine g_if_ne hE 89 dX4_copy_83 (by decide) (fun c162 => ?_) (fun c162 => absurd c162 (by decide))
                refine g_aload hE dX4_copy_89 1 rfl ?_
                refine g_get hE fl_X4_257 dX4_copy_91 41 rfl rfl ?_
                refine g_iload_n hE dX4_copy_94 4 rfl ?_
                refine g_aload hE dX4_copy_95 0 rfl ?_
                refine g_get hE fl_X4_257 dX4_copy_97 43 rfl rfl ?_
                refine g_iload hE dX4_copy_100 6 rfl ?_
                refine g_iload hE dX4_copy_102 7 rfl ?_
                refine g_copy hE (by decide) ml_X4_260 ac_na ac_st ac_in dX4_copy_104 42 44 rfl rfl (Int32.not_lt.mpr c157.1) (Int32.not_lt.mpr c161.1) (Int32.not_lt.mpr c157.2.2.1) (cp_b c157 (hsh 2 (by decide))) (cp_b c161 (hsh 3 (by decide))) (Nat.le_of_ble_eq_true rfl) (loftW cI cS a m v w (seS T C li ap va le) (tpS B L P F) (pA sh 3 (shT (va_cpy (sh 2 0) (sh 3 0) (Int32.toNatClampNeg i) (Int32.toNatClampNeg j) (Int32.toNatClampNeg n0)) (sh 3 1 0) (sh 3 1 1))) kf) (by rfl) ?_
                refine g_iload hE dX4_copy_107 7 rfl ?_
                exact g_iret hE hQ dX4_copy_109 rfl (2, 3, n0, (pA sh 3 (shT (va_cpy (sh 2 0) (sh 3 0) (Int32.toNatClampNeg i) (Int32.toNatClampNeg j) (Int32.toNatClampNeg n0)) (sh 3 1 0) (sh 3 1 1)))) rfl rfl ⟨h2, h112, (by show (n0, (pA sh 3 (shT (va_cpy (sh 2 0) (sh 3 0) (Int32.toNatClampNeg i) (Int32.toNatClampNeg j) (Int32.toNatClampNeg n0)) (sh 3 1 0) (sh 3 1 1)))) = fgCopy sh 2 3 i j n0; simp only [fgCopy, if_neg (show ¬ (2 : Nat) = 4 by decide), if_neg (show ¬ (3 : Nat) = 4 by decide), if_neg (show ¬ (sh 2 1 0) = (-1) from c152), if_neg (show ¬ (sh 3 1 0) = (-1) from c153), if_pos (show (sh 2 1 0) = (sh 3 1 0) from c154), if_pos c157, if_pos c161, if_pos trivial])⟩
              · rw [if_neg c161] at h160
                subst h160
                show Go E Q 8 0 0 83 [(7, .ref (a 43)), (6, .ref (a 41)), (0, .ref (a 0)), (1, .int x), (2, .int i), (3, .int y), (4, .int j), (5, .int n0)] [.int 0] (loftW cI cS a m v w (seS T C li ap va le) (tpS B L P F) sh kf)
                refine g_if_ne hE 89 dX4_copy_83 (by decide) (fun c163 => absurd (by decide) c163) (fun c163 => ?_)
                refine g_bipush hE dX4_copy_86 (-13) (by decide) ?_
                exact g_iret hE hQ dX4_copy_88 rfl (2, 3, (-13), sh) rfl rfl ⟨h2, h112, (by show ((-13), sh) = fgCopy sh 2 3 i j n0; simp only [fgCopy, if_neg (show ¬ (2 : Nat) = 4 by decide), if_neg (show ¬ (3 : Nat) = 4 by decide), if_neg (show ¬ (sh 2 1 0) = (-1) from c152), if_neg (show ¬ (sh 3 1 0) = (-1) from c153), if_pos (show (sh 2 1 0) = (sh 3 1 0) from c154), if_pos c157, if_neg c161, if_pos trivial])⟩
            · rw [if_neg c157] at h156
              subst h156
              show Go E Q 8 0 0 71 [(7, .ref (a 43)), (6, .ref (a 41)), (0, .ref (a 0)), (1, .int x), (2, .int i), (3, .int y), (4, .int j), (5, .int n0)] [.int 0] (loftW cI cS a m v w (seS T C li ap va le) (tpS B L P F) sh kf)
              refine g_if_eq hE 86 dX4_copy_71 (by decide) (fun c164 => ?_) (fun c164 => absurd (by decide) c164)
              refine g_bipush hE dX4_copy_86 (-13) (by decide) ?_
              exact g_iret hE hQ dX4_copy_88 rfl (2, 3, (-13), sh) rfl rfl ⟨h2, h112, (by show ((-13), sh) = fgCopy sh 2 3 i j n0; simp only [fgCopy, if_neg (show ¬ (2 : Nat) = 4 by decide), if_neg (show ¬ (3 : Nat) = 4 by decide), if_neg (show ¬ (sh 2 1 0) = (-1) from c152), if_neg (show ¬ (sh 3 1 0) = (-1) from c153), if_pos (show (sh 2 1 0) = (sh 3 1 0) from c154), if_neg c157, if_pos trivial])⟩
          · refine g_bipush hE dX4_copy_60 (-12) (by decide) ?_
            exact g_iret hE hQ dX4_copy_62 rfl (2, 3, (-12), sh) rfl rfl ⟨h2, h112, (by show ((-12), sh) = fgCopy sh 2 3 i j n0; simp only [fgCopy, if_neg (show ¬ (2 : Nat) = 4 by decide), if_neg (show ¬ (3 : Nat) = 4 by decide), if_neg (show ¬ (sh 2 1 0) = (-1) from c152), if_neg (show ¬ (sh 3 1 0) = (-1) from c153), if_neg (show ¬ (sh 2 1 0) = (sh 3 1 0) from c154), if_pos trivial])⟩
        · refine g_bipush hE dX4_copy_44 (-11) (by decide) ?_
          exact g_iret hE hQ dX4_copy_46 rfl (2, 3, (-11), sh) rfl rfl ⟨h2, h112, (by show ((-11), sh) = fgCopy sh 2 3 i j n0; simp only [fgCopy, if_neg (show ¬ (2 : Nat) = 4 by decide), if_neg (show ¬ (3 : Nat) = 4 by decide), if_neg (show ¬ (sh 2 1 0) = (-1) from c152), if_pos (show (sh 3 1 0) = (-1) from c153), if_pos trivial])⟩
    · show Go E Q 8 0 0 12 [(6, .ref (a 41)), (0, .ref (a 0)), (1, .int x), (2, .int i), (3, .int y), (4, .int j), (5, .int n0)] [.null] (loftW cI cS a m v w (seS T C li ap va le) (tpS B L P F) sh kf)
      refine g_astoreN hE dX4_copy_12 [(7, .null), (6, .ref (a 41)), (0, .ref (a 0)), (1, .int x), (2, .int i), (3, .int y), (4, .int j), (5, .int n0)] (by decide) rfl ?_
      refine g_aload hE dX4_copy_14 1 rfl ?_
      refine g_ifnull hE dX4_copy_16 ?_
      refine g_aloadN hE dX4_copy_19 0 rfl ?_
      refine g_ifnonnullN hE dX4_copy_21 ?_
      refine g_iconst hE dX4_copy_24 (-1) (by decide) ?_
      exact g_iret hE hQ dX4_copy_25 rfl (2, 4, (-1), sh) rfl rfl ⟨h2, h112, (by show ((-1), sh) = fgCopy sh 2 4 i j n0; simp only [fgCopy, if_neg (show ¬ (2 : Nat) = 4 by decide), if_pos (show (4 : Nat) = 4 by decide), if_pos trivial])⟩
  · show Go E Q 8 0 0 5 [(0, .ref (a 0)), (1, .int x), (2, .int i), (3, .int y), (4, .int j), (5, .int n0)] [.ref (a 43)] (loftW cI cS a m v w (seS T C li ap va le) (tpS B L P F) sh kf)
    refine g_astore hE dX4_copy_5 [(6, .ref (a 43)), (0, .ref (a 0)), (1, .int x), (2, .int i), (3, .int y), (4, .int j), (5, .int n0)] (by decide) rfl ?_
    refine g_aload_n hE dX4_copy_7 1 rfl ?_
    refine g_iload_n hE dX4_copy_8 4 rfl ?_
    refine g_callV hE (c_X4_sheetAt cI cS a m v w T C li ap va le B L P F sh kf (by first | assumption | exact mw_of (by assumption)) (by first | assumption | exact mw_of (by assumption)) (by first | assumption | exact mw_of (by assumption)) hL y) mk_X4_sheetAt mv_X4_sheetAt ml_X4_221 dX4_copy_9 (As := [.int y]) (rest := []) rfl rfl 0 rfl (show vwCl[4]? = some (RX4, TX4, 7) from rfl) (by decide) (by decide) (Nat.le_of_ble_eq_true rfl) (by decide) (by decide) [0, 1, 2, 3, 4, 5, 6, 7, 8, 9, 10, 11, 12, 13, 14, 15, 16, 17, 18, 19, 20, 21, 22, 23, 24, 25, 26, 27, 28, 29, 30, 31, 32, 33, 34, 35, 36, 37, 38, 39, 40, 41, 42, 43, 44] rfl (by decide) (fun u => Nat.le_of_ble_eq_true rfl) (ws' := fun u => loftW cI cS a m v w (seS T C li ap va le) (tpS B L P F) sh kf) (fun u => rfl) (fun u hu => ?_)
    obtain ⟨k_165, rfl⟩ : ∃ z, z = u := ⟨_, rfl⟩
    have h166 : SK k_165 y := hu
    rcases (show k_165 = 0 ∨ k_165 = 1 ∨ k_165 = 2 ∨ k_165 = 3 ∨ k_165 = 4 by rcases h166 with q | q <;> omega) with rfl | rfl | rfl | rfl | rfl
    · show Go E Q 8 0 0 12 [(6, .ref (a 43)), (0, .ref (a 0)), (1, .int x), (2, .int i), (3, .int y), (4, .int j), (5, .int n0)] [.ref (a 37)] (loftW cI cS a m v w (seS T C li ap va le) (tpS B L P F) sh kf)
      refine g_astore hE dX4_copy_12 [(7, .ref (a 37)), (6, .ref (a 43)), (0, .ref (a 0)), (1, .int x), (2, .int i), (3, .int y), (4, .int j), (5, .int n0)] (by decide) rfl ?_
      refine g_aload hE dX4_copy_14 1 rfl ?_
      refine g_ifnull hE dX4_copy_16 ?_
      refine g_aload hE dX4_copy_19 0 rfl ?_
      refine g_ifnonnull hE 26 dX4_copy_21 (by decide) ?_
      refine g_aload hE dX4_copy_26 1 rfl ?_
      refine g_get hE fl_X4_247 dX4_copy_28 43 rfl rfl ?_
      refine g_iconst hE dX4_copy_31 (-1) (by decide) ?_
      refine g_icmp_eq hE 44 dX4_copy_32 (by decide) (fun c167 => ?_) (fun c167 => ?_)
      · refine g_bipush hE dX4_copy_44 (-11) (by decide) ?_
        exact g_iret hE hQ dX4_copy_46 rfl (3, 0, (-11), sh) rfl rfl ⟨h2, h166, (by show ((-11), sh) = fgCopy sh 3 0 i j n0; simp only [fgCopy, if_neg (show ¬ (3 : Nat) = 4 by decide), if_neg (show ¬ (0 : Nat) = 4 by decide), if_pos (show (sh 3 1 0) = (-1) from c167), if_pos trivial])⟩
      · refine g_aload hE dX4_copy_35 0 rfl ?_
        refine g_get hE fl_X4_247 dX4_copy_37 37 rfl rfl ?_
        refine g_iconst hE dX4_copy_40 (-1) (by decide) ?_
        refine g_icmp_ne hE 47 dX4_copy_41 (by decide) (fun c168 => ?_) (fun c168 => ?_)
        · refine g_aload hE dX4_copy_47 1 rfl ?_
          refine g_get hE fl_X4_247 dX4_copy_49 43 rfl rfl ?_
          refine g_aload hE dX4_copy_52 0 rfl ?_
          refine g_get hE fl_X4_247 dX4_copy_54 37 rfl rfl ?_
          refine g_icmp_eq hE 63 dX4_copy_57 (by decide) (fun c169 => ?_) (fun c169 => ?_)
          · refine g_aload hE dX4_copy_63 1 rfl ?_
            refine g_iload_n hE dX4_copy_65 4 rfl ?_
            refine g_iload hE dX4_copy_66 7 rfl ?_
            refine g_callV hE (c_X2_hasItems cI cS (fun i => a (i + 43)) (sh 3 0) (sh 3 1 0) (sh 3 1 1) i n0) mk_X2_hasItems mv_X2_hasItems ml_X4_254 dX4_copy_68 (As := [.int i, .int n0]) (rest := []) rfl rfl 43 rfl (show vwCl[2]? = some (RX2, TX2, 3) from rfl) (by decide) (by decide) (Nat.le_of_ble_eq_true rfl) (by decide) (by decide) [43, 44] rfl (by decide) (fun u => Nat.le_of_ble_eq_true rfl) (ws' := fun u => loftW cI cS a m v w (seS T C li ap va le) (tpS B L P F) sh kf) (fun u => rfl) (fun u hu => ?_)
            obtain ⟨r_170, rfl⟩ : ∃ z, z = u := ⟨_, rfl⟩
            have h171 : r_170 = if hasI (sh 3 1 1) i n0 then 1 else 0 := hu
            by_cases c172 : hasI (sh 3 1 1) i n0
            · rw [if_pos c172] at h171
              subst h171
              show Go E Q 8 0 0 71 [(7, .ref (a 37)), (6, .ref (a 43)), (0, .ref (a 0)), (1, .int x), (2, .int i), (3, .int y), (4, .int j), (5, .int n0)] [.int 1] (loftW cI cS a m v w (seS T C li ap va le) (tpS B L P F) sh kf)
              refine g_if_eq hE 86 dX4_copy_71 (by decide) (fun c173 => absurd c173 (by decide)) (fun c173 => ?_)
              refine g_aload hE dX4_copy_74 0 rfl ?_
              refine g_iload hE dX4_copy_76 6 rfl ?_
              refine g_iload hE dX4_copy_78 7 rfl ?_
              refine g_callV hE (c_X2_hasItems cI cS (fun i => a (i + 37)) (sh 0 0) (sh 0 1 0) (sh 0 1 1) j n0) mk_X2_hasItems mv_X2_hasItems ml_X4_254 dX4_copy_80 (As := [.int j, .int n0]) (rest := []) rfl rfl 37 rfl (show vwCl[2]? = some (RX2, TX2, 3) from rfl) (by decide) (by decide) (Nat.le_of_ble_eq_true rfl) (by decide) (by decide) [37, 38] rfl (by decide) (fun u => Nat.le_of_ble_eq_true rfl) (ws' := fun u => loftW cI cS a m v w (seS T C li ap va le) (tpS B L P F) sh kf) (fun u => rfl) (fun u hu => ?_)
              obtain ⟨r_174, rfl⟩ : ∃ z, z = u := ⟨_, rfl⟩
              have h175 : r_174 = if hasI (sh 0 1 1) j n0 then 1 else 0 := hu
              by_cases c176 : hasI (sh 0 1 1) j n0
              · rw [if_pos c176] at h175
                subst h175
                show Go E Q 8 0 0 83 [(7, .ref (a 37)), (6, .ref (a 43)), (0, .ref (a 0)), (1, .int x), (2, .int i), (3, .int y), (4, .int j), (5, .int n0)] [.int 1] (loftW cI cS a m v w (seS T C li ap va le) (tpS B L P F) sh kf)
                refine g_if_ne hE 89 dX4_copy_83 (by decide) (fun c177 => ?_) (fun c177 => absurd c177 (by decide))
                refine g_aload hE dX4_copy_89 1 rfl ?_
                refine g_get hE fl_X4_257 dX4_copy_91 43 rfl rfl ?_
                refine g_iload_n hE dX4_copy_94 4 rfl ?_
                refine g_aload hE dX4_copy_95 0 rfl ?_
                refine g_get hE fl_X4_257 dX4_copy_97 37 rfl rfl ?_
                refine g_iload hE dX4_copy_100 6 rfl ?_
                refine g_iload hE dX4_copy_102 7 rfl ?_
                refine g_copy hE (by decide) ml_X4_260 ac_na ac_st ac_in dX4_copy_104 44 38 rfl rfl (Int32.not_lt.mpr c172.1) (Int32.not_lt.mpr c176.1) (Int32.not_lt.mpr c172.2.2.1) (cp_b c172 (hsh 3 (by decide))) (cp_b c176 (hsh 0 (by decide))) (Nat.le_of_ble_eq_true rfl) (loftW cI cS a m v w (seS T C li ap va le) (tpS B L P F) (pA sh 0 (shT (va_cpy (sh 3 0) (sh 0 0) (Int32.toNatClampNeg i) (Int32.toNatClampNeg j) (Int32.toNatClampNeg n0)) (sh 0 1 0) (sh 0 1 1))) kf) (by rfl) ?_
                refine g_iload hE dX4_copy_107 7 rfl ?_
                exact g_iret hE hQ dX4_copy_109 rfl (3, 0, n0, (pA sh 0 (shT (va_cpy (sh 3 0) (sh 0 0) (Int32.toNatClampNeg i) (Int32.toNatClampNeg j) (Int32.toNatClampNeg n0)) (sh 0 1 0) (sh 0 1 1)))) rfl rfl ⟨h2, h166, (by show (n0, (pA sh 0 (shT (va_cpy (sh 3 0) (sh 0 0) (Int32.toNatClampNeg i) (Int32.toNatClampNeg j) (Int32.toNatClampNeg n0)) (sh 0 1 0) (sh 0 1 1)))) = fgCopy sh 3 0 i j n0; simp only [fgCopy, if_neg (show ¬ (3 : Nat) = 4 by decide), if_neg (show ¬ (0 : Nat) = 4 by decide), if_neg (show ¬ (sh 3 1 0) = (-1) from c167), if_neg (show ¬ (sh 0 1 0) = (-1) from c168), if_pos (show (sh 3 1 0) = (sh 0 1 0) from c169), if_pos c172, if_pos c176, if_pos trivial])⟩
              · rw [if_neg c176] at h175
                subst h175
                show Go E Q 8 0 0 83 [(7, .ref (a 37)), (6, .ref (a 43)), (0, .ref (a 0)), (1, .int x), (2, .int i), (3, .int y), (4, .int j), (5, .int n0)] [.int 0] (loftW cI cS a m v w (seS T C li ap va le) (tpS B L P F) sh kf)
                refine g_if_ne hE 89 dX4_copy_83 (by decide) (fun c178 => absurd (by decide) c178) (fun c178 => ?_)
                refine g_bipush hE dX4_copy_86 (-13) (by decide) ?_
                exact g_iret hE hQ dX4_copy_88 rfl (3, 0, (-13), sh) rfl rfl ⟨h2, h166, (by show ((-13), sh) = fgCopy sh 3 0 i j n0; simp only [fgCopy, if_neg (show ¬ (3 : Nat) = 4 by decide), if_neg (show ¬ (0 : Nat) = 4 by decide), if_neg (show ¬ (sh 3 1 0) = (-1) from c167), if_neg (show ¬ (sh 0 1 0) = (-1) from c168), if_pos (show (sh 3 1 0) = (sh 0 1 0) from c169), if_pos c172, if_neg c176, if_pos trivial])⟩
            · rw [if_neg c172] at h171
              subst h171
              show Go E Q 8 0 0 71 [(7, .ref (a 37)), (6, .ref (a 43)), (0, .ref (a 0)), (1, .int x), (2, .int i), (3, .int y), (4, .int j), (5, .int n0)] [.int 0] (loftW cI cS a m v w (seS T C li ap va le) (tpS B L P F) sh kf)
              refine g_if_eq hE 86 dX4_copy_71 (by decide) (fun c179 => ?_) (fun c179 => absurd (by decide) c179)
              refine g_bipush hE dX4_copy_86 (-13) (by decide) ?_
              exact g_iret hE hQ dX4_copy_88 rfl (3, 0, (-13), sh) rfl rfl ⟨h2, h166, (by show ((-13), sh) = fgCopy sh 3 0 i j n0; simp only [fgCopy, if_neg (show ¬ (3 : Nat) = 4 by decide), if_neg (show ¬ (0 : Nat) = 4 by decide), if_neg (show ¬ (sh 3 1 0) = (-1) from c167), if_neg (show ¬ (sh 0 1 0) = (-1) from c168), if_pos (show (sh 3 1 0) = (sh 0 1 0) from c169), if_neg c172, if_pos trivial])⟩
          · refine g_bipush hE dX4_copy_60 (-12) (by decide) ?_
            exact g_iret hE hQ dX4_copy_62 rfl (3, 0, (-12), sh) rfl rfl ⟨h2, h166, (by show ((-12), sh) = fgCopy sh 3 0 i j n0; simp only [fgCopy, if_neg (show ¬ (3 : Nat) = 4 by decide), if_neg (show ¬ (0 : Nat) = 4 by decide), if_neg (show ¬ (sh 3 1 0) = (-1) from c167), if_neg (show ¬ (sh 0 1 0) = (-1) from c168), if_neg (show ¬ (sh 3 1 0) = (sh 0 1 0) from c169), if_pos trivial])⟩
        · refine g_bipush hE dX4_copy_44 (-11) (by decide) ?_
          exact g_iret hE hQ dX4_copy_46 rfl (3, 0, (-11), sh) rfl rfl ⟨h2, h166, (by show ((-11), sh) = fgCopy sh 3 0 i j n0; simp only [fgCopy, if_neg (show ¬ (3 : Nat) = 4 by decide), if_neg (show ¬ (0 : Nat) = 4 by decide), if_neg (show ¬ (sh 3 1 0) = (-1) from c167), if_pos (show (sh 0 1 0) = (-1) from c168), if_pos trivial])⟩
    · show Go E Q 8 0 0 12 [(6, .ref (a 43)), (0, .ref (a 0)), (1, .int x), (2, .int i), (3, .int y), (4, .int j), (5, .int n0)] [.ref (a 39)] (loftW cI cS a m v w (seS T C li ap va le) (tpS B L P F) sh kf)
      refine g_astore hE dX4_copy_12 [(7, .ref (a 39)), (6, .ref (a 43)), (0, .ref (a 0)), (1, .int x), (2, .int i), (3, .int y), (4, .int j), (5, .int n0)] (by decide) rfl ?_
      refine g_aload hE dX4_copy_14 1 rfl ?_
      refine g_ifnull hE dX4_copy_16 ?_
      refine g_aload hE dX4_copy_19 0 rfl ?_
      refine g_ifnonnull hE 26 dX4_copy_21 (by decide) ?_
      refine g_aload hE dX4_copy_26 1 rfl ?_
      refine g_get hE fl_X4_247 dX4_copy_28 43 rfl rfl ?_
      refine g_iconst hE dX4_copy_31 (-1) (by decide) ?_
      refine g_icmp_eq hE 44 dX4_copy_32 (by decide) (fun c180 => ?_) (fun c180 => ?_)
      · refine g_bipush hE dX4_copy_44 (-11) (by decide) ?_
        exact g_iret hE hQ dX4_copy_46 rfl (3, 1, (-11), sh) rfl rfl ⟨h2, h166, (by show ((-11), sh) = fgCopy sh 3 1 i j n0; simp only [fgCopy, if_neg (show ¬ (3 : Nat) = 4 by decide), if_neg (show ¬ (1 : Nat) = 4 by decide), if_pos (show (sh 3 1 0) = (-1) from c180), if_pos trivial])⟩
      · refine g_aload hE dX4_copy_35 0 rfl ?_
        refine g_get hE fl_X4_247 dX4_copy_37 39 rfl rfl ?_
        refine g_iconst hE dX4_copy_40 (-1) (by decide) ?_
        refine g_icmp_ne hE 47 dX4_copy_41 (by decide) (fun c181 => ?_) (fun c181 => ?_)
        · refine g_aload hE dX4_copy_47 1 rfl ?_
          refine g_get hE fl_X4_247 dX4_copy_49 43 rfl rfl ?_
          refine g_aload hE dX4_copy_52 0 rfl ?_
          refine g_get hE fl_X4_247 dX4_copy_54 39 rfl rfl ?_
          refine g_icmp_eq hE 63 dX4_copy_57 (by decide) (fun c182 => ?_) (fun c182 => ?_)
          · refine g_aload hE dX4_copy_63 1 rfl ?_
            refine g_iload_n hE dX4_copy_65 4 rfl ?_
            refine g_iload hE dX4_copy_66 7 rfl ?_
            refine g_callV hE (c_X2_hasItems cI cS (fun i => a (i + 43)) (sh 3 0) (sh 3 1 0) (sh 3 1 1) i n0) mk_X2_hasItems mv_X2_hasItems ml_X4_254 dX4_copy_68 (As := [.int i, .int n0]) (rest := []) rfl rfl 43 rfl (show vwCl[2]? = some (RX2, TX2, 3) from rfl) (by decide) (by decide) (Nat.le_of_ble_eq_true rfl) (by decide) (by decide) [43, 44] rfl (by decide) (fun u => Nat.le_of_ble_eq_true rfl) (ws' := fun u => loftW cI cS a m v w (seS T C li ap va le) (tpS B L P F) sh kf) (fun u => rfl) (fun u hu => ?_)
            obtain ⟨r_183, rfl⟩ : ∃ z, z = u := ⟨_, rfl⟩
            have h184 : r_183 = if hasI (sh 3 1 1) i n0 then 1 else 0 := hu
            by_cases c185 : hasI (sh 3 1 1) i n0
            · rw [if_pos c185] at h184
              subst h184
              show Go E Q 8 0 0 71 [(7, .ref (a 39)), (6, .ref (a 43)), (0, .ref (a 0)), (1, .int x), (2, .int i), (3, .int y), (4, .int j), (5, .int n0)] [.int 1] (loftW cI cS a m v w (seS T C li ap va le) (tpS B L P F) sh kf)
              refine g_if_eq hE 86 dX4_copy_71 (by decide) (fun c186 => absurd c186 (by decide)) (fun c186 => ?_)
              refine g_aload hE dX4_copy_74 0 rfl ?_
              refine g_iload hE dX4_copy_76 6 rfl ?_
              refine g_iload hE dX4_copy_78 7 rfl ?_
              refine g_callV hE (c_X2_hasItems cI cS (fun i => a (i + 39)) (sh 1 0) (sh 1 1 0) (sh 1 1 1) j n0) mk_X2_hasItems mv_X2_hasItems ml_X4_254 dX4_copy_80 (As := [.int j, .int n0]) (rest := []) rfl rfl 39 rfl (show vwCl[2]? = some (RX2, TX2, 3) from rfl) (by decide) (by decide) (Nat.le_of_ble_eq_true rfl) (by decide) (by decide) [39, 40] rfl (by decide) (fun u => Nat.le_of_ble_eq_true rfl) (ws' := fun u => loftW cI cS a m v w (seS T C li ap va le) (tpS B L P F) sh kf) (fun u => rfl) (fun u hu => ?_)
              obtain ⟨r_187, rfl⟩ : ∃ z, z = u := ⟨_, rfl⟩
              have h188 : r_187 = if hasI (sh 1 1 1) j n0 then 1 else 0 := hu
              by_cases c189 : hasI (sh 1 1 1) j n0
              · rw [if_pos c189] at h188
                subst h188
                show Go E Q 8 0 0 83 [(7, .ref (a 39)), (6, .ref (a 43)), (0, .ref (a 0)), (1, .int x), (2, .int i), (3, .int y), (4, .int j), (5, .int n0)] [.int 1] (loftW cI cS a m v w (seS T C li ap va le) (tpS B L P F) sh kf)
                refine g_if_ne hE 89 dX4_copy_83 (by decide) (fun c190 => ?_) (fun c190 => absurd c190 (by decide))
                refine g_aload hE dX4_copy_89 1 rfl ?_
                refine g_get hE fl_X4_257 dX4_copy_91 43 rfl rfl ?_
                refine g_iload_n hE dX4_copy_94 4 rfl ?_
                refine g_aload hE dX4_copy_95 0 rfl ?_
                refine g_get hE fl_X4_257 dX4_copy_97 39 rfl rfl ?_
                refine g_iload hE dX4_copy_100 6 rfl ?_
                refine g_iload hE dX4_copy_102 7 rfl ?_
                refine g_copy hE (by decide) ml_X4_260 ac_na ac_st ac_in dX4_copy_104 44 40 rfl rfl (Int32.not_lt.mpr c185.1) (Int32.not_lt.mpr c189.1) (Int32.not_lt.mpr c185.2.2.1) (cp_b c185 (hsh 3 (by decide))) (cp_b c189 (hsh 1 (by decide))) (Nat.le_of_ble_eq_true rfl) (loftW cI cS a m v w (seS T C li ap va le) (tpS B L P F) (pA sh 1 (shT (va_cpy (sh 3 0) (sh 1 0) (Int32.toNatClampNeg i) (Int32.toNatClampNeg j) (Int32.toNatClampNeg n0)) (sh 1 1 0) (sh 1 1 1))) kf) (by rfl) ?_
                refine g_iload hE dX4_copy_107 7 rfl ?_
                exact g_iret hE hQ dX4_copy_109 rfl (3, 1, n0, (pA sh 1 (shT (va_cpy (sh 3 0) (sh 1 0) (Int32.toNatClampNeg i) (Int32.toNatClampNeg j) (Int32.toNatClampNeg n0)) (sh 1 1 0) (sh 1 1 1)))) rfl rfl ⟨h2, h166, (by show (n0, (pA sh 1 (shT (va_cpy (sh 3 0) (sh 1 0) (Int32.toNatClampNeg i) (Int32.toNatClampNeg j) (Int32.toNatClampNeg n0)) (sh 1 1 0) (sh 1 1 1)))) = fgCopy sh 3 1 i j n0; simp only [fgCopy, if_neg (show ¬ (3 : Nat) = 4 by decide), if_neg (show ¬ (1 : Nat) = 4 by decide), if_neg (show ¬ (sh 3 1 0) = (-1) from c180), if_neg (show ¬ (sh 1 1 0) = (-1) from c181), if_pos (show (sh 3 1 0) = (sh 1 1 0) from c182), if_pos c185, if_pos c189, if_pos trivial])⟩
              · rw [if_neg c189] at h188
                subst h188
                show Go E Q 8 0 0 83 [(7, .ref (a 39)), (6, .ref (a 43)), (0, .ref (a 0)), (1, .int x), (2, .int i), (3, .int y), (4, .int j), (5, .int n0)] [.int 0] (loftW cI cS a m v w (seS T C li ap va le) (tpS B L P F) sh kf)
                refine g_if_ne hE 89 dX4_copy_83 (by decide) (fun c191 => absurd (by decide) c191) (fun c191 => ?_)
                refine g_bipush hE dX4_copy_86 (-13) (by decide) ?_
                exact g_iret hE hQ dX4_copy_88 rfl (3, 1, (-13), sh) rfl rfl ⟨h2, h166, (by show ((-13), sh) = fgCopy sh 3 1 i j n0; simp only [fgCopy, if_neg (show ¬ (3 : Nat) = 4 by decide), if_neg (show ¬ (1 : Nat) = 4 by decide), if_neg (show ¬ (sh 3 1 0) = (-1) from c180), if_neg (show ¬ (sh 1 1 0) = (-1) from c181), if_pos (show (sh 3 1 0) = (sh 1 1 0) from c182), if_pos c185, if_neg c189, if_pos trivial])⟩
            · rw [if_neg c185] at h184
              subst h184
              show Go E Q 8 0 0 71 [(7, .ref (a 39)), (6, .ref (a 43)), (0, .ref (a 0)), (1, .int x), (2, .int i), (3, .int y), (4, .int j), (5, .int n0)] [.int 0] (loftW cI cS a m v w (seS T C li ap va le) (tpS B L P F) sh kf)
              refine g_if_eq hE 86 dX4_copy_71 (by decide) (fun c192 => ?_) (fun c192 => absurd (by decide) c192)
              refine g_bipush hE dX4_copy_86 (-13) (by decide) ?_
              exact g_iret hE hQ dX4_copy_88 rfl (3, 1, (-13), sh) rfl rfl ⟨h2, h166, (by show ((-13), sh) = fgCopy sh 3 1 i j n0; simp only [fgCopy, if_neg (show ¬ (3 : Nat) = 4 by decide), if_neg (show ¬ (1 : Nat) = 4 by decide), if_neg (show ¬ (sh 3 1 0) = (-1) from c180), if_neg (show ¬ (sh 1 1 0) = (-1) from c181), if_pos (show (sh 3 1 0) = (sh 1 1 0) from c182), if_neg c185, if_pos trivial])⟩
          · refine g_bipush hE dX4_copy_60 (-12) (by decide) ?_
            exact g_iret hE hQ dX4_copy_62 rfl (3, 1, (-12), sh) rfl rfl ⟨h2, h166, (by show ((-12), sh) = fgCopy sh 3 1 i j n0; simp only [fgCopy, if_neg (show ¬ (3 : Nat) = 4 by decide), if_neg (show ¬ (1 : Nat) = 4 by decide), if_neg (show ¬ (sh 3 1 0) = (-1) from c180), if_neg (show ¬ (sh 1 1 0) = (-1) from c181), if_neg (show ¬ (sh 3 1 0) = (sh 1 1 0) from c182), if_pos trivial])⟩
        · refine g_bipush hE dX4_copy_44 (-11) (by decide) ?_
          exact g_iret hE hQ dX4_copy_46 rfl (3, 1, (-11), sh) rfl rfl ⟨h2, h166, (by show ((-11), sh) = fgCopy sh 3 1 i j n0; simp only [fgCopy, if_neg (show ¬ (3 : Nat) = 4 by decide), if_neg (show ¬ (1 : Nat) = 4 by decide), if_neg (show ¬ (sh 3 1 0) = (-1) from c180), if_pos (show (sh 1 1 0) = (-1) from c181), if_pos trivial])⟩
    · show Go E Q 8 0 0 12 [(6, .ref (a 43)), (0, .ref (a 0)), (1, .int x), (2, .int i), (3, .int y), (4, .int j), (5, .int n0)] [.ref (a 41)] (loftW cI cS a m v w (seS T C li ap va le) (tpS B L P F) sh kf)
      refine g_astore hE dX4_copy_12 [(7, .ref (a 41)), (6, .ref (a 43)), (0, .ref (a 0)), (1, .int x), (2, .int i), (3, .int y), (4, .int j), (5, .int n0)] (by decide) rfl ?_
      refine g_aload hE dX4_copy_14 1 rfl ?_
      refine g_ifnull hE dX4_copy_16 ?_
      refine g_aload hE dX4_copy_19 0 rfl ?_
      refine g_ifnonnull hE 26 dX4_copy_21 (by decide) ?_
      refine g_aload hE dX4_copy_26 1 rfl ?_
      refine g_get hE fl_X4_247 dX4_copy_28 43 rfl rfl ?_
      refine g_iconst hE dX4_copy_31 (-1) (by decide) ?_
      refine g_icmp_eq hE 44 dX4_copy_32 (by decide) (fun c193 => ?_) (fun c193 => ?_)
      · refine g_bipush hE dX4_copy_44 (-11) (by decide) ?_
        exact g_iret hE hQ dX4_copy_46 rfl (3, 2, (-11), sh) rfl rfl ⟨h2, h166, (by show ((-11), sh) = fgCopy sh 3 2 i j n0; simp only [fgCopy, if_neg (show ¬ (3 : Nat) = 4 by decide), if_neg (show ¬ (2 : Nat) = 4 by decide), if_pos (show (sh 3 1 0) = (-1) from c193), if_pos trivial])⟩
      · refine g_aload hE dX4_copy_35 0 rfl ?_
        refine g_get hE fl_X4_247 dX4_copy_37 41 rfl rfl ?_
        refine g_iconst hE dX4_copy_40 (-1) (by decide) ?_
        refine g_icmp_ne hE 47 dX4_copy_41 (by decide) (fun c194 => ?_) (fun c194 => ?_)
        · refine g_aload hE dX4_copy_47 1 rfl ?_
          refine g_get hE fl_X4_247 dX4_copy_49 43 rfl rfl ?_
          refine g_aload hE dX4_copy_52 0 rfl ?_
          refine g_get hE fl_X4_247 dX4_copy_54 41 rfl rfl ?_
          refine g_icmp_eq hE 63 dX4_copy_57 (by decide) (fun c195 => ?_) (fun c195 => ?_)
          · refine g_aload hE dX4_copy_63 1 rfl ?_
            refine g_iload_n hE dX4_copy_65 4 rfl ?_
            refine g_iload hE dX4_copy_66 7 rfl ?_
            refine g_callV hE (c_X2_hasItems cI cS (fun i => a (i + 43)) (sh 3 0) (sh 3 1 0) (sh 3 1 1) i n0) mk_X2_hasItems mv_X2_hasItems ml_X4_254 dX4_copy_68 (As := [.int i, .int n0]) (rest := []) rfl rfl 43 rfl (show vwCl[2]? = some (RX2, TX2, 3) from rfl) (by decide) (by decide) (Nat.le_of_ble_eq_true rfl) (by decide) (by decide) [43, 44] rfl (by decide) (fun u => Nat.le_of_ble_eq_true rfl) (ws' := fun u => loftW cI cS a m v w (seS T C li ap va le) (tpS B L P F) sh kf) (fun u => rfl) (fun u hu => ?_)
            obtain ⟨r_196, rfl⟩ : ∃ z, z = u := ⟨_, rfl⟩
            have h197 : r_196 = if hasI (sh 3 1 1) i n0 then 1 else 0 := hu
            by_cases c198 : hasI (sh 3 1 1) i n0
            · rw [if_pos c198] at h197
              subst h197
              show Go E Q 8 0 0 71 [(7, .ref (a 41)), (6, .ref (a 43)), (0, .ref (a 0)), (1, .int x), (2, .int i), (3, .int y), (4, .int j), (5, .int n0)] [.int 1] (loftW cI cS a m v w (seS T C li ap va le) (tpS B L P F) sh kf)
              refine g_if_eq hE 86 dX4_copy_71 (by decide) (fun c199 => absurd c199 (by decide)) (fun c199 => ?_)
              refine g_aload hE dX4_copy_74 0 rfl ?_
              refine g_iload hE dX4_copy_76 6 rfl ?_
              refine g_iload hE dX4_copy_78 7 rfl ?_
              refine g_callV hE (c_X2_hasItems cI cS (fun i => a (i + 41)) (sh 2 0) (sh 2 1 0) (sh 2 1 1) j n0) mk_X2_hasItems mv_X2_hasItems ml_X4_254 dX4_copy_80 (As := [.int j, .int n0]) (rest := []) rfl rfl 41 rfl (show vwCl[2]? = some (RX2, TX2, 3) from rfl) (by decide) (by decide) (Nat.le_of_ble_eq_true rfl) (by decide) (by decide) [41, 42] rfl (by decide) (fun u => Nat.le_of_ble_eq_true rfl) (ws' := fun u => loftW cI cS a m v w (seS T C li ap va le) (tpS B L P F) sh kf) (fun u => rfl) (fun u hu => ?_)
              obtain ⟨r_200, rfl⟩ : ∃ z, z = u := ⟨_, rfl⟩
              have h201 : r_200 = if hasI (sh 2 1 1) j n0 then 1 else 0 := hu
              by_cases c202 : hasI (sh 2 1 1) j n0
              · rw [if_pos c202] at h201
                subst h201
                show Go E Q 8 0 0 83 [(7, .ref (a 41)), (6, .ref (a 43)), (0, .ref (a 0)), (1, .int x), (2, .int i), (3, .int y), (4, .int j), (5, .int n0)] [.int 1] (loftW cI cS a m v w (seS T C li ap va le) (tpS B L P F) sh kf)
                refine g_if_ne hE 89 dX4_copy_83 (by decide) (fun c203 => ?_) (fun c203 => absurd c203 (by decide))
                refine g_aload hE dX4_copy_89 1 rfl ?_
                refine g_get hE fl_X4_257 dX4_copy_91 43 rfl rfl ?_
                refine g_iload_n hE dX4_copy_94 4 rfl ?_
                refine g_aload hE dX4_copy_95 0 rfl ?_
                refine g_get hE fl_X4_257 dX4_copy_97 41 rfl rfl ?_
                refine g_iload hE dX4_copy_100 6 rfl ?_
                refine g_iload hE dX4_copy_102 7 rfl ?_
                refine g_copy hE (by decide) ml_X4_260 ac_na ac_st ac_in dX4_copy_104 44 42 rfl rfl (Int32.not_lt.mpr c198.1) (Int32.not_lt.mpr c202.1) (Int32.not_lt.mpr c198.2.2.1) (cp_b c198 (hsh 3 (by decide))) (cp_b c202 (hsh 2 (by decide))) (Nat.le_of_ble_eq_true rfl) (loftW cI cS a m v w (seS T C li ap va le) (tpS B L P F) (pA sh 2 (shT (va_cpy (sh 3 0) (sh 2 0) (Int32.toNatClampNeg i) (Int32.toNatClampNeg j) (Int32.toNatClampNeg n0)) (sh 2 1 0) (sh 2 1 1))) kf) (by rfl) ?_
                refine g_iload hE dX4_copy_107 7 rfl ?_
                exact g_iret hE hQ dX4_copy_109 rfl (3, 2, n0, (pA sh 2 (shT (va_cpy (sh 3 0) (sh 2 0) (Int32.toNatClampNeg i) (Int32.toNatClampNeg j) (Int32.toNatClampNeg n0)) (sh 2 1 0) (sh 2 1 1)))) rfl rfl ⟨h2, h166, (by show (n0, (pA sh 2 (shT (va_cpy (sh 3 0) (sh 2 0) (Int32.toNatClampNeg i) (Int32.toNatClampNeg j) (Int32.toNatClampNeg n0)) (sh 2 1 0) (sh 2 1 1)))) = fgCopy sh 3 2 i j n0; simp only [fgCopy, if_neg (show ¬ (3 : Nat) = 4 by decide), if_neg (show ¬ (2 : Nat) = 4 by decide), if_neg (show ¬ (sh 3 1 0) = (-1) from c193), if_neg (show ¬ (sh 2 1 0) = (-1) from c194), if_pos (show (sh 3 1 0) = (sh 2 1 0) from c195), if_pos c198, if_pos c202, if_pos trivial])⟩
              · rw [if_neg c202] at h201
                subst h201
                show Go E Q 8 0 0 83 [(7, .ref (a 41)), (6, .ref (a 43)), (0, .ref (a 0)), (1, .int x), (2, .int i), (3, .int y), (4, .int j), (5, .int n0)] [.int 0] (loftW cI cS a m v w (seS T C li ap va le) (tpS B L P F) sh kf)
                refine g_if_ne hE 89 dX4_copy_83 (by decide) (fun c204 => absurd (by decide) c204) (fun c204 => ?_)
                refine g_bipush hE dX4_copy_86 (-13) (by decide) ?_
                exact g_iret hE hQ dX4_copy_88 rfl (3, 2, (-13), sh) rfl rfl ⟨h2, h166, (by show ((-13), sh) = fgCopy sh 3 2 i j n0; simp only [fgCopy, if_neg (show ¬ (3 : Nat) = 4 by decide), if_neg (show ¬ (2 : Nat) = 4 by decide), if_neg (show ¬ (sh 3 1 0) = (-1) from c193), if_neg (show ¬ (sh 2 1 0) = (-1) from c194), if_pos (show (sh 3 1 0) = (sh 2 1 0) from c195), if_pos c198, if_neg c202, if_pos trivial])⟩
            · rw [if_neg c198] at h197
              subst h197
              show Go E Q 8 0 0 71 [(7, .ref (a 41)), (6, .ref (a 43)), (0, .ref (a 0)), (1, .int x), (2, .int i), (3, .int y), (4, .int j), (5, .int n0)] [.int 0] (loftW cI cS a m v w (seS T C li ap va le) (tpS B L P F) sh kf)
              refine g_if_eq hE 86 dX4_copy_71 (by decide) (fun c205 => ?_) (fun c205 => absurd (by decide) c205)
              refine g_bipush hE dX4_copy_86 (-13) (by decide) ?_
              exact g_iret hE hQ dX4_copy_88 rfl (3, 2, (-13), sh) rfl rfl ⟨h2, h166, (by show ((-13), sh) = fgCopy sh 3 2 i j n0; simp only [fgCopy, if_neg (show ¬ (3 : Nat) = 4 by decide), if_neg (show ¬ (2 : Nat) = 4 by decide), if_neg (show ¬ (sh 3 1 0) = (-1) from c193), if_neg (show ¬ (sh 2 1 0) = (-1) from c194), if_pos (show (sh 3 1 0) = (sh 2 1 0) from c195), if_neg c198, if_pos trivial])⟩
          · refine g_bipush hE dX4_copy_60 (-12) (by decide) ?_
            exact g_iret hE hQ dX4_copy_62 rfl (3, 2, (-12), sh) rfl rfl ⟨h2, h166, (by show ((-12), sh) = fgCopy sh 3 2 i j n0; simp only [fgCopy, if_neg (show ¬ (3 : Nat) = 4 by decide), if_neg (show ¬ (2 : Nat) = 4 by decide), if_neg (show ¬ (sh 3 1 0) = (-1) from c193), if_neg (show ¬ (sh 2 1 0) = (-1) from c194), if_neg (show ¬ (sh 3 1 0) = (sh 2 1 0) from c195), if_pos trivial])⟩
        · refine g_bipush hE dX4_copy_44 (-11) (by decide) ?_
          exact g_iret hE hQ dX4_copy_46 rfl (3, 2, (-11), sh) rfl rfl ⟨h2, h166, (by show ((-11), sh) = fgCopy sh 3 2 i j n0; simp only [fgCopy, if_neg (show ¬ (3 : Nat) = 4 by decide), if_neg (show ¬ (2 : Nat) = 4 by decide), if_neg (show ¬ (sh 3 1 0) = (-1) from c193), if_pos (show (sh 2 1 0) = (-1) from c194), if_pos trivial])⟩
    · show Go E Q 8 0 0 12 [(6, .ref (a 43)), (0, .ref (a 0)), (1, .int x), (2, .int i), (3, .int y), (4, .int j), (5, .int n0)] [.ref (a 43)] (loftW cI cS a m v w (seS T C li ap va le) (tpS B L P F) sh kf)
      refine g_astore hE dX4_copy_12 [(7, .ref (a 43)), (6, .ref (a 43)), (0, .ref (a 0)), (1, .int x), (2, .int i), (3, .int y), (4, .int j), (5, .int n0)] (by decide) rfl ?_
      refine g_aload hE dX4_copy_14 1 rfl ?_
      refine g_ifnull hE dX4_copy_16 ?_
      refine g_aload hE dX4_copy_19 0 rfl ?_
      refine g_ifnonnull hE 26 dX4_copy_21 (by decide) ?_
      refine g_aload hE dX4_copy_26 1 rfl ?_
      refine g_get hE fl_X4_247 dX4_copy_28 43 rfl rfl ?_
      refine g_iconst hE dX4_copy_31 (-1) (by decide) ?_
      refine g_icmp_eq hE 44 dX4_copy_32 (by decide) (fun c206 => ?_) (fun c206 => ?_)
      · refine g_bipush hE dX4_copy_44 (-11) (by decide) ?_
        exact g_iret hE hQ dX4_copy_46 rfl (3, 3, (-11), sh) rfl rfl ⟨h2, h166, (by show ((-11), sh) = fgCopy sh 3 3 i j n0; simp only [fgCopy, if_neg (show ¬ (3 : Nat) = 4 by decide), if_neg (show ¬ (3 : Nat) = 4 by decide), if_pos (show (sh 3 1 0) = (-1) from c206), if_pos trivial])⟩
      · refine g_aload hE dX4_copy_35 0 rfl ?_
        refine g_get hE fl_X4_247 dX4_copy_37 43 rfl rfl ?_
        refine g_iconst hE dX4_copy_40 (-1) (by decide) ?_
        refine g_icmp_ne hE 47 dX4_copy_41 (by decide) (fun c207 => ?_) (fun c207 => absurd c207 (show ¬ (sh 3 1 0) = (-1) from c206))
        refine g_aload hE dX4_copy_47 1 rfl ?_
        refine g_get hE fl_X4_247 dX4_copy_49 43 rfl rfl ?_
        refine g_aload hE dX4_copy_52 0 rfl ?_
        refine g_get hE fl_X4_247 dX4_copy_54 43 rfl rfl ?_
        refine g_icmp_eq hE 63 dX4_copy_57 (by decide) (fun c208 => ?_) (fun c208 => ?_)
        · refine g_aload hE dX4_copy_63 1 rfl ?_
          refine g_iload_n hE dX4_copy_65 4 rfl ?_
          refine g_iload hE dX4_copy_66 7 rfl ?_
          refine g_callV hE (c_X2_hasItems cI cS (fun i => a (i + 43)) (sh 3 0) (sh 3 1 0) (sh 3 1 1) i n0) mk_X2_hasItems mv_X2_hasItems ml_X4_254 dX4_copy_68 (As := [.int i, .int n0]) (rest := []) rfl rfl 43 rfl (show vwCl[2]? = some (RX2, TX2, 3) from rfl) (by decide) (by decide) (Nat.le_of_ble_eq_true rfl) (by decide) (by decide) [43, 44] rfl (by decide) (fun u => Nat.le_of_ble_eq_true rfl) (ws' := fun u => loftW cI cS a m v w (seS T C li ap va le) (tpS B L P F) sh kf) (fun u => rfl) (fun u hu => ?_)
          obtain ⟨r_209, rfl⟩ : ∃ z, z = u := ⟨_, rfl⟩
          have h210 : r_209 = if hasI (sh 3 1 1) i n0 then 1 else 0 := hu
          by_cases c211 : hasI (sh 3 1 1) i n0
          · rw [if_pos c211] at h210
            subst h210
            show Go E Q 8 0 0 71 [(7, .ref (a 43)), (6, .ref (a 43)), (0, .ref (a 0)), (1, .int x), (2, .int i), (3, .int y), (4, .int j), (5, .int n0)] [.int 1] (loftW cI cS a m v w (seS T C li ap va le) (tpS B L P F) sh kf)
            refine g_if_eq hE 86 dX4_copy_71 (by decide) (fun c212 => absurd c212 (by decide)) (fun c212 => ?_)
            refine g_aload hE dX4_copy_74 0 rfl ?_
            refine g_iload hE dX4_copy_76 6 rfl ?_
            refine g_iload hE dX4_copy_78 7 rfl ?_
            refine g_callV hE (c_X2_hasItems cI cS (fun i => a (i + 43)) (sh 3 0) (sh 3 1 0) (sh 3 1 1) j n0) mk_X2_hasItems mv_X2_hasItems ml_X4_254 dX4_copy_80 (As := [.int j, .int n0]) (rest := []) rfl rfl 43 rfl (show vwCl[2]? = some (RX2, TX2, 3) from rfl) (by decide) (by decide) (Nat.le_of_ble_eq_true rfl) (by decide) (by decide) [43, 44] rfl (by decide) (fun u => Nat.le_of_ble_eq_true rfl) (ws' := fun u => loftW cI cS a m v w (seS T C li ap va le) (tpS B L P F) sh kf) (fun u => rfl) (fun u hu => ?_)
            obtain ⟨r_213, rfl⟩ : ∃ z, z = u := ⟨_, rfl⟩
            have h214 : r_213 = if hasI (sh 3 1 1) j n0 then 1 else 0 := hu
            by_cases c215 : hasI (sh 3 1 1) j n0
            · rw [if_pos c215] at h214
              subst h214
              show Go E Q 8 0 0 83 [(7, .ref (a 43)), (6, .ref (a 43)), (0, .ref (a 0)), (1, .int x), (2, .int i), (3, .int y), (4, .int j), (5, .int n0)] [.int 1] (loftW cI cS a m v w (seS T C li ap va le) (tpS B L P F) sh kf)
              refine g_if_ne hE 89 dX4_copy_83 (by decide) (fun c216 => ?_) (fun c216 => absurd c216 (by decide))
              refine g_aload hE dX4_copy_89 1 rfl ?_
              refine g_get hE fl_X4_257 dX4_copy_91 43 rfl rfl ?_
              refine g_iload_n hE dX4_copy_94 4 rfl ?_
              refine g_aload hE dX4_copy_95 0 rfl ?_
              refine g_get hE fl_X4_257 dX4_copy_97 43 rfl rfl ?_
              refine g_iload hE dX4_copy_100 6 rfl ?_
              refine g_iload hE dX4_copy_102 7 rfl ?_
              refine g_copy hE (by decide) ml_X4_260 ac_na ac_st ac_in dX4_copy_104 44 44 rfl rfl (Int32.not_lt.mpr c211.1) (Int32.not_lt.mpr c215.1) (Int32.not_lt.mpr c211.2.2.1) (cp_b c211 (hsh 3 (by decide))) (cp_b c215 (hsh 3 (by decide))) (Nat.le_of_ble_eq_true rfl) (loftW cI cS a m v w (seS T C li ap va le) (tpS B L P F) (pA sh 3 (shT (va_cpy (sh 3 0) (sh 3 0) (Int32.toNatClampNeg i) (Int32.toNatClampNeg j) (Int32.toNatClampNeg n0)) (sh 3 1 0) (sh 3 1 1))) kf) (by rfl) ?_
              refine g_iload hE dX4_copy_107 7 rfl ?_
              exact g_iret hE hQ dX4_copy_109 rfl (3, 3, n0, (pA sh 3 (shT (va_cpy (sh 3 0) (sh 3 0) (Int32.toNatClampNeg i) (Int32.toNatClampNeg j) (Int32.toNatClampNeg n0)) (sh 3 1 0) (sh 3 1 1)))) rfl rfl ⟨h2, h166, (by show (n0, (pA sh 3 (shT (va_cpy (sh 3 0) (sh 3 0) (Int32.toNatClampNeg i) (Int32.toNatClampNeg j) (Int32.toNatClampNeg n0)) (sh 3 1 0) (sh 3 1 1)))) = fgCopy sh 3 3 i j n0; simp only [fgCopy, if_neg (show ¬ (3 : Nat) = 4 by decide), if_neg (show ¬ (3 : Nat) = 4 by decide), if_neg (show ¬ (sh 3 1 0) = (-1) from c206), if_neg (show ¬ (sh 3 1 0) = (-1) from c206), if_pos (show (sh 3 1 0) = (sh 3 1 0) from c208), if_pos c211, if_pos c215, if_pos trivial])⟩
            · rw [if_neg c215] at h214
              subst h214
              show Go E Q 8 0 0 83 [(7, .ref (a 43)), (6, .ref (a 43)), (0, .ref (a 0)), (1, .int x), (2, .int i), (3, .int y), (4, .int j), (5, .int n0)] [.int 0] (loftW cI cS a m v w (seS T C li ap va le) (tpS B L P F) sh kf)
              refine g_if_ne hE 89 dX4_copy_83 (by decide) (fun c217 => absurd (by decide) c217) (fun c217 => ?_)
              refine g_bipush hE dX4_copy_86 (-13) (by decide) ?_
              exact g_iret hE hQ dX4_copy_88 rfl (3, 3, (-13), sh) rfl rfl ⟨h2, h166, (by show ((-13), sh) = fgCopy sh 3 3 i j n0; simp only [fgCopy, if_neg (show ¬ (3 : Nat) = 4 by decide), if_neg (show ¬ (3 : Nat) = 4 by decide), if_neg (show ¬ (sh 3 1 0) = (-1) from c206), if_neg (show ¬ (sh 3 1 0) = (-1) from c206), if_pos (show (sh 3 1 0) = (sh 3 1 0) from c208), if_pos c211, if_neg c215, if_pos trivial])⟩
          · rw [if_neg c211] at h210
            subst h210
            show Go E Q 8 0 0 71 [(7, .ref (a 43)), (6, .ref (a 43)), (0, .ref (a 0)), (1, .int x), (2, .int i), (3, .int y), (4, .int j), (5, .int n0)] [.int 0] (loftW cI cS a m v w (seS T C li ap va le) (tpS B L P F) sh kf)
            refine g_if_eq hE 86 dX4_copy_71 (by decide) (fun c218 => ?_) (fun c218 => absurd (by decide) c218)
            refine g_bipush hE dX4_copy_86 (-13) (by decide) ?_
            exact g_iret hE hQ dX4_copy_88 rfl (3, 3, (-13), sh) rfl rfl ⟨h2, h166, (by show ((-13), sh) = fgCopy sh 3 3 i j n0; simp only [fgCopy, if_neg (show ¬ (3 : Nat) = 4 by decide), if_neg (show ¬ (3 : Nat) = 4 by decide), if_neg (show ¬ (sh 3 1 0) = (-1) from c206), if_neg (show ¬ (sh 3 1 0) = (-1) from c206), if_pos (show (sh 3 1 0) = (sh 3 1 0) from c208), if_neg c211, if_pos trivial])⟩
        · refine g_bipush hE dX4_copy_60 (-12) (by decide) ?_
          exact g_iret hE hQ dX4_copy_62 rfl (3, 3, (-12), sh) rfl rfl ⟨h2, h166, (absurd rfl (show ¬ (sh 3 1 0) = (sh 3 1 0) from c208))⟩
    · show Go E Q 8 0 0 12 [(6, .ref (a 43)), (0, .ref (a 0)), (1, .int x), (2, .int i), (3, .int y), (4, .int j), (5, .int n0)] [.null] (loftW cI cS a m v w (seS T C li ap va le) (tpS B L P F) sh kf)
      refine g_astoreN hE dX4_copy_12 [(7, .null), (6, .ref (a 43)), (0, .ref (a 0)), (1, .int x), (2, .int i), (3, .int y), (4, .int j), (5, .int n0)] (by decide) rfl ?_
      refine g_aload hE dX4_copy_14 1 rfl ?_
      refine g_ifnull hE dX4_copy_16 ?_
      refine g_aloadN hE dX4_copy_19 0 rfl ?_
      refine g_ifnonnullN hE dX4_copy_21 ?_
      refine g_iconst hE dX4_copy_24 (-1) (by decide) ?_
      exact g_iret hE hQ dX4_copy_25 rfl (3, 4, (-1), sh) rfl rfl ⟨h2, h166, (by show ((-1), sh) = fgCopy sh 3 4 i j n0; simp only [fgCopy, if_neg (show ¬ (3 : Nat) = 4 by decide), if_pos (show (4 : Nat) = 4 by decide), if_pos trivial])⟩
  · show Go E Q 8 0 0 5 [(0, .ref (a 0)), (1, .int x), (2, .int i), (3, .int y), (4, .int j), (5, .int n0)] [.null] (loftW cI cS a m v w (seS T C li ap va le) (tpS B L P F) sh kf)
    refine g_astoreN hE dX4_copy_5 [(6, .null), (0, .ref (a 0)), (1, .int x), (2, .int i), (3, .int y), (4, .int j), (5, .int n0)] (by decide) rfl ?_
    refine g_aload_n hE dX4_copy_7 1 rfl ?_
    refine g_iload_n hE dX4_copy_8 4 rfl ?_
    refine g_callV hE (c_X4_sheetAt cI cS a m v w T C li ap va le B L P F sh kf (by first | assumption | exact mw_of (by assumption)) (by first | assumption | exact mw_of (by assumption)) (by first | assumption | exact mw_of (by assumption)) hL y) mk_X4_sheetAt mv_X4_sheetAt ml_X4_221 dX4_copy_9 (As := [.int y]) (rest := []) rfl rfl 0 rfl (show vwCl[4]? = some (RX4, TX4, 7) from rfl) (by decide) (by decide) (Nat.le_of_ble_eq_true rfl) (by decide) (by decide) [0, 1, 2, 3, 4, 5, 6, 7, 8, 9, 10, 11, 12, 13, 14, 15, 16, 17, 18, 19, 20, 21, 22, 23, 24, 25, 26, 27, 28, 29, 30, 31, 32, 33, 34, 35, 36, 37, 38, 39, 40, 41, 42, 43, 44] rfl (by decide) (fun u => Nat.le_of_ble_eq_true rfl) (ws' := fun u => loftW cI cS a m v w (seS T C li ap va le) (tpS B L P F) sh kf) (fun u => rfl) (fun u hu => ?_)
    obtain ⟨k_219, rfl⟩ : ∃ z, z = u := ⟨_, rfl⟩
    have h220 : SK k_219 y := hu
    rcases (show k_219 = 0 ∨ k_219 = 1 ∨ k_219 = 2 ∨ k_219 = 3 ∨ k_219 = 4 by rcases h220 with q | q <;> omega) with rfl | rfl | rfl | rfl | rfl
    · show Go E Q 8 0 0 12 [(6, .null), (0, .ref (a 0)), (1, .int x), (2, .int i), (3, .int y), (4, .int j), (5, .int n0)] [.ref (a 37)] (loftW cI cS a m v w (seS T C li ap va le) (tpS B L P F) sh kf)
      refine g_astore hE dX4_copy_12 [(7, .ref (a 37)), (6, .null), (0, .ref (a 0)), (1, .int x), (2, .int i), (3, .int y), (4, .int j), (5, .int n0)] (by decide) rfl ?_
      refine g_aloadN hE dX4_copy_14 1 rfl ?_
      refine g_ifnullN hE 24 dX4_copy_16 (by decide) ?_
      refine g_iconst hE dX4_copy_24 (-1) (by decide) ?_
      exact g_iret hE hQ dX4_copy_25 rfl (4, 0, (-1), sh) rfl rfl ⟨h2, h220, (by show ((-1), sh) = fgCopy sh 4 0 i j n0; simp only [fgCopy, if_pos (show (4 : Nat) = 4 by decide), if_pos trivial])⟩
    · show Go E Q 8 0 0 12 [(6, .null), (0, .ref (a 0)), (1, .int x), (2, .int i), (3, .int y), (4, .int j), (5, .int n0)] [.ref (a 39)] (loftW cI cS a m v w (seS T C li ap va le) (tpS B L P F) sh kf)
      refine g_astore hE dX4_copy_12 [(7, .ref (a 39)), (6, .null), (0, .ref (a 0)), (1, .int x), (2, .int i), (3, .int y), (4, .int j), (5, .int n0)] (by decide) rfl ?_
      refine g_aloadN hE dX4_copy_14 1 rfl ?_
      refine g_ifnullN hE 24 dX4_copy_16 (by decide) ?_
      refine g_iconst hE dX4_copy_24 (-1) (by decide) ?_
      exact g_iret hE hQ dX4_copy_25 rfl (4, 1, (-1), sh) rfl rfl ⟨h2, h220, (by show ((-1), sh) = fgCopy sh 4 1 i j n0; simp only [fgCopy, if_pos (show (4 : Nat) = 4 by decide), if_pos trivial])⟩
    · show Go E Q 8 0 0 12 [(6, .null), (0, .ref (a 0)), (1, .int x), (2, .int i), (3, .int y), (4, .int j), (5, .int n0)] [.ref (a 41)] (loftW cI cS a m v w (seS T C li ap va le) (tpS B L P F) sh kf)
      refine g_astore hE dX4_copy_12 [(7, .ref (a 41)), (6, .null), (0, .ref (a 0)), (1, .int x), (2, .int i), (3, .int y), (4, .int j), (5, .int n0)] (by decide) rfl ?_
      refine g_aloadN hE dX4_copy_14 1 rfl ?_
      refine g_ifnullN hE 24 dX4_copy_16 (by decide) ?_
      refine g_iconst hE dX4_copy_24 (-1) (by decide) ?_
      exact g_iret hE hQ dX4_copy_25 rfl (4, 2, (-1), sh) rfl rfl ⟨h2, h220, (by show ((-1), sh) = fgCopy sh 4 2 i j n0; simp only [fgCopy, if_pos (show (4 : Nat) = 4 by decide), if_pos trivial])⟩
    · show Go E Q 8 0 0 12 [(6, .null), (0, .ref (a 0)), (1, .int x), (2, .int i), (3, .int y), (4, .int j), (5, .int n0)] [.ref (a 43)] (loftW cI cS a m v w (seS T C li ap va le) (tpS B L P F) sh kf)
      refine g_astore hE dX4_copy_12 [(7, .ref (a 43)), (6, .null), (0, .ref (a 0)), (1, .int x), (2, .int i), (3, .int y), (4, .int j), (5, .int n0)] (by decide) rfl ?_
      refine g_aloadN hE dX4_copy_14 1 rfl ?_
      refine g_ifnullN hE 24 dX4_copy_16 (by decide) ?_
      refine g_iconst hE dX4_copy_24 (-1) (by decide) ?_
      exact g_iret hE hQ dX4_copy_25 rfl (4, 3, (-1), sh) rfl rfl ⟨h2, h220, (by show ((-1), sh) = fgCopy sh 4 3 i j n0; simp only [fgCopy, if_pos (show (4 : Nat) = 4 by decide), if_pos trivial])⟩
    · show Go E Q 8 0 0 12 [(6, .null), (0, .ref (a 0)), (1, .int x), (2, .int i), (3, .int y), (4, .int j), (5, .int n0)] [.null] (loftW cI cS a m v w (seS T C li ap va le) (tpS B L P F) sh kf)
      refine g_astoreN hE dX4_copy_12 [(7, .null), (6, .null), (0, .ref (a 0)), (1, .int x), (2, .int i), (3, .int y), (4, .int j), (5, .int n0)] (by decide) rfl ?_
      refine g_aloadN hE dX4_copy_14 1 rfl ?_
      refine g_ifnullN hE 24 dX4_copy_16 (by decide) ?_
      refine g_iconst hE dX4_copy_24 (-1) (by decide) ?_
      exact g_iret hE hQ dX4_copy_25 rfl (4, 4, (-1), sh) rfl rfl ⟨h2, h220, (by show ((-1), sh) = fgCopy sh 4 4 i j n0; simp only [fgCopy, if_pos (show (4 : Nat) = 4 by decide), if_pos trivial])⟩
