/-! the loft's calls: best, parted, season -/
def rowF (b : List Nat) (j : Nat) : Int32 := nI (b.getD j 0)
def bestR (m : MS) (n : Nat) (b : List Nat) (i : Int32) : Int32 := if i = -2 then VR m n b else if i = -1 then nI b.length else if i < nI b.length then rowF b i.toNatClampNeg else -4
def fBest (m : MS) (n sv : Nat) (k i r : Int32) : Prop := (¬ (0 ≤ k ∧ k ≤ 4) ∧ r = -1) ∨ (¬ (-2 ≤ i ∧ i ≤ 3) ∧ r = -1) ∨ ((0 ≤ k ∧ k ≤ 4) ∧ (-2 ≤ i ∧ i ≤ 3) ∧ ∃ b, BestOf m n sv k.toNatClampNeg b ∧ r = bestR m n b i)
def partR (b : List Nat) (i : Int32) : Int32 := if i = -1 then nI b.length else if i < nI b.length then rowF b i.toNatClampNeg else -4
def fPart (m : MS) (n sv : Nat) (x i r : Int32) : Prop := (¬ (0 ≤ x ∧ x ≤ ((1 <<< ((m 9 0) &&& 31)) - 1)) ∧ r = -1) ∨ (¬ (-1 ≤ i ∧ i ≤ 3) ∧ r = -1) ∨ ((0 ≤ x ∧ x ≤ ((1 <<< ((m 9 0) &&& 31)) - 1)) ∧ (-1 ≤ i ∧ i ≤ 3) ∧ NoPart m n sv x.toNatClampNeg ∧ r = -4) ∨ ((0 ≤ x ∧ x ≤ ((1 <<< ((m 9 0) &&& 31)) - 1)) ∧ (-1 ≤ i ∧ i ≤ 3) ∧ ∃ b, PartOf m n sv x.toNatClampNeg b ∧ r = partR b i)
theorem chosen_nn {C : Nat → Int32} {le i : Int32} {b : List Nat} (h0 : 0 ≤ i) (h2 : le = nI b.length) (h3 : ∀ j, j < b.length → C j = nI (b.getD j 0)) (h4 : b.length ≤ 4) : (if i < le then atv C 4 i else -4) = if i < nI b.length then rowF b i.toNatClampNeg else -4 := by
  rw [h2]
  by_cases h : i < nI b.length
  · rw [if_pos h, if_pos h]
    obtain ⟨j, j1, j2, j3⟩ := nat_of_lt ⟨h0, h⟩ rfl (by omega)
    rw [← j3, j2, atv_n (by omega) (by decide), h3 j j1]
    rfl
  · rw [if_neg h, if_neg h]
theorem chosen_at {C : Nat → Int32} {le i : Int32} {b : List Nat} (h0 : -2 ≤ i) (n2 : ¬ i = -2) (n1 : ¬ i = -1) (h2 : le = nI b.length) (h3 : ∀ j, j < b.length → C j = nI (b.getD j 0)) (h4 : b.length ≤ 4) : (if i < le then atv C 4 i else -4) = if i < nI b.length then rowF b i.toNatClampNeg else -4 := by
  refine chosen_nn ?_ h2 h3 h4
  rw [Int32.le_iff_toInt_le] at h0 ⊢
  have e2 : i.toInt ≠ -2 := fun q => n2 (Int32.toInt_inj.mp q)
  have e1 : i.toInt ≠ -1 := fun q => n1 (Int32.toInt_inj.mp q)
  have h0' : (-2 : Int) ≤ i.toInt := h0
  show (0 : Int) ≤ i.toInt
  omega
theorem chosen_at2 {C : Nat → Int32} {le i : Int32} {b : List Nat} (h0 : -1 ≤ i) (n1 : ¬ i = -1) (h2 : le = nI b.length) (h3 : ∀ j, j < b.length → C j = nI (b.getD j 0)) (h4 : b.length ≤ 4) : (if i < le then atv C 4 i else -4) = if i < nI b.length then rowF b i.toNatClampNeg else -4 := by
  refine chosen_nn ?_ h2 h3 h4
  rw [Int32.le_iff_toInt_le] at h0 ⊢
  have e1 : i.toInt ≠ -1 := fun q => n1 (Int32.toInt_inj.mp q)
  have h0' : (-1 : Int) ≤ i.toInt := h0
  show (0 : Int) ≤ i.toInt
  omega
theorem part_set {m : MS} {n : Nat} {x : Int32} (hn : m 9 0 = nI n) (hn6 : n ≤ 6) (h : 0 ≤ x ∧ x ≤ ((1 <<< ((m 9 0) &&& 31)) - 1)) : ∃ j : Nat, j < 64 ∧ x = nI j ∧ j = x.toNatClampNeg := by
  have e : ∀ n, n ≤ 6 → ((1 : Int32) <<< (nI n &&& 31)) - 1 = nI (2 ^ n - 1) := by
    intro n hn
    rcases (show n = 0 ∨ n = 1 ∨ n = 2 ∨ n = 3 ∨ n = 4 ∨ n = 5 ∨ n = 6 by omega) with rfl | rfl | rfl | rfl | rfl | rfl | rfl <;> decide
  have e2 : 2 ^ n ≤ 64 := Nat.le_trans (Nat.pow_le_pow_right (by decide) hn6) (by decide)
  have e3 : 0 < 2 ^ n := Nat.two_pow_pos n
  obtain ⟨j, j1, j2, j3⟩ := nat_of_le (b := 2 ^ n - 1) h (by rw [hn]; exact e n hn6) (by omega)
  exact ⟨j, by omega, j2, j3⟩
theorem part_pos {m : MS} {n sv aps : Nat} {le : Int32} {C : Nat → Int32} {b : List Nat} (q : PartOf m n sv aps b ∧ le = nI b.length ∧ ∀ j, j < b.length → C j = nI (b.getD j 0)) : ¬ le < 0 := by
  rw [q.2.1]
  exact nI_pos (by have := q.1.1; omega)
theorem shS_cong {m : MS} {n : Nat} {f g : Nat → Int32} : ∀ {k : Nat}, (∀ j, j < k → f j = g j) → shS m n f k = shS m n g k
  | 0, _ => rfl
  | k + 1, h => by rw [shS, shS, shS_cong (fun j hj => h j (by omega)), h k (by omega)]
theorem shM_cong {m : MS} {n : Nat} {f : Nat → Int32} {b : List Nat} (h : ∀ j, j < b.length → f j = nI (b.getD j 0)) : shM m n f b.length = shM m n (rowF b) b.length := by unfold shM; rw [shS_cong h]; rfl
theorem shV_cong {m : MS} {n : Nat} {f : Nat → Int32} {b : List Nat} (h : ∀ j, j < b.length → f j = nI (b.getD j 0)) : shV m n f b.length = shV m n (rowF b) b.length := by unfold shV; rw [shS_cong h]; rfl
/-- the days of a season -/
def seR (m : MS) (n sv L : Nat) : Nat → MS → Int32 → Prop
  | 0, m', x' => m' = m ∧ x' = 0
  | d + 1, m', x' => ∃ (m1 : MS) (x1 : Int32) (b : List Nat), seR m n sv L d m1 x1 ∧ BestOf m1 n sv L b ∧ m' = shM m1 n (rowF b) b.length ∧ x' = x1 + shV m1 n (rowF b) b.length
def fSea (m : MS) (n sv : Nat) (x k r : Int32) (mm : MS) : Prop := (¬ (1 ≤ x ∧ x ≤ 20) ∧ r = -1 ∧ mm = m) ∨ (¬ (0 ≤ k ∧ k ≤ 3) ∧ r = -1 ∧ mm = m) ∨ ((1 ≤ x ∧ x ≤ 20) ∧ (0 ≤ k ∧ k ≤ 3) ∧ seR m n sv k.toNatClampNeg x.toNatClampNeg mm r)
set_option maxHeartbeats 4000000 in
set_option maxRecDepth 100000 in
theorem c_X4_best (cI cS : ClassId) (a : Nat → Nat) (m v w : Nat → Nat → Int32) (T C : Nat → Int32) (li ap va le : Int32) (B : Nat → Int32) (L P : Nat) (F : Int32) (sh : Nat → Nat → Nat → Int32) (kf : Int32) {n sv pl n1 sv1 pl1 n2 sv2 pl2 : Nat} (hM : MW m n sv pl) (hV : MW v n1 sv1 pl1) (hW : MW w n2 sv2 pl2) (hL : L ≤ 120) (k i : Int32) : CT cI cS yX4_best cX4_best 3 (some .int) 11 [.ref (a 0), .int k, .int i] (loftW cI cS a m v w (seS T C li ap va le) (tpS B L P F) sh kf) 0 0 (fun u : Int32 × (Nat → Int32) × (Nat → Int32) × Int32 × Int32 × Int32 × Int32 => fBest m n sv k i u.1) (fun u => some (.int u.1)) (fun u => (loftW cI cS a m v w (seS u.2.1 u.2.2.1 u.2.2.2.1 u.2.2.2.2.1 u.2.2.2.2.2.1 u.2.2.2.2.2.2) (tpS B L P F) sh kf)) := by
  refine ct_intro (by decide) (Nat.le_of_ble_eq_true rfl) (fun E Q hE hQ hI => ?_)
  have hE : CxOk E cI cS RX4 cX4_best 3 (some .int) 11 0 0 := hE
  show Go E Q 3 0 0 0 [(0, .ref (a 0)), (1, .int k), (2, .int i)] [] (loftW cI cS a m v w (seS T C li ap va le) (tpS B L P F) sh kf)
  have hn := hM.1
  have hn6 := hM.2.1
  have hsv := hM.2.2.1
  have hsv8 := hM.2.2.2.1
  have hpl := hM.2.2.2.2.1
  have hpl6 := hM.2.2.2.2.2
  have hn1 := hV.1
  have hn16 := hV.2.1
  have hsv1 := hV.2.2.1
  have hsv18 := hV.2.2.2.1
  have hpl1 := hV.2.2.2.2.1
  have hpl16 := hV.2.2.2.2.2
  refine g_iload_n hE dX4_best_0 1 rfl ?_
  refine g_iconst hE dX4_best_1 0 (by decide) ?_
  refine g_iconst hE dX4_best_2 4 (by decide) ?_
  refine g_callS hE (c_X4_within cI cS k 0 4) mk_X4_within st_X4_within ml_X4_47 dX4_best_3 (As := [.int k, .int 0, .int 4]) (rest := []) rfl rfl (by decide) (by decide) (Nat.le_of_ble_eq_true rfl) (by decide) (by decide) [] rfl (by decide) (fun u => Nat.le_of_ble_eq_true rfl) (ws' := fun u => loftW cI cS a m v w (seS T C li ap va le) (tpS B L P F) sh kf) (fun u => rfl) (fun u hu => ?_)
  obtain ⟨r_1, rfl⟩ : ∃ z, z = u := ⟨_, rfl⟩
  have h2 : r_1 = if 0 ≤ k ∧ k ≤ 4 then 1 else 0 := hu
  by_cases c3 : 0 ≤ k ∧ k ≤ 4
  · rw [if_pos c3] at h2
    subst h2
    show Go E Q 3 0 0 6 [(0, .ref (a 0)), (1, .int k), (2, .int i)] [.int 1] (loftW cI cS a m v w (seS T C li ap va le) (tpS B L P F) sh kf)
    refine g_if_eq hE 19 dX4_best_6 (by decide) (fun c4 => absurd c4 (by decide)) (fun c4 => ?_)
    refine g_iload_n hE dX4_best_9 2 rfl ?_
    refine g_bipush hE dX4_best_10 (-2) (by decide) ?_
    refine g_iconst hE dX4_best_12 3 (by decide) ?_
    refine g_callS hE (c_X4_within cI cS i (-2) 3) mk_X4_within st_X4_within ml_X4_47 dX4_best_13 (As := [.int i, .int (-2), .int 3]) (rest := []) rfl rfl (by decide) (by decide) (Nat.le_of_ble_eq_true rfl) (by decide) (by decide) [] rfl (by decide) (fun u => Nat.le_of_ble_eq_true rfl) (ws' := fun u => loftW cI cS a m v w (seS T C li ap va le) (tpS B L P F) sh kf) (fun u => rfl) (fun u hu => ?_)
    obtain ⟨r_5, rfl⟩ : ∃ z, z = u := ⟨_, rfl⟩
    have h6 : r_5 = if (-2) ≤ i ∧ i ≤ 3 then 1 else 0 := hu
    by_cases c7 : (-2) ≤ i ∧ i ≤ 3
    · rw [if_pos c7] at h6
      subst h6
      show Go E Q 3 0 0 16 [(0, .ref (a 0)), (1, .int k), (2, .int i)] [.int 1] (loftW cI cS a m v w (seS T C li ap va le) (tpS B L P F) sh kf)
      refine g_if_ne hE 21 dX4_best_16 (by decide) (fun c8 => ?_) (fun c8 => absurd c8 (by decide))
      have hk04 := c3
      obtain ⟨kn, hkn4, rfl, hknc⟩ := nat_of_le (b := 4) c3 rfl (by decide)
      refine g_aload_n hE dX4_best_21 0 rfl ?_
      refine g_iload_n hE dX4_best_22 1 rfl ?_
      refine g_callV hE (c_X4_seekBest cI cS a m v w T C li ap va le B L P F sh kf (by first | assumption | exact mw_of (by assumption)) (by first | assumption | exact mw_of (by assumption)) (by first | assumption | exact mw_of (by assumption)) hL (nI kn)) mk_X4_seekBest mv_X4_seekBest ml_X4_194 dX4_best_23 (As := [.int (nI kn)]) (rest := []) rfl rfl 0 rfl (show vwCl[4]? = some (RX4, TX4, 7) from rfl) (by decide) (by decide) (Nat.le_of_ble_eq_true rfl) (by decide) (by decide) [0, 1, 2, 3, 4, 5, 6, 7, 8, 9, 10, 11, 12, 13, 14, 15, 16, 17, 18, 19, 20, 21, 22, 23, 24, 25, 26, 27, 28, 29, 30, 31, 32, 33, 34, 35, 36, 37, 38, 39, 40, 41, 42, 43, 44] rfl (by decide) (fun u => Nat.le_of_ble_eq_true rfl) (ws' := fun u => loftW cI cS a m v w (seS (tbS m n sv (nI kn) 5 0 (ldS m n) 0 (T, C, 0, -1)).1 (tbS m n sv (nI kn) 5 0 (ldS m n) 0 (T, C, 0, -1)).2.1 (nI kn) 0 (tbS m n sv (nI kn) 5 0 (ldS m n) 0 (T, C, 0, -1)).2.2.1 (tbS m n sv (nI kn) 5 0 (ldS m n) 0 (T, C, 0, -1)).2.2.2) (tpS B L P F) sh kf) (fun u => rfl) (fun u hu => ?_)
      show Go E Q 3 0 0 26 [(0, .ref (a 0)), (1, .int (nI kn)), (2, .int i)] [] (loftW cI cS a m v w (seS (tbS m n sv (nI kn) 5 0 (ldS m n) 0 (T, C, 0, -1)).1 (tbS m n sv (nI kn) 5 0 (ldS m n) 0 (T, C, 0, -1)).2.1 (nI kn) 0 (tbS m n sv (nI kn) 5 0 (ldS m n) 0 (T, C, 0, -1)).2.2.1 (tbS m n sv (nI kn) 5 0 (ldS m n) 0 (T, C, 0, -1)).2.2.2) (tpS B L P F) sh kf)
      obtain ⟨b, hb, hb1, hb2, hb3⟩ := best_of (m := m) (n := n) (sv := sv) (L := kn) hkn4 T C
      refine g_iload_n hE dX4_best_26 2 rfl ?_
      refine g_bipush hE dX4_best_27 (-2) (by decide) ?_
      refine g_icmp_ne hE 42 dX4_best_29 (by decide) (fun c10 => ?_) (fun c10 => ?_)
      · refine g_iload_n hE dX4_best_42 2 rfl ?_
        refine g_iconst hE dX4_best_43 (-1) (by decide) ?_
        refine g_icmp_ne hE 57 dX4_best_44 (by decide) (fun c11 => ?_) (fun c11 => ?_)
        · refine g_aload_n hE dX4_best_57 0 rfl ?_
          refine g_get hE fl_X4_29 dX4_best_58 0 rfl rfl ?_
          refine g_iload_n hE dX4_best_61 2 rfl ?_
          refine g_callV hE (c_X1_chosenAt cI cS (fun i => a (i + 31)) (tbS m n sv (nI kn) 5 0 (ldS m n) 0 (T, C, 0, -1)).1 (tbS m n sv (nI kn) 5 0 (ldS m n) 0 (T, C, 0, -1)).2.1 (nI kn) 0 (tbS m n sv (nI kn) 5 0 (ldS m n) 0 (T, C, 0, -1)).2.2.1 (tbS m n sv (nI kn) 5 0 (ldS m n) 0 (T, C, 0, -1)).2.2.2 i) mk_X1_chosenAt mv_X1_chosenAt ml_X4_201 dX4_best_62 (As := [.int i]) (rest := []) rfl rfl 31 rfl (show vwCl[1]? = some (RX1, TX1, 6) from rfl) (by decide) (by decide) (Nat.le_of_ble_eq_true rfl) (by decide) (by decide) [31, 32, 33] rfl (by decide) (fun u => Nat.le_of_ble_eq_true rfl) (ws' := fun u => loftW cI cS a m v w (seS (tbS m n sv (nI kn) 5 0 (ldS m n) 0 (T, C, 0, -1)).1 (tbS m n sv (nI kn) 5 0 (ldS m n) 0 (T, C, 0, -1)).2.1 (nI kn) 0 (tbS m n sv (nI kn) 5 0 (ldS m n) 0 (T, C, 0, -1)).2.2.1 (tbS m n sv (nI kn) 5 0 (ldS m n) 0 (T, C, 0, -1)).2.2.2) (tpS B L P F) sh kf) (fun u => rfl) (fun u hu => ?_)
          obtain ⟨r_12, rfl⟩ : ∃ z, z = u := ⟨_, rfl⟩
          have h13 : r_12 = (if i < (tbS m n sv (nI kn) 5 0 (ldS m n) 0 (T, C, 0, -1)).2.2.2 then atv (tbS m n sv (nI kn) 5 0 (ldS m n) 0 (T, C, 0, -1)).2.1 4 i else -4) := hu
          subst h13
          show Go E Q 3 0 0 65 [(0, .ref (a 0)), (1, .int (nI kn)), (2, .int i)] [.int (if i < (tbS m n sv (nI kn) 5 0 (ldS m n) 0 (T, C, 0, -1)).2.2.2 then atv (tbS m n sv (nI kn) 5 0 (ldS m n) 0 (T, C, 0, -1)).2.1 4 i else -4)] (loftW cI cS a m v w (seS (tbS m n sv (nI kn) 5 0 (ldS m n) 0 (T, C, 0, -1)).1 (tbS m n sv (nI kn) 5 0 (ldS m n) 0 (T, C, 0, -1)).2.1 (nI kn) 0 (tbS m n sv (nI kn) 5 0 (ldS m n) 0 (T, C, 0, -1)).2.2.1 (tbS m n sv (nI kn) 5 0 (ldS m n) 0 (T, C, 0, -1)).2.2.2) (tpS B L P F) sh kf)
          exact g_iret hE hQ dX4_best_65 rfl ((if i < (tbS m n sv (nI kn) 5 0 (ldS m n) 0 (T, C, 0, -1)).2.2.2 then atv (tbS m n sv (nI kn) 5 0 (ldS m n) 0 (T, C, 0, -1)).2.1 4 i else -4), (tbS m n sv (nI kn) 5 0 (ldS m n) 0 (T, C, 0, -1)).1, (tbS m n sv (nI kn) 5 0 (ldS m n) 0 (T, C, 0, -1)).2.1, (nI kn), 0, (tbS m n sv (nI kn) 5 0 (ldS m n) 0 (T, C, 0, -1)).2.2.1, (tbS m n sv (nI kn) 5 0 (ldS m n) 0 (T, C, 0, -1)).2.2.2) rfl rfl (Or.inr (Or.inr ⟨hk04, c7, b, (by rw [← hknc]; exact hb), (by rw [bestR, if_neg (show ¬ i = (-2) from c10), if_neg (show ¬ i = (-1) from c11)]; exact chosen_at (c7).1 (show ¬ i = (-2) from c10) (show ¬ i = (-1) from c11) hb2 hb3 (by have := hb.1; omega))⟩))
        · refine g_aload_n hE dX4_best_47 0 rfl ?_
          refine g_get hE fl_X4_29 dX4_best_48 0 rfl rfl ?_
          refine g_get hE fl_X4_200 dX4_best_51 31 rfl rfl ?_
          refine g_goto hE 65 dX4_best_54 (by decide) ?_
          exact g_iret hE hQ dX4_best_65 rfl ((tbS m n sv (nI kn) 5 0 (ldS m n) 0 (T, C, 0, -1)).2.2.2, (tbS m n sv (nI kn) 5 0 (ldS m n) 0 (T, C, 0, -1)).1, (tbS m n sv (nI kn) 5 0 (ldS m n) 0 (T, C, 0, -1)).2.1, (nI kn), 0, (tbS m n sv (nI kn) 5 0 (ldS m n) 0 (T, C, 0, -1)).2.2.1, (tbS m n sv (nI kn) 5 0 (ldS m n) 0 (T, C, 0, -1)).2.2.2) rfl rfl (Or.inr (Or.inr ⟨hk04, c7, b, (by rw [← hknc]; exact hb), (by rw [bestR, if_neg (show ¬ i = (-2) from c10), if_pos (show i = (-1) from c11)]; exact hb2)⟩))
      · refine g_aload_n hE dX4_best_32 0 rfl ?_
        refine g_get hE fl_X4_29 dX4_best_33 0 rfl rfl ?_
        refine g_get hE fl_X4_197 dX4_best_36 31 rfl rfl ?_
        refine g_goto hE 65 dX4_best_39 (by decide) ?_
        exact g_iret hE hQ dX4_best_65 rfl ((tbS m n sv (nI kn) 5 0 (ldS m n) 0 (T, C, 0, -1)).2.2.1, (tbS m n sv (nI kn) 5 0 (ldS m n) 0 (T, C, 0, -1)).1, (tbS m n sv (nI kn) 5 0 (ldS m n) 0 (T, C, 0, -1)).2.1, (nI kn), 0, (tbS m n sv (nI kn) 5 0 (ldS m n) 0 (T, C, 0, -1)).2.2.1, (tbS m n sv (nI kn) 5 0 (ldS m n) 0 (T, C, 0, -1)).2.2.2) rfl rfl (Or.inr (Or.inr ⟨hk04, c7, b, (by rw [← hknc]; exact hb), (by rw [bestR, if_pos (show i = (-2) from c10)]; exact hb1)⟩))
    · rw [if_neg c7] at h6
      subst h6
      show Go E Q 3 0 0 16 [(0, .ref (a 0)), (1, .int k), (2, .int i)] [.int 0] (loftW cI cS a m v w (seS T C li ap va le) (tpS B L P F) sh kf)
      refine g_if_ne hE 21 dX4_best_16 (by decide) (fun c14 => absurd (by decide) c14) (fun c14 => ?_)
      refine g_iconst hE dX4_best_19 (-1) (by decide) ?_
      exact g_iret hE hQ dX4_best_20 rfl ((-1), T, C, li, ap, va, le) rfl rfl (Or.inr (Or.inl ⟨c7, rfl⟩))
  · rw [if_neg c3] at h2
    subst h2
    show Go E Q 3 0 0 6 [(0, .ref (a 0)), (1, .int k), (2, .int i)] [.int 0] (loftW cI cS a m v w (seS T C li ap va le) (tpS B L P F) sh kf)
    refine g_if_eq hE 19 dX4_best_6 (by decide) (fun c15 => ?_) (fun c15 => absurd (by decide) c15)
    refine g_iconst hE dX4_best_19 (-1) (by decide) ?_
    exact g_iret hE hQ dX4_best_20 rfl ((-1), T, C, li, ap, va, le) rfl rfl (Or.inl ⟨c3, rfl⟩)
set_option maxHeartbeats 4000000 in
set_option maxRecDepth 100000 in
theorem c_X4_parted (cI cS : ClassId) (a : Nat → Nat) (m v w : Nat → Nat → Int32) (T C : Nat → Int32) (li ap va le : Int32) (B : Nat → Int32) (L P : Nat) (F : Int32) (sh : Nat → Nat → Nat → Int32) (kf : Int32) {n sv pl n1 sv1 pl1 n2 sv2 pl2 : Nat} (hM : MW m n sv pl) (hV : MW v n1 sv1 pl1) (hW : MW w n2 sv2 pl2) (hL : L ≤ 120) (x i : Int32) : CT cI cS yX4_parted cX4_parted 3 (some .int) 10 [.ref (a 0), .int x, .int i] (loftW cI cS a m v w (seS T C li ap va le) (tpS B L P F) sh kf) 0 0 (fun u : Int32 × (Nat → Int32) × (Nat → Int32) × Int32 × Int32 × Int32 × Int32 => fPart m n sv x i u.1) (fun u => some (.int u.1)) (fun u => (loftW cI cS a m v w (seS u.2.1 u.2.2.1 u.2.2.2.1 u.2.2.2.2.1 u.2.2.2.2.2.1 u.2.2.2.2.2.2) (tpS B L P F) sh kf)) := by
  refine ct_intro (by decide) (Nat.le_of_ble_eq_true rfl) (fun E Q hE hQ hI => ?_)
  have hE : CxOk E cI cS RX4 cX4_parted 3 (some .int) 10 0 0 := hE
  show Go E Q 3 0 0 0 [(0, .ref (a 0)), (1, .int x), (2, .int i)] [] (loftW cI cS a m v w (seS T C li ap va le) (tpS B L P F) sh kf)
  have hn := hM.1
  have hn6 := hM.2.1
  have hsv := hM.2.2.1
  have hsv8 := hM.2.2.2.1
  have hpl := hM.2.2.2.2.1
  have hpl6 := hM.2.2.2.2.2
  have hn1 := hV.1
  have hn16 := hV.2.1
  have hsv1 := hV.2.2.1
  have hsv18 := hV.2.2.2.1
  have hpl1 := hV.2.2.2.2.1
  have hpl16 := hV.2.2.2.2.2
  refine g_iload_n hE dX4_parted_0 1 rfl ?_
  refine g_iconst hE dX4_parted_1 0 (by decide) ?_
  refine g_iconst hE dX4_parted_2 1 (by decide) ?_
  refine g_aload_n hE dX4_parted_3 0 rfl ?_
  refine g_get hE fl_X4_10 dX4_parted_4 0 rfl rfl ?_
  refine g_get hE fl_X4_51 dX4_parted_7 1 rfl rfl ?_
  refine g_ishl hE dX4_parted_10 ?_
  refine g_iconst hE dX4_parted_11 1 (by decide) ?_
  refine g_isub hE dX4_parted_12 ?_
  refine g_callS hE (c_X4_within cI cS x 0 ((1 <<< ((m 9 0) &&& 31)) - 1)) mk_X4_within st_X4_within ml_X4_47 dX4_parted_13 (As := [.int x, .int 0, .int ((1 <<< ((m 9 0) &&& 31)) - 1)]) (rest := []) rfl rfl (by decide) (by decide) (Nat.le_of_ble_eq_true rfl) (by decide) (by decide) [] rfl (by decide) (fun u => Nat.le_of_ble_eq_true rfl) (ws' := fun u => loftW cI cS a m v w (seS T C li ap va le) (tpS B L P F) sh kf) (fun u => rfl) (fun u hu => ?_)
  obtain ⟨r_1, rfl⟩ : ∃ z, z = u := ⟨_, rfl⟩
  have h2 : r_1 = if 0 ≤ x ∧ x ≤ ((1 <<< ((m 9 0) &&& 31)) - 1) then 1 else 0 := hu
  by_cases c3 : 0 ≤ x ∧ x ≤ ((1 <<< ((m 9 0) &&& 31)) - 1)
  · rw [if_pos c3] at h2
    subst h2
    show Go E Q 3 0 0 16 [(0, .ref (a 0)), (1, .int x), (2, .int i)] [.int 1] (loftW cI cS a m v w (seS T C li ap va le) (tpS B L P F) sh kf)
    refine g_if_eq hE 28 dX4_parted_16 (by decide) (fun c4 => absurd c4 (by decide)) (fun c4 => ?_)
    refine g_iload_n hE dX4_parted_19 2 rfl ?_
    refine g_iconst hE dX4_parted_20 (-1) (by decide) ?_
    refine g_iconst hE dX4_parted_21 3 (by decide) ?_
    refine g_callS hE (c_X4_within cI cS i (-1) 3) mk_X4_within st_X4_within ml_X4_47 dX4_parted_22 (As := [.int i, .int (-1), .int 3]) (rest := []) rfl rfl (by decide) (by decide) (Nat.le_of_ble_eq_true rfl) (by decide) (by decide) [] rfl (by decide) (fun u => Nat.le_of_ble_eq_true rfl) (ws' := fun u => loftW cI cS a m v w (seS T C li ap va le) (tpS B L P F) sh kf) (fun u => rfl) (fun u hu => ?_)
    obtain ⟨r_5, rfl⟩ : ∃ z, z = u := ⟨_, rfl⟩
    have h6 : r_5 = if (-1) ≤ i ∧ i ≤ 3 then 1 else 0 := hu
    by_cases c7 : (-1) ≤ i ∧ i ≤ 3
    · rw [if_pos c7] at h6
      subst h6
      show Go E Q 3 0 0 25 [(0, .ref (a 0)), (1, .int x), (2, .int i)] [.int 1] (loftW cI cS a m v w (seS T C li ap va le) (tpS B L P F) sh kf)
      refine g_if_ne hE 30 dX4_parted_25 (by decide) (fun c8 => ?_) (fun c8 => absurd c8 (by decide))
      obtain ⟨xn, hx64, hxn, hxnc⟩ := part_set hn hn6 c3
      refine g_aload_n hE dX4_parted_30 0 rfl ?_
      refine g_get hE fl_X4_29 dX4_parted_31 0 rfl rfl ?_
      refine g_iconst hE dX4_parted_34 4 (by decide) ?_
      refine g_iload_n hE dX4_parted_35 1 rfl ?_
      refine g_callV hE (c_X1_begin cI cS (fun i => a (i + 31)) T C li ap va le 4 x) mk_X1_begin mv_X1_begin ml_X4_204 dX4_parted_36 (As := [.int 4, .int x]) (rest := []) rfl rfl 31 rfl (show vwCl[1]? = some (RX1, TX1, 6) from rfl) (by decide) (by decide) (Nat.le_of_ble_eq_true rfl) (by decide) (by decide) [31, 32, 33] rfl (by decide) (fun u => Nat.le_of_ble_eq_true rfl) (ws' := fun u => loftW cI cS a m v w (seS T C 4 x 0 (-1)) (tpS B L P F) sh kf) (fun u => rfl) (fun u hu => ?_)
      show Go E Q 3 0 0 39 [(0, .ref (a 0)), (1, .int x), (2, .int i)] [] (loftW cI cS a m v w (seS T C 4 x 0 (-1)) (tpS B L P F) sh kf)
      refine g_aload_n hE dX4_parted_39 0 rfl ?_
      refine g_get hE fl_X4_10 dX4_parted_40 0 rfl rfl ?_
      refine g_aload_n hE dX4_parted_43 0 rfl ?_
      refine g_get hE fl_X4_29 dX4_parted_44 0 rfl rfl ?_
      refine g_iconst hE dX4_parted_47 0 (by decide) ?_
      refine g_aload_n hE dX4_parted_48 0 rfl ?_
      refine g_get hE fl_X4_10 dX4_parted_49 0 rfl rfl ?_
      refine g_callV hE (c_X0_load cI cS (fun i => a (i + 1)) m (by first | assumption | exact mw_of (by assumption))) mk_X0_load mv_X0_load ml_X4_148 dX4_parted_52 (As := []) (rest := [.int 0, .ref (a 31), .ref (a 1)]) rfl rfl 1 rfl (show vwCl[0]? = some (RX0, TX0, 13) from rfl) (by decide) (by decide) (Nat.le_of_ble_eq_true rfl) (by decide) (by decide) [1, 2, 3, 4, 5, 6, 7, 8, 9, 10] rfl (by decide) (fun u => Nat.le_of_ble_eq_true rfl) (ws' := fun u => loftW cI cS a m v w (seS T C 4 x 0 (-1)) (tpS B L P F) sh kf) (fun u => rfl) (fun u hu => ?_)
      obtain ⟨r_10, rfl⟩ : ∃ z, z = u := ⟨_, rfl⟩
      have h11 : r_10 = (nI (ldS m n)) := hu
      subst h11
      show Go E Q 3 0 0 55 [(0, .ref (a 0)), (1, .int x), (2, .int i)] [.int (nI (ldS m n)), .int 0, .ref (a 31), .ref (a 1)] (loftW cI cS a m v w (seS T C 4 x 0 (-1)) (tpS B L P F) sh kf)
      refine g_callS hE (c_X4_tryParted 5 cI cS (fun i => a (i + 1)) (fun i => a (i + 31)) m (by first | assumption | exact mw_of (by assumption)) T C 4 x 0 (-1) xn hxn hx64 0 0 (show 0 = nI 0 from rfl) (by omega) (by omega) (nI (ldS m n)) (ldS m n) (show (nI (ldS m n)) = nI (ldS m n) from rfl) (by first | assumption | exact bs_lt64 _ (by assumption) | exact fallS_lt (by assumption) (by assumption) | exact nd_lt (by assumption) (by assumption) | exact nd_lt (by assumption) (fallS_lt (by assumption) (by assumption)) | exact nd_lt (by assumption) (bs_lt64 _ (by assumption)) | exact and_lt (by assumption) (by assumption) | exact hpS_lt (by assumption) | decide)) mk_X4_tryParted st_X4_tryParted ml_X4_208 dX4_parted_55 (As := [.ref (a 1), .ref (a 31), .int 0, .int (nI (ldS m n))]) (rest := []) rfl rfl (by decide) (by decide) (Nat.le_of_ble_eq_true rfl) (by decide) (by decide) [1, 2, 3, 4, 5, 6, 7, 8, 9, 10, 31, 32, 33] rfl (by decide) (fun u => Nat.le_of_ble_eq_true rfl) (ws' := fun u => loftW cI cS a m v w (seS (tpR m n sv 4 xn 5 0 (ldS m n) (T, C, 0, (-1))).1 (tpR m n sv 4 xn 5 0 (ldS m n) (T, C, 0, (-1))).2.1 4 x (tpR m n sv 4 xn 5 0 (ldS m n) (T, C, 0, (-1))).2.2.1 (tpR m n sv 4 xn 5 0 (ldS m n) (T, C, 0, (-1))).2.2.2) (tpS B L P F) sh kf) (fun u => rfl) (fun u hu => ?_)
      show Go E Q 3 0 0 58 [(0, .ref (a 0)), (1, .int x), (2, .int i)] [] (loftW cI cS a m v w (seS (tpR m n sv 4 xn 5 0 (ldS m n) (T, C, 0, (-1))).1 (tpR m n sv 4 xn 5 0 (ldS m n) (T, C, 0, (-1))).2.1 4 x (tpR m n sv 4 xn 5 0 (ldS m n) (T, C, 0, (-1))).2.2.1 (tpR m n sv 4 xn 5 0 (ldS m n) (T, C, 0, (-1))).2.2.2) (tpS B L P F) sh kf)
      have hpo := part_of (m := m) (n := n) (sv := sv) (aps := xn) T C
      refine g_aload_n hE dX4_parted_58 0 rfl ?_
      refine g_get hE fl_X4_29 dX4_parted_59 0 rfl rfl ?_
      refine g_get hE fl_X4_200 dX4_parted_62 31 rfl rfl ?_
      refine g_if_ge hE 71 dX4_parted_65 (by decide) (fun c13 => ?_) (fun c13 => ?_)
      · refine g_iload_n hE dX4_parted_71 2 rfl ?_
        refine g_iconst hE dX4_parted_72 (-1) (by decide) ?_
        refine g_icmp_ne hE 86 dX4_parted_73 (by decide) (fun c14 => ?_) (fun c14 => ?_)
        · refine g_aload_n hE dX4_parted_86 0 rfl ?_
          refine g_get hE fl_X4_29 dX4_parted_87 0 rfl rfl ?_
          refine g_iload_n hE dX4_parted_90 2 rfl ?_
          refine g_callV hE (c_X1_chosenAt cI cS (fun i => a (i + 31)) (tpR m n sv 4 xn 5 0 (ldS m n) (T, C, 0, (-1))).1 (tpR m n sv 4 xn 5 0 (ldS m n) (T, C, 0, (-1))).2.1 4 x (tpR m n sv 4 xn 5 0 (ldS m n) (T, C, 0, (-1))).2.2.1 (tpR m n sv 4 xn 5 0 (ldS m n) (T, C, 0, (-1))).2.2.2 i) mk_X1_chosenAt mv_X1_chosenAt ml_X4_201 dX4_parted_91 (As := [.int i]) (rest := []) rfl rfl 31 rfl (show vwCl[1]? = some (RX1, TX1, 6) from rfl) (by decide) (by decide) (Nat.le_of_ble_eq_true rfl) (by decide) (by decide) [31, 32, 33] rfl (by decide) (fun u => Nat.le_of_ble_eq_true rfl) (ws' := fun u => loftW cI cS a m v w (seS (tpR m n sv 4 xn 5 0 (ldS m n) (T, C, 0, (-1))).1 (tpR m n sv 4 xn 5 0 (ldS m n) (T, C, 0, (-1))).2.1 4 x (tpR m n sv 4 xn 5 0 (ldS m n) (T, C, 0, (-1))).2.2.1 (tpR m n sv 4 xn 5 0 (ldS m n) (T, C, 0, (-1))).2.2.2) (tpS B L P F) sh kf) (fun u => rfl) (fun u hu => ?_)
          obtain ⟨r_15, rfl⟩ : ∃ z, z = u := ⟨_, rfl⟩
          have h16 : r_15 = (if i < (tpR m n sv 4 xn 5 0 (ldS m n) (T, C, 0, (-1))).2.2.2 then atv (tpR m n sv 4 xn 5 0 (ldS m n) (T, C, 0, (-1))).2.1 4 i else -4) := hu
          subst h16
          show Go E Q 3 0 0 94 [(0, .ref (a 0)), (1, .int x), (2, .int i)] [.int (if i < (tpR m n sv 4 xn 5 0 (ldS m n) (T, C, 0, (-1))).2.2.2 then atv (tpR m n sv 4 xn 5 0 (ldS m n) (T, C, 0, (-1))).2.1 4 i else -4)] (loftW cI cS a m v w (seS (tpR m n sv 4 xn 5 0 (ldS m n) (T, C, 0, (-1))).1 (tpR m n sv 4 xn 5 0 (ldS m n) (T, C, 0, (-1))).2.1 4 x (tpR m n sv 4 xn 5 0 (ldS m n) (T, C, 0, (-1))).2.2.1 (tpR m n sv 4 xn 5 0 (ldS m n) (T, C, 0, (-1))).2.2.2) (tpS B L P F) sh kf)
          exact g_iret hE hQ dX4_parted_94 rfl ((if i < (tpR m n sv 4 xn 5 0 (ldS m n) (T, C, 0, (-1))).2.2.2 then atv (tpR m n sv 4 xn 5 0 (ldS m n) (T, C, 0, (-1))).2.1 4 i else -4), (tpR m n sv 4 xn 5 0 (ldS m n) (T, C, 0, (-1))).1, (tpR m n sv 4 xn 5 0 (ldS m n) (T, C, 0, (-1))).2.1, 4, x, (tpR m n sv 4 xn 5 0 (ldS m n) (T, C, 0, (-1))).2.2.1, (tpR m n sv 4 xn 5 0 (ldS m n) (T, C, 0, (-1))).2.2.2) rfl rfl (by obtain ⟨b, hb, hb2, hb3⟩ := hpo.resolve_left (fun q => (show ¬ (tpR m n sv 4 xn 5 0 (ldS m n) (T, C, 0, (-1))).2.2.2 < 0 from (Int32.not_lt.mpr c13)) q.1); exact Or.inr (Or.inr (Or.inr ⟨c3, c7, b, by rw [← hxnc]; exact hb, (by rw [partR, if_neg (show ¬ i = (-1) from c14)]; exact chosen_at2 (c7).1 (show ¬ i = (-1) from c14) hb2 hb3 (by have := hb.1; omega))⟩)))
        · refine g_aload_n hE dX4_parted_76 0 rfl ?_
          refine g_get hE fl_X4_29 dX4_parted_77 0 rfl rfl ?_
          refine g_get hE fl_X4_200 dX4_parted_80 31 rfl rfl ?_
          refine g_goto hE 94 dX4_parted_83 (by decide) ?_
          exact g_iret hE hQ dX4_parted_94 rfl ((tpR m n sv 4 xn 5 0 (ldS m n) (T, C, 0, (-1))).2.2.2, (tpR m n sv 4 xn 5 0 (ldS m n) (T, C, 0, (-1))).1, (tpR m n sv 4 xn 5 0 (ldS m n) (T, C, 0, (-1))).2.1, 4, x, (tpR m n sv 4 xn 5 0 (ldS m n) (T, C, 0, (-1))).2.2.1, (tpR m n sv 4 xn 5 0 (ldS m n) (T, C, 0, (-1))).2.2.2) rfl rfl (by obtain ⟨b, hb, hb2, hb3⟩ := hpo.resolve_left (fun q => (show ¬ (tpR m n sv 4 xn 5 0 (ldS m n) (T, C, 0, (-1))).2.2.2 < 0 from (Int32.not_lt.mpr c13)) q.1); exact Or.inr (Or.inr (Or.inr ⟨c3, c7, b, by rw [← hxnc]; exact hb, (by rw [partR, if_pos (show i = (-1) from c14)]; exact hb2)⟩)))
      · refine g_bipush hE dX4_parted_68 (-4) (by decide) ?_
        exact g_iret hE hQ dX4_parted_70 rfl ((-4), (tpR m n sv 4 xn 5 0 (ldS m n) (T, C, 0, (-1))).1, (tpR m n sv 4 xn 5 0 (ldS m n) (T, C, 0, (-1))).2.1, 4, x, (tpR m n sv 4 xn 5 0 (ldS m n) (T, C, 0, (-1))).2.2.1, (tpR m n sv 4 xn 5 0 (ldS m n) (T, C, 0, (-1))).2.2.2) rfl rfl (Or.inr (Or.inr (Or.inl ⟨c3, c7, by rw [← hxnc]; exact hpo.elim And.right (fun q => q.elim (fun b q => absurd (show (tpR m n sv 4 xn 5 0 (ldS m n) (T, C, 0, (-1))).2.2.2 < 0 from (Int32.not_le.mp c13)) (part_pos q))), rfl⟩)))
    · rw [if_neg c7] at h6
      subst h6
      show Go E Q 3 0 0 25 [(0, .ref (a 0)), (1, .int x), (2, .int i)] [.int 0] (loftW cI cS a m v w (seS T C li ap va le) (tpS B L P F) sh kf)
      refine g_if_ne hE 30 dX4_parted_25 (by decide) (fun c17 => absurd (by decide) c17) (fun c17 => ?_)
      refine g_iconst hE dX4_parted_28 (-1) (by decide) ?_
      exact g_iret hE hQ dX4_parted_29 rfl ((-1), T, C, li, ap, va, le) rfl rfl (Or.inr (Or.inl ⟨c7, rfl⟩))
  · rw [if_neg c3] at h2
    subst h2
    show Go E Q 3 0 0 16 [(0, .ref (a 0)), (1, .int x), (2, .int i)] [.int 0] (loftW cI cS a m v w (seS T C li ap va le) (tpS B L P F) sh kf)
    refine g_if_eq hE 28 dX4_parted_16 (by decide) (fun c18 => ?_) (fun c18 => absurd (by decide) c18)
    refine g_iconst hE dX4_parted_28 (-1) (by decide) ?_
    exact g_iret hE hQ dX4_parted_29 rfl ((-1), T, C, li, ap, va, le) rfl rfl (Or.inl ⟨c3, rfl⟩)
set_option maxHeartbeats 4000000 in
set_option maxRecDepth 100000 in
theorem c_X4_season (cI cS : ClassId) (a : Nat → Nat) (m v w : Nat → Nat → Int32) (T C : Nat → Int32) (li ap va le : Int32) (B : Nat → Int32) (L P : Nat) (F : Int32) (sh : Nat → Nat → Nat → Int32) (kf : Int32) {n sv pl n1 sv1 pl1 n2 sv2 pl2 : Nat} (hM : MW m n sv pl) (hV : MW v n1 sv1 pl1) (hW : MW w n2 sv2 pl2) (hL : L ≤ 120) (x k : Int32) : CT cI cS yX4_season cX4_season 5 (some .int) 11 [.ref (a 0), .int x, .int k] (loftW cI cS a m v w (seS T C li ap va le) (tpS B L P F) sh kf) 0 0 (fun u : Int32 × (Nat → Nat → Int32) × (Nat → Int32) × (Nat → Int32) × Int32 × Int32 × Int32 × Int32 => fSea m n sv x k u.1 u.2.1) (fun u => some (.int u.1)) (fun u => (loftW cI cS a u.2.1 v w (seS u.2.2.1 u.2.2.2.1 u.2.2.2.2.1 u.2.2.2.2.2.1 u.2.2.2.2.2.2.1 u.2.2.2.2.2.2.2) (tpS B L P F) sh kf)) := by
  refine ct_intro (by decide) (Nat.le_of_ble_eq_true rfl) (fun E Q hE hQ hI => ?_)
  have hE : CxOk E cI cS RX4 cX4_season 5 (some .int) 11 0 0 := hE
  show Go E Q 5 0 0 0 [(0, .ref (a 0)), (1, .int x), (2, .int k)] [] (loftW cI cS a m v w (seS T C li ap va le) (tpS B L P F) sh kf)
  have hn := hM.1
  have hn6 := hM.2.1
  have hsv := hM.2.2.1
  have hsv8 := hM.2.2.2.1
  have hpl := hM.2.2.2.2.1
  have hpl6 := hM.2.2.2.2.2
  have hn1 := hV.1
  have hn16 := hV.2.1
  have hsv1 := hV.2.2.1
  have hsv18 := hV.2.2.2.1
  have hpl1 := hV.2.2.2.2.1
  have hpl16 := hV.2.2.2.2.2
  refine g_iload_n hE dX4_season_0 1 rfl ?_
  refine g_iconst hE dX4_season_1 1 (by decide) ?_
  refine g_bipush hE dX4_season_2 20 (by decide) ?_
  refine g_callS hE (c_X4_within cI cS x 1 20) mk_X4_within st_X4_within ml_X4_47 dX4_season_4 (As := [.int x, .int 1, .int 20]) (rest := []) rfl rfl (by decide) (by decide) (Nat.le_of_ble_eq_true rfl) (by decide) (by decide) [] rfl (by decide) (fun u => Nat.le_of_ble_eq_true rfl) (ws' := fun u => loftW cI cS a m v w (seS T C li ap va le) (tpS B L P F) sh kf) (fun u => rfl) (fun u hu => ?_)
  obtain ⟨r_1, rfl⟩ : ∃ z, z = u := ⟨_, rfl⟩
  have h2 : r_1 = if 1 ≤ x ∧ x ≤ 20 then 1 else 0 := hu
  by_cases c3 : 1 ≤ x ∧ x ≤ 20
  · rw [if_pos c3] at h2
    subst h2
    show Go E Q 5 0 0 7 [(0, .ref (a 0)), (1, .int x), (2, .int k)] [.int 1] (loftW cI cS a m v w (seS T C li ap va le) (tpS B L P F) sh kf)
    refine g_if_eq hE 19 dX4_season_7 (by decide) (fun c4 => absurd c4 (by decide)) (fun c4 => ?_)
    refine g_iload_n hE dX4_season_10 2 rfl ?_
    refine g_iconst hE dX4_season_11 0 (by decide) ?_
    refine g_iconst hE dX4_season_12 3 (by decide) ?_
    refine g_callS hE (c_X4_within cI cS k 0 3) mk_X4_within st_X4_within ml_X4_47 dX4_season_13 (As := [.int k, .int 0, .int 3]) (rest := []) rfl rfl (by decide) (by decide) (Nat.le_of_ble_eq_true rfl) (by decide) (by decide) [] rfl (by decide) (fun u => Nat.le_of_ble_eq_true rfl) (ws' := fun u => loftW cI cS a m v w (seS T C li ap va le) (tpS B L P F) sh kf) (fun u => rfl) (fun u hu => ?_)
    obtain ⟨r_5, rfl⟩ : ∃ z, z = u := ⟨_, rfl⟩
    have h6 : r_5 = if 0 ≤ k ∧ k ≤ 3 then 1 else 0 := hu
    by_cases c7 : 0 ≤ k ∧ k ≤ 3
    · rw [if_pos c7] at h6
      subst h6
      show Go E Q 5 0 0 16 [(0, .ref (a 0)), (1, .int x), (2, .int k)] [.int 1] (loftW cI cS a m v w (seS T C li ap va le) (tpS B L P F) sh kf)
      refine g_if_ne hE 21 dX4_season_16 (by decide) (fun c8 => ?_) (fun c8 => absurd c8 (by decide))
      have hk03 := c7
      have hx20 := c3
      obtain ⟨xn, hx1, hxn, hxnc⟩ := nat_of_le (b := 20) (x := x) ⟨Int32.le_trans (by decide) hx20.1, hx20.2⟩ rfl (by decide)
      obtain ⟨kn, hkn4, rfl, hknc⟩ := nat_of_le (b := 3) c7 rfl (by decide)
      refine g_iconst hE dX4_season_21 0 (by decide) ?_
      refine g_istore_n hE dX4_season_22 [(3, .int 0), (0, .ref (a 0)), (1, .int x), (2, .int (nI kn))] rfl (by decide) rfl ?_
      refine g_iconst hE dX4_season_23 0 (by decide) ?_
      refine g_istore hE dX4_season_24 [(4, .int 0), (3, .int 0), (0, .ref (a 0)), (1, .int x), (2, .int (nI kn))] (by decide) rfl ?_
      have L26 : ∀ (n_26 : Nat) (d : Nat) (acc : Int32) (m2 : Nat → Nat → Int32) (T2 : Nat → Int32) (C2 : Nat → Int32) (l2 : Int32) (a2 : Int32) (v2 : Int32) (e2 : Int32), (d ≤ xn) → (MW m2 n sv pl) → (seR m n sv kn d m2 acc) → (xn - d < n_26) → Go E Q 5 0 0 26 [(0, .ref (a 0)), (1, .int x), (2, .int (nI kn)), (3, .int acc), (4, .int (nI d))] [] (loftW cI cS a m2 v w (seS T2 C2 l2 a2 v2 e2) (tpS B L P F) sh kf) := by
        intro n_26
        induction n_26 with
        | zero => intro d acc m2 T2 C2 l2 a2 v2 e2 hd hM2 hse hm_26; exact absurd hm_26 (Nat.not_lt_zero _)
        | succ n_26 ih_26 =>
          intro d acc m2 T2 C2 l2 a2 v2 e2 hd hM2 hse hm_26
          refine g_iload hE dX4_season_26 4 rfl ?_
          refine g_iload_n hE dX4_season_28 1 rfl ?_
          refine g_icmp_ge hE 67 dX4_season_29 (by decide) (fun c9 => ?_) (fun c9 => ?_)
          · have kc9 := nat_le_t (show x = nI xn from hxn) (show (nI d) = nI d from rfl) (by omega) (by omega) c9
            refine g_iload_n hE dX4_season_67 3 rfl ?_
            exact g_iret hE hQ dX4_season_68 rfl (acc, m2, T2, C2, l2, a2, v2, e2) rfl rfl (Or.inr (Or.inr ⟨hx20, hk03, by rw [← hxnc, ← hknc, show xn = d by omega]; exact hse⟩))
          · have kc9 := nat_le_f (show x = nI xn from hxn) (show (nI d) = nI d from rfl) (by omega) (by omega) c9
            refine g_aload_n hE dX4_season_32 0 rfl ?_
            refine g_iload_n hE dX4_season_33 2 rfl ?_
            refine g_callV hE (c_X4_seekBest cI cS a m2 v w T2 C2 l2 a2 v2 e2 B L P F sh kf (by first | assumption | exact mw_of (by assumption)) (by first | assumption | exact mw_of (by assumption)) (by first | assumption | exact mw_of (by assumption)) hL (nI kn)) mk_X4_seekBest mv_X4_seekBest ml_X4_194 dX4_season_34 (As := [.int (nI kn)]) (rest := []) rfl rfl 0 rfl (show vwCl[4]? = some (RX4, TX4, 7) from rfl) (by decide) (by decide) (Nat.le_of_ble_eq_true rfl) (by decide) (by decide) [0, 1, 2, 3, 4, 5, 6, 7, 8, 9, 10, 11, 12, 13, 14, 15, 16, 17, 18, 19, 20, 21, 22, 23, 24, 25, 26, 27, 28, 29, 30, 31, 32, 33, 34, 35, 36, 37, 38, 39, 40, 41, 42, 43, 44] rfl (by decide) (fun u => Nat.le_of_ble_eq_true rfl) (ws' := fun u => loftW cI cS a m2 v w (seS (tbS m2 n sv (nI kn) 5 0 (ldS m2 n) 0 (T2, C2, 0, -1)).1 (tbS m2 n sv (nI kn) 5 0 (ldS m2 n) 0 (T2, C2, 0, -1)).2.1 (nI kn) 0 (tbS m2 n sv (nI kn) 5 0 (ldS m2 n) 0 (T2, C2, 0, -1)).2.2.1 (tbS m2 n sv (nI kn) 5 0 (ldS m2 n) 0 (T2, C2, 0, -1)).2.2.2) (tpS B L P F) sh kf) (fun u => rfl) (fun u hu => ?_)
            show Go E Q 5 0 0 37 [(0, .ref (a 0)), (1, .int x), (2, .int (nI kn)), (3, .int acc), (4, .int (nI d))] [] (loftW cI cS a m2 v w (seS (tbS m2 n sv (nI kn) 5 0 (ldS m2 n) 0 (T2, C2, 0, -1)).1 (tbS m2 n sv (nI kn) 5 0 (ldS m2 n) 0 (T2, C2, 0, -1)).2.1 (nI kn) 0 (tbS m2 n sv (nI kn) 5 0 (ldS m2 n) 0 (T2, C2, 0, -1)).2.2.1 (tbS m2 n sv (nI kn) 5 0 (ldS m2 n) 0 (T2, C2, 0, -1)).2.2.2) (tpS B L P F) sh kf)
            obtain ⟨b, hb, hb1, hb2, hb3⟩ := best_of (m := m2) (n := n) (sv := sv) (L := kn) (by omega) T2 C2
            have hbl : b.length ≤ 4 := by have := hb.1; omega
            refine g_iload_n hE dX4_season_37 3 rfl ?_
            refine g_aload_n hE dX4_season_38 0 rfl ?_
            refine g_get hE fl_X4_10 dX4_season_39 0 rfl rfl ?_
            refine g_aload_n hE dX4_season_42 0 rfl ?_
            refine g_get hE fl_X4_29 dX4_season_43 0 rfl rfl ?_
            refine g_get hE fl_X4_212 dX4_season_46 31 rfl rfl ?_
            refine g_aload_n hE dX4_season_49 0 rfl ?_
            refine g_get hE fl_X4_29 dX4_season_50 0 rfl rfl ?_
            refine g_get hE fl_X4_200 dX4_season_53 31 rfl rfl ?_
            refine g_callV hE (c_X0_shakeThrough_x cI cS (fun i => a (i + 1)) m2 (by first | assumption | exact mw_of (by assumption)) (a 33) ((tbS m2 n sv (nI kn) 5 0 (ldS m2 n) 0 (T2, C2, 0, -1)).2.1) ((tbS m2 n sv (nI kn) 5 0 (ldS m2 n) 0 (T2, C2, 0, -1)).2.2.2) (List.length b) (show (tbS m2 n sv (nI kn) 5 0 (ldS m2 n) 0 (T2, C2, 0, -1)).2.2.2 = nI (List.length b) from hb2) (by omega)) mk_X0_shakeThrough mv_X0_shakeThrough ml_X4_184 dX4_season_56 (As := [.ref (a 33), .int (tbS m2 n sv (nI kn) 5 0 (ldS m2 n) 0 (T2, C2, 0, -1)).2.2.2]) (rest := [.int acc]) rfl rfl 1 rfl (show vwCl[0]? = some (RX0, TX0, 13) from rfl) (by decide) (by decide) (Nat.le_of_ble_eq_true rfl) (by decide) (by decide) [1, 2, 3, 4, 5, 6, 7, 8, 9, 10, 33] rfl (by decide) (fun u => Nat.le_of_ble_eq_true rfl) (ws' := fun u => loftW cI cS a (shM m2 n ((tbS m2 n sv (nI kn) 5 0 (ldS m2 n) 0 (T2, C2, 0, -1)).2.1) (List.length b)) v w (seS (tbS m2 n sv (nI kn) 5 0 (ldS m2 n) 0 (T2, C2, 0, -1)).1 (tbS m2 n sv (nI kn) 5 0 (ldS m2 n) 0 (T2, C2, 0, -1)).2.1 (nI kn) 0 (tbS m2 n sv (nI kn) 5 0 (ldS m2 n) 0 (T2, C2, 0, -1)).2.2.1 (tbS m2 n sv (nI kn) 5 0 (ldS m2 n) 0 (T2, C2, 0, -1)).2.2.2) (tpS B L P F) sh kf) (fun u => rfl) (fun u hu => ?_)
            obtain ⟨r_11, rfl⟩ : ∃ z, z = u := ⟨_, rfl⟩
            have h12 : r_11 = (shV m2 n ((tbS m2 n sv (nI kn) 5 0 (ldS m2 n) 0 (T2, C2, 0, -1)).2.1) (List.length b)) := hu
            subst h12
            show Go E Q 5 0 0 59 [(0, .ref (a 0)), (1, .int x), (2, .int (nI kn)), (3, .int acc), (4, .int (nI d))] [.int (shV m2 n ((tbS m2 n sv (nI kn) 5 0 (ldS m2 n) 0 (T2, C2, 0, -1)).2.1) (List.length b)), .int acc] (loftW cI cS a (shM m2 n ((tbS m2 n sv (nI kn) 5 0 (ldS m2 n) 0 (T2, C2, 0, -1)).2.1) (List.length b)) v w (seS (tbS m2 n sv (nI kn) 5 0 (ldS m2 n) 0 (T2, C2, 0, -1)).1 (tbS m2 n sv (nI kn) 5 0 (ldS m2 n) 0 (T2, C2, 0, -1)).2.1 (nI kn) 0 (tbS m2 n sv (nI kn) 5 0 (ldS m2 n) 0 (T2, C2, 0, -1)).2.2.1 (tbS m2 n sv (nI kn) 5 0 (ldS m2 n) 0 (T2, C2, 0, -1)).2.2.2) (tpS B L P F) sh kf)
            refine g_iadd hE dX4_season_59 ?_
            refine g_istore_n hE dX4_season_60 [(3, .int (acc + (shV m2 n ((tbS m2 n sv (nI kn) 5 0 (ldS m2 n) 0 (T2, C2, 0, -1)).2.1) (List.length b)))), (0, .ref (a 0)), (1, .int x), (2, .int (nI kn)), (4, .int (nI d))] rfl (by decide) rfl ?_
            refine g_iinc hE dX4_season_61 4 (nI (d + 1)) [(4, .int (nI (d + 1))), (3, .int (acc + (shV m2 n ((tbS m2 n sv (nI kn) 5 0 (ldS m2 n) 0 (T2, C2, 0, -1)).2.1) (List.length b)))), (0, .ref (a 0)), (1, .int x), (2, .int (nI kn))] rfl (nI_1 _) (by decide) rfl ?_
            refine g_goto hE 26 dX4_season_64 (by decide) ?_
            refine g_locals [2, 3, 4, 1, 0] [(0, .ref (a 0)), (1, .int x), (2, .int (nI kn)), (3, .int (acc + (shV m2 n ((tbS m2 n sv (nI kn) 5 0 (ldS m2 n) 0 (T2, C2, 0, -1)).2.1) (List.length b)))), (4, .int (nI (d + 1)))] rfl ?_
            exact ih_26 (d + 1) (acc + (shV m2 n ((tbS m2 n sv (nI kn) 5 0 (ldS m2 n) 0 (T2, C2, 0, -1)).2.1) (List.length b))) (shM m2 n ((tbS m2 n sv (nI kn) 5 0 (ldS m2 n) 0 (T2, C2, 0, -1)).2.1) (List.length b)) ((tbS m2 n sv (nI kn) 5 0 (ldS m2 n) 0 (T2, C2, 0, -1)).1) ((tbS m2 n sv (nI kn) 5 0 (ldS m2 n) 0 (T2, C2, 0, -1)).2.1) (nI kn) 0 ((tbS m2 n sv (nI kn) 5 0 (ldS m2 n) 0 (T2, C2, 0, -1)).2.2.1) ((tbS m2 n sv (nI kn) 5 0 (ldS m2 n) 0 (T2, C2, 0, -1)).2.2.2) (by first | assumption | omega) (MW_shM hM2) ⟨m2, acc, b, hse, hb, shM_cong hb3, by rw [shV_cong hb3]⟩ (by omega)
      refine g_locals [2, 3, 4, 1, 0] [(0, .ref (a 0)), (1, .int x), (2, .int (nI kn)), (3, .int 0), (4, .int 0)] rfl ?_
      exact L26 _ 0 0 m T C li ap va le (Nat.zero_le _) hM ⟨rfl, rfl⟩ (Nat.lt_succ_self _)
    · rw [if_neg c7] at h6
      subst h6
      show Go E Q 5 0 0 16 [(0, .ref (a 0)), (1, .int x), (2, .int k)] [.int 0] (loftW cI cS a m v w (seS T C li ap va le) (tpS B L P F) sh kf)
      refine g_if_ne hE 21 dX4_season_16 (by decide) (fun c13 => absurd (by decide) c13) (fun c13 => ?_)
      refine g_iconst hE dX4_season_19 (-1) (by decide) ?_
      exact g_iret hE hQ dX4_season_20 rfl ((-1), m, T, C, li, ap, va, le) rfl rfl (Or.inr (Or.inl ⟨c7, rfl, rfl⟩))
  · rw [if_neg c3] at h2
    subst h2
    show Go E Q 5 0 0 7 [(0, .ref (a 0)), (1, .int x), (2, .int k)] [.int 0] (loftW cI cS a m v w (seS T C li ap va le) (tpS B L P F) sh kf)
    refine g_if_eq hE 19 dX4_season_7 (by decide) (fun c14 => ?_) (fun c14 => absurd (by decide) c14)
    refine g_iconst hE dX4_season_19 (-1) (by decide) ?_
    exact g_iret hE hQ dX4_season_20 rfl ((-1), m, T, C, li, ap, va, le) rfl rfl (Or.inl ⟨c3, rfl, rfl⟩)
