/-! the loft's calls: sheets, what would be found -/
def boB (m : MS) (n pl : Nat) (T : Nat → Int32) (i : Int32) : Nat → Bool
  | 0 => true
  | g + 1 => boB m n pl T i g && decide (hoR (hpS m n (m 7) pl) g (pl + 1) 0 = -4 ∨ hoR (hpS m n (m 7) pl) g (pl + 1) 0 = atv T 24 (i + nI g))
theorem bo_y {m : MS} {n pl : Nat} {T : Nat → Int32} {i : Int32} {g : Nat} (h : boB m n pl T i g = true) (h2 : hoR (hpS m n (m 7) pl) g (pl + 1) 0 = -4 ∨ hoR (hpS m n (m 7) pl) g (pl + 1) 0 = atv T 24 (i + nI g)) : boB m n pl T i (g + 1) = true := by rw [boB, h, decide_eq_true h2]; rfl
theorem bo_at {m : MS} {n pl : Nat} {T : Nat → Int32} {i : Int32} : ∀ {l : Nat}, boB m n pl T i l = true → ∀ g, g < l → (hoR (hpS m n (m 7) pl) g (pl + 1) 0 = -4 ∨ hoR (hpS m n (m 7) pl) g (pl + 1) 0 = atv T 24 (i + nI g))
  | 0, _, g, h => absurd h (Nat.not_lt_zero _)
  | l + 1, h, g, hg => by
    rw [boB, Bool.and_eq_true] at h
    by_cases e : g = l
    · subst e; exact of_decide_eq_true h.2
    · exact bo_at h.1 g (by omega)
theorem bo_n {m : MS} {n pl : Nat} {T : Nat → Int32} {i : Int32} {g l : Nat} (hg : g < l) (h1 : ¬ hoR (hpS m n (m 7) pl) g (pl + 1) 0 = -4) (h2 : ¬ hoR (hpS m n (m 7) pl) g (pl + 1) 0 = atv T 24 (i + nI g)) : ¬ boB m n pl T i l = true := fun z => (bo_at z g hg).elim h1 h2
def flA (m : MS) (n pl : Nat) (T : Nat → Int32) (ln i : Int32) : Nat → Nat → Int32
  | 0 => T
  | g + 1 => putv (flA m n pl T ln i g) 24 (i + nI g) (lnS ln (hoR (hpS m n (m 7) pl) g (pl + 1) 0))
def fgFilm (m : MS) (n pl : Nat) (sh : SHS) (k : Nat) (l i : Int32) : Int32 × SHS := if k = 4 then (-1, sh) else if 0 ≤ l ∧ l ≤ 2 then (if refS (sh k 1 0) (sh k 1 1) l i (m 9 0) = 0 then (m 9 0, pA sh k (shT (flA m n pl (sh k 0) (sh k 1 0) i n) (sh k 1 0) (sh k 1 1))) else (refS (sh k 1 0) (sh k 1 1) l i (m 9 0), sh)) else (-1, sh)
set_option maxHeartbeats 4000000 in
set_option maxRecDepth 100000 in
theorem c_X4_bearsOut (cI cS : ClassId) (a b : Nat → Nat) (m : Nat → Nat → Int32) {n sv pl : Nat} (hM : MW m n sv pl) (T : Nat → Int32) (ln le i : Int32) : CT cI cS yX4_bearsOut cX4_bearsOut 5 (some .boolean) 5 [.ref (a 0), .ref (b 0), .int i] (millW cI a m ++ (sheetW cI b (shT T ln le))) 0 0 (fun u : Int32 × (Nat → Int32) => u.1 = if boB m n pl T i n = true then 1 else 0) (fun u => some (.int u.1)) (fun u => (millW cI a (pA m 8 u.2) ++ (sheetW cI b (shT T ln le)))) := by
  refine ct_intro (by decide) (Nat.le_of_ble_eq_true rfl) (fun E Q hE hQ hI => ?_)
  have hE : CxOk E cI cS RX4 cX4_bearsOut 5 (some .boolean) 5 0 0 := hE
  show Go E Q 5 0 0 0 [(0, .ref (a 0)), (1, .ref (b 0)), (2, .int i)] [] (millW cI a m ++ (sheetW cI b (shT T ln le)))
  have hn := hM.1
  have hn6 := hM.2.1
  have hsv := hM.2.2.1
  have hsv8 := hM.2.2.2.1
  have hpl := hM.2.2.2.2.1
  have hpl6 := hM.2.2.2.2.2
  refine g_aload_n hE dX4_bearsOut_0 0 rfl ?_
  refine g_callV hE (c_X0_spread cI cS a m (by first | assumption | exact mw_of (by assumption))) mk_X0_spread mv_X0_spread ml_X4_158 dX4_bearsOut_1 (As := []) (rest := []) rfl rfl 0 rfl (show vwCl[0]? = some (RX0, TX0, 13) from rfl) (by decide) (by decide) (Nat.le_of_ble_eq_true rfl) (by decide) (by decide) [0, 1, 2, 3, 4, 5, 6, 7, 8, 9] rfl (by decide) (fun u => Nat.le_of_ble_eq_true rfl) (ws' := fun u => millW cI a (pA m 8 u) ++ (sheetW cI b (shT T ln le))) (fun u => rfl) (fun u hu => ?_)
  obtain ⟨h_1, rfl⟩ : ∃ z, z = u := ⟨_, rfl⟩
  have h2 : ∀ j, j ≤ pl → h_1 j = nI (hpS m n (m 7) pl j) := hu
  show Go E Q 5 0 0 4 [(0, .ref (a 0)), (1, .ref (b 0)), (2, .int i)] [] (millW cI a (pA m 8 h_1) ++ (sheetW cI b (shT T ln le)))
  refine g_iconst hE dX4_bearsOut_4 0 (by decide) ?_
  refine g_istore_n hE dX4_bearsOut_5 [(3, .int 0), (0, .ref (a 0)), (1, .ref (b 0)), (2, .int i)] rfl (by decide) rfl ?_
  have L6 : ∀ (n_6 : Nat) (g : Nat), (g ≤ n) → (boB m n pl T i g = true) → (n - g < n_6) → Go E Q 5 0 0 6 [(0, .ref (a 0)), (1, .ref (b 0)), (2, .int i), (3, .int (nI g))] [] (millW cI a (pA m 8 h_1) ++ (sheetW cI b (shT T ln le))) := by
    intro n_6
    induction n_6 with
    | zero => intro g hg hq hm_6; exact absurd hm_6 (Nat.not_lt_zero _)
    | succ n_6 ih_6 =>
      intro g hg hq hm_6
      refine g_iload_n hE dX4_bearsOut_6 3 rfl ?_
      refine g_aload_n hE dX4_bearsOut_7 0 rfl ?_
      refine g_get hE fl_X4_51 dX4_bearsOut_8 0 rfl rfl ?_
      refine g_icmp_ge hE 51 dX4_bearsOut_11 (by decide) (fun c3 => ?_) (fun c3 => ?_)
      · have kc3 := nat_le_t (show (m 9 0) = nI n from hn) (show (nI g) = nI g from rfl) (by omega) (by omega) c3
        refine g_iconst hE dX4_bearsOut_51 1 (by decide) ?_
        exact g_iret hE hQ dX4_bearsOut_52 (by first | rfl | decide) (1, h_1) rfl rfl (if_pos (by have e : n = g := (by omega); subst e; exact hq)).symm
      · have kc3 := nat_le_f (show (m 9 0) = nI n from hn) (show (nI g) = nI g from rfl) (by omega) (by omega) c3
        refine g_aload_n hE dX4_bearsOut_14 0 rfl ?_
        refine g_iload_n hE dX4_bearsOut_15 3 rfl ?_
        refine g_callV hE (c_X0_heapOf cI cS a (pA m 8 h_1) (by first | assumption | exact mw_of (by assumption)) (nI g) g (show (nI g) = nI g from rfl) (by omega) (hpS m n (m 7) pl) (fun j hj => ⟨h2 j hj, hpS_lt (by assumption)⟩)) mk_X0_heapOf mv_X0_heapOf ml_X4_167 dX4_bearsOut_16 (As := [.int (nI g)]) (rest := []) rfl rfl 0 rfl (show vwCl[0]? = some (RX0, TX0, 13) from rfl) (by decide) (by decide) (Nat.le_of_ble_eq_true rfl) (by decide) (by decide) [0, 1, 2, 3, 4, 5, 6, 7, 8, 9] rfl (by decide) (fun u => Nat.le_of_ble_eq_true rfl) (ws' := fun u => millW cI a (pA m 8 h_1) ++ (sheetW cI b (shT T ln le))) (fun u => rfl) (fun u hu => ?_)
        obtain ⟨r_4, rfl⟩ : ∃ z, z = u := ⟨_, rfl⟩
        have h5 : r_4 = (hoR (hpS m n (m 7) pl) g (pl + 1) 0) := hu
        subst h5
        show Go E Q 5 0 0 19 [(0, .ref (a 0)), (1, .ref (b 0)), (2, .int i), (3, .int (nI g))] [.int (hoR (hpS m n (m 7) pl) g (pl + 1) 0)] (millW cI a (pA m 8 h_1) ++ (sheetW cI b (shT T ln le)))
        refine g_istore hE dX4_bearsOut_19 [(4, .int (hoR (hpS m n (m 7) pl) g (pl + 1) 0)), (0, .ref (a 0)), (1, .ref (b 0)), (2, .int i), (3, .int (nI g))] (by decide) rfl ?_
        refine g_iload hE dX4_bearsOut_21 0 rfl ?_
        refine g_bipush hE dX4_bearsOut_23 (-4) (by decide) ?_
        refine g_icmp_eq hE 45 dX4_bearsOut_25 (by decide) (fun c6 => ?_) (fun c6 => ?_)
        · refine g_iinc hE dX4_bearsOut_45 4 (nI (g + 1)) [(3, .int (nI (g + 1))), (4, .int (hoR (hpS m n (m 7) pl) g (pl + 1) 0)), (0, .ref (a 0)), (1, .ref (b 0)), (2, .int i)] rfl (nI_1 _) (by decide) rfl ?_
          refine g_goto hE 6 dX4_bearsOut_48 (by decide) ?_
          refine g_locals [2, 3, 4, 0] [(0, .ref (a 0)), (1, .ref (b 0)), (2, .int i), (3, .int (nI (g + 1)))] rfl ?_
          exact ih_6 (g + 1) (by first | assumption | omega) (bo_y hq (Or.inl (show (hoR (hpS m n (m 7) pl) g (pl + 1) 0) = (-4) from c6))) (by omega)
        · refine g_iload hE dX4_bearsOut_28 0 rfl ?_
          refine g_aload_n hE dX4_bearsOut_30 2 rfl ?_
          refine g_get hE fl_X4_257 dX4_bearsOut_31 10 rfl rfl ?_
          refine g_iload_n hE dX4_bearsOut_34 3 rfl ?_
          refine g_iload_n hE dX4_bearsOut_35 4 rfl ?_
          refine g_iadd hE dX4_bearsOut_36 ?_
          refine g_callS hE (c_X4_at cI cS (b 1) 24 T (i + (nI g)) (by decide)) mk_X4_at st_X4_at ml_X4_91 dX4_bearsOut_37 (As := [.ref (b 1), .int (i + (nI g))]) (rest := [.int (hoR (hpS m n (m 7) pl) g (pl + 1) 0)]) rfl rfl (by decide) (by decide) (Nat.le_of_ble_eq_true rfl) (by decide) (by decide) [11] rfl (by decide) (fun u => Nat.le_of_ble_eq_true rfl) (ws' := fun u => millW cI a (pA m 8 h_1) ++ (sheetW cI b (shT T ln le))) (fun u => rfl) (fun u hu => ?_)
          obtain ⟨r_7, rfl⟩ : ∃ z, z = u := ⟨_, rfl⟩
          have h8 : r_7 = (atv T 24 (i + (nI g))) := hu
          subst h8
          show Go E Q 5 0 0 40 [(4, .int (hoR (hpS m n (m 7) pl) g (pl + 1) 0)), (0, .ref (a 0)), (1, .ref (b 0)), (2, .int i), (3, .int (nI g))] [.int (atv T 24 (i + (nI g))), .int (hoR (hpS m n (m 7) pl) g (pl + 1) 0)] (millW cI a (pA m 8 h_1) ++ (sheetW cI b (shT T ln le)))
          refine g_icmp_eq hE 45 dX4_bearsOut_40 (by decide) (fun c9 => ?_) (fun c9 => ?_)
          · refine g_iinc hE dX4_bearsOut_45 4 (nI (g + 1)) [(3, .int (nI (g + 1))), (4, .int (hoR (hpS m n (m 7) pl) g (pl + 1) 0)), (0, .ref (a 0)), (1, .ref (b 0)), (2, .int i)] rfl (nI_1 _) (by decide) rfl ?_
            refine g_goto hE 6 dX4_bearsOut_48 (by decide) ?_
            refine g_locals [2, 3, 4, 0] [(0, .ref (a 0)), (1, .ref (b 0)), (2, .int i), (3, .int (nI (g + 1)))] rfl ?_
            exact ih_6 (g + 1) (by first | assumption | omega) (bo_y hq (Or.inr (show (hoR (hpS m n (m 7) pl) g (pl + 1) 0) = (atv T 24 (i + (nI g))) from c9))) (by omega)
          · refine g_iconst hE dX4_bearsOut_43 0 (by decide) ?_
            exact g_iret hE hQ dX4_bearsOut_44 (by first | rfl | decide) (0, h_1) rfl rfl (by rw [if_neg]; exact bo_n (show g < n by omega) (show ¬ (hoR (hpS m n (m 7) pl) g (pl + 1) 0) = (-4) from c6) (show ¬ (hoR (hpS m n (m 7) pl) g (pl + 1) 0) = (atv T 24 (i + (nI g))) from c9))
  refine g_locals [1, 2, 3, 0] [(0, .ref (a 0)), (1, .ref (b 0)), (2, .int i), (3, .int 0)] rfl ?_
  exact L6 _ 0 (Nat.zero_le _) rfl (Nat.lt_succ_self _)
set_option maxHeartbeats 4000000 in
set_option maxRecDepth 100000 in
theorem c_X4_film (cI cS : ClassId) (a : Nat → Nat) (m v w : Nat → Nat → Int32) (T C : Nat → Int32) (li ap va le : Int32) (B : Nat → Int32) (L P : Nat) (F : Int32) (sh : Nat → Nat → Nat → Int32) (kf : Int32) {n sv pl n1 sv1 pl1 n2 sv2 pl2 : Nat} (hM : MW m n sv pl) (hV : MW v n1 sv1 pl1) (hW : MW w n2 sv2 pl2) (hL : L ≤ 120) (x l i : Int32) : CT cI cS yX4_film cX4_film 7 (some .int) 5 [.ref (a 0), .int x, .int l, .int i] (loftW cI cS a m v w (seS T C li ap va le) (tpS B L P F) sh kf) 0 0 (fun u : Nat × Int32 × (Nat → Nat → Nat → Int32) × (Nat → Int32) => SK u.1 x ∧ (u.2.1, u.2.2.1) = fgFilm m n pl sh u.1 l i) (fun u => some (.int u.2.1)) (fun u => (loftW cI cS a (pA m 8 u.2.2.2) v w (seS T C li ap va le) (tpS B L P F) u.2.2.1 kf)) := by
  refine ct_intro (by decide) (Nat.le_of_ble_eq_true rfl) (fun E Q hE hQ hI => ?_)
  have hE : CxOk E cI cS RX4 cX4_film 7 (some .int) 5 0 0 := hE
  show Go E Q 7 0 0 0 [(0, .ref (a 0)), (1, .int x), (2, .int l), (3, .int i)] [] (loftW cI cS a m v w (seS T C li ap va le) (tpS B L P F) sh kf)
  have hn := hM.1
  have hn6 := hM.2.1
  have hsv := hM.2.2.1
  have hsv8 := hM.2.2.2.1
  have hpl := hM.2.2.2.2.1
  have hpl6 := hM.2.2.2.2.2
  have hn1 := hV.1
  have hn16 := hV.2.1
  have hsv1 := hV.2.2.1
  have hsv18 := hV.2.2.2.1
  have hpl1 := hV.2.2.2.2.1
  have hpl16 := hV.2.2.2.2.2
  refine g_aload_n hE dX4_film_0 0 rfl ?_
  refine g_iload_n hE dX4_film_1 1 rfl ?_
  refine g_callV hE (c_X4_sheetAt cI cS a m v w T C li ap va le B L P F sh kf (by first | assumption | exact mw_of (by assumption)) (by first | assumption | exact mw_of (by assumption)) (by first | assumption | exact mw_of (by assumption)) hL x) mk_X4_sheetAt mv_X4_sheetAt ml_X4_221 dX4_film_2 (As := [.int x]) (rest := []) rfl rfl 0 rfl (show vwCl[4]? = some (RX4, TX4, 7) from rfl) (by decide) (by decide) (Nat.le_of_ble_eq_true rfl) (by decide) (by decide) [0, 1, 2, 3, 4, 5, 6, 7, 8, 9, 10, 11, 12, 13, 14, 15, 16, 17, 18, 19, 20, 21, 22, 23, 24, 25, 26, 27, 28, 29, 30, 31, 32, 33, 34, 35, 36, 37, 38, 39, 40, 41, 42, 43, 44] rfl (by decide) (fun u => Nat.le_of_ble_eq_true rfl) (ws' := fun u => loftW cI cS a m v w (seS T C li ap va le) (tpS B L P F) sh kf) (fun u => rfl) (fun u hu => ?_)
  obtain ⟨k_1, rfl⟩ : ∃ z, z = u := ⟨_, rfl⟩
  have h2 : SK k_1 x := hu
  rcases (show k_1 = 0 ∨ k_1 = 1 ∨ k_1 = 2 ∨ k_1 = 3 ∨ k_1 = 4 by rcases h2 with q | q <;> omega) with rfl | rfl | rfl | rfl | rfl
  · show Go E Q 7 0 0 5 [(0, .ref (a 0)), (1, .int x), (2, .int l), (3, .int i)] [.ref (a 37)] (loftW cI cS a m v w (seS T C li ap va le) (tpS B L P F) sh kf)
    refine g_astore hE dX4_film_5 [(4, .ref (a 37)), (0, .ref (a 0)), (1, .int x), (2, .int l), (3, .int i)] (by decide) rfl ?_
    refine g_aload hE dX4_film_7 0 rfl ?_
    refine g_ifnull hE dX4_film_9 ?_
    refine g_iload_n hE dX4_film_12 3 rfl ?_
    refine g_callS hE (c_X4_isLane cI cS l) mk_X4_isLane st_X4_isLane ml_X4_225 dX4_film_13 (As := [.int l]) (rest := []) rfl rfl (by decide) (by decide) (Nat.le_of_ble_eq_true rfl) (by decide) (by decide) [] rfl (by decide) (fun u => Nat.le_of_ble_eq_true rfl) (ws' := fun u => loftW cI cS a m v w (seS T C li ap va le) (tpS B L P F) sh kf) (fun u => rfl) (fun u hu => ?_)
    obtain ⟨r_3, rfl⟩ : ∃ z, z = u := ⟨_, rfl⟩
    have h4 : r_3 = if 0 ≤ l ∧ l ≤ 2 then 1 else 0 := hu
    by_cases c5 : 0 ≤ l ∧ l ≤ 2
    · rw [if_pos c5] at h4
      subst h4
      show Go E Q 7 0 0 16 [(4, .ref (a 37)), (0, .ref (a 0)), (1, .int x), (2, .int l), (3, .int i)] [.int 1] (loftW cI cS a m v w (seS T C li ap va le) (tpS B L P F) sh kf)
      refine g_if_ne hE 21 dX4_film_16 (by decide) (fun c6 => ?_) (fun c6 => absurd c6 (by decide))
      refine g_aload hE dX4_film_21 0 rfl ?_
      refine g_iload_n hE dX4_film_23 3 rfl ?_
      refine g_iload_n hE dX4_film_24 4 rfl ?_
      refine g_aload_n hE dX4_film_25 1 rfl ?_
      refine g_get hE fl_X4_10 dX4_film_26 0 rfl rfl ?_
      refine g_get hE fl_X4_51 dX4_film_29 1 rfl rfl ?_
      refine g_callV hE (c_X2_refusal cI cS (fun i => a (i + 37)) (sh 0 0) (sh 0 1 0) (sh 0 1 1) l i (m 9 0)) mk_X2_refusal mv_X2_refusal ml_X4_233 dX4_film_32 (As := [.int l, .int i, .int (m 9 0)]) (rest := []) rfl rfl 37 rfl (show vwCl[2]? = some (RX2, TX2, 3) from rfl) (by decide) (by decide) (Nat.le_of_ble_eq_true rfl) (by decide) (by decide) [37, 38] rfl (by decide) (fun u => Nat.le_of_ble_eq_true rfl) (ws' := fun u => loftW cI cS a m v w (seS T C li ap va le) (tpS B L P F) sh kf) (fun u => rfl) (fun u hu => ?_)
      obtain ⟨r_7, rfl⟩ : ∃ z, z = u := ⟨_, rfl⟩
      have h8 : r_7 = (refS (sh 0 1 0) (sh 0 1 1) l i (m 9 0)) := hu
      subst h8
      show Go E Q 7 0 0 35 [(4, .ref (a 37)), (0, .ref (a 0)), (1, .int x), (2, .int l), (3, .int i)] [.int (refS (sh 0 1 0) (sh 0 1 1) l i (m 9 0))] (loftW cI cS a m v w (seS T C li ap va le) (tpS B L P F) sh kf)
      refine g_istore hE dX4_film_35 [(5, .int (refS (sh 0 1 0) (sh 0 1 1) l i (m 9 0))), (4, .ref (a 37)), (0, .ref (a 0)), (1, .int x), (2, .int l), (3, .int i)] (by decide) rfl ?_
      refine g_iload hE dX4_film_37 0 rfl ?_
      refine g_if_eq hE 45 dX4_film_39 (by decide) (fun c9 => ?_) (fun c9 => ?_)
      · refine g_aload_n hE dX4_film_45 2 rfl ?_
        refine g_get hE fl_X4_10 dX4_film_46 0 rfl rfl ?_
        refine g_callV hE (c_X0_spread cI cS (fun i => a (i + 1)) m (by first | assumption | exact mw_of (by assumption))) mk_X0_spread mv_X0_spread ml_X4_158 dX4_film_49 (As := []) (rest := []) rfl rfl 1 rfl (show vwCl[0]? = some (RX0, TX0, 13) from rfl) (by decide) (by decide) (Nat.le_of_ble_eq_true rfl) (by decide) (by decide) [1, 2, 3, 4, 5, 6, 7, 8, 9, 10] rfl (by decide) (fun u => Nat.le_of_ble_eq_true rfl) (ws' := fun u => loftW cI cS a (pA m 8 u) v w (seS T C li ap va le) (tpS B L P F) sh kf) (fun u => rfl) (fun u hu => ?_)
        obtain ⟨h_10, rfl⟩ : ∃ z, z = u := ⟨_, rfl⟩
        have h11 : ∀ j, j ≤ pl → h_10 j = nI (hpS m n (m 7) pl j) := hu
        show Go E Q 7 0 0 52 [(5, .int (refS (sh 0 1 0) (sh 0 1 1) l i (m 9 0))), (4, .ref (a 37)), (0, .ref (a 0)), (1, .int x), (2, .int l), (3, .int i)] [] (loftW cI cS a (pA m 8 h_10) v w (seS T C li ap va le) (tpS B L P F) sh kf)
        refine g_world (loftW cI cS a (pA m 8 h_10) v w (seS T C li ap va le) (tpS B L P F) (pA sh 0 (shT (flA m n pl (sh 0 0) (sh 0 1 0) i 0) (sh 0 1 0) (sh 0 1 1))) kf) (by rfl) ?_
        refine g_iconst hE dX4_film_52 0 (by decide) ?_
        refine g_istore hE dX4_film_53 [(6, .int 0), (5, .int (refS (sh 0 1 0) (sh 0 1 1) l i (m 9 0))), (4, .ref (a 37)), (0, .ref (a 0)), (1, .int x), (2, .int l), (3, .int i)] (by decide) rfl ?_
        have L55 : ∀ (n_55 : Nat) (g : Nat), (g ≤ n) → (n - g < n_55) → Go E Q 7 0 0 55 [(0, .ref (a 0)), (1, .int x), (2, .int l), (3, .int i), (4, .ref (a 37)), (6, .int (nI g))] [] (loftW cI cS a (pA m 8 h_10) v w (seS T C li ap va le) (tpS B L P F) (pA sh 0 (shT (flA m n pl (sh 0 0) (sh 0 1 0) i g) (sh 0 1 0) (sh 0 1 1))) kf) := by
          intro n_55
          induction n_55 with
          | zero => intro g hg hm_55; exact absurd hm_55 (Nat.not_lt_zero _)
          | succ n_55 ih_55 =>
            intro g hg hm_55
            refine g_iload hE dX4_film_55 5 rfl ?_
            refine g_aload_n hE dX4_film_57 0 rfl ?_
            refine g_get hE fl_X4_10 dX4_film_58 0 rfl rfl ?_
            refine g_get hE fl_X4_51 dX4_film_61 1 rfl rfl ?_
            refine g_icmp_ge hE 91 dX4_film_64 (by decide) (fun c12 => ?_) (fun c12 => ?_)
            · have kc12 := nat_le_t (show (m 9 0) = nI n from hn) (show (nI g) = nI g from rfl) (by omega) (by omega) c12
              refine g_aload_n hE dX4_film_91 0 rfl ?_
              refine g_get hE fl_X4_10 dX4_film_92 0 rfl rfl ?_
              refine g_get hE fl_X4_51 dX4_film_95 1 rfl rfl ?_
              exact g_iret hE hQ dX4_film_98 rfl (0, (m 9 0), (pA sh 0 (shT (flA m n pl (sh 0 0) (sh 0 1 0) i g) (sh 0 1 0) (sh 0 1 1))), h_10) rfl rfl ⟨h2, (by have e : n = g := (by omega); subst e; show ((m 9 0), (pA sh 0 (shT (flA m n pl (sh 0 0) (sh 0 1 0) i n) (sh 0 1 0) (sh 0 1 1)))) = fgFilm m n pl sh 0 l i; simp only [fgFilm, if_neg (show ¬ (0 : Nat) = 4 by decide), if_pos c5, if_pos (show (refS (sh 0 1 0) (sh 0 1 1) l i (m 9 0)) = 0 from c9), if_pos trivial])⟩
            · have kc12 := nat_le_f (show (m 9 0) = nI n from hn) (show (nI g) = nI g from rfl) (by omega) (by omega) c12
              refine g_aload hE dX4_film_67 4 rfl ?_
              refine g_iload_n hE dX4_film_69 3 rfl ?_
              refine g_iload hE dX4_film_70 5 rfl ?_
              refine g_iadd hE dX4_film_72 ?_
              refine g_aload_n hE dX4_film_73 0 rfl ?_
              refine g_get hE fl_X4_10 dX4_film_74 0 rfl rfl ?_
              refine g_iload hE dX4_film_77 5 rfl ?_
              refine g_callV hE (c_X0_heapOf cI cS (fun i => a (i + 1)) (pA m 8 h_10) (by first | assumption | exact mw_of (by assumption)) (nI g) g (show (nI g) = nI g from rfl) (by omega) (hpS m n (m 7) pl) (fun j hj => ⟨h11 j hj, hpS_lt (by assumption)⟩)) mk_X0_heapOf mv_X0_heapOf ml_X4_167 dX4_film_79 (As := [.int (nI g)]) (rest := [.int (i + (nI g)), .ref (a 37)]) rfl rfl 1 rfl (show vwCl[0]? = some (RX0, TX0, 13) from rfl) (by decide) (by decide) (Nat.le_of_ble_eq_true rfl) (by decide) (by decide) [1, 2, 3, 4, 5, 6, 7, 8, 9, 10] rfl (by decide) (fun u => Nat.le_of_ble_eq_true rfl) (ws' := fun u => loftW cI cS a (pA m 8 h_10) v w (seS T C li ap va le) (tpS B L P F) (pA sh 0 (shT (flA m n pl (sh 0 0) (sh 0 1 0) i g) (sh 0 1 0) (sh 0 1 1))) kf) (fun u => rfl) (fun u hu => ?_)
              obtain ⟨r_13, rfl⟩ : ∃ z, z = u := ⟨_, rfl⟩
              have h14 : r_13 = (hoR (hpS m n (m 7) pl) g (pl + 1) 0) := hu
              subst h14
              show Go E Q 7 0 0 82 [(0, .ref (a 0)), (1, .int x), (2, .int l), (3, .int i), (4, .ref (a 37)), (6, .int (nI g))] [.int (hoR (hpS m n (m 7) pl) g (pl + 1) 0), .int (i + (nI g)), .ref (a 37)] (loftW cI cS a (pA m 8 h_10) v w (seS T C li ap va le) (tpS B L P F) (pA sh 0 (shT (flA m n pl (sh 0 0) (sh 0 1 0) i g) (sh 0 1 0) (sh 0 1 1))) kf)
              refine g_callV hE (c_X2_write cI cS (fun i => a (i + 37)) (flA m n pl (sh 0 0) (sh 0 1 0) i g) (sh 0 1 0) (sh 0 1 1) (i + (nI g)) (hoR (hpS m n (m 7) pl) g (pl + 1) 0)) mk_X2_write mv_X2_write ml_X4_251 dX4_film_82 (As := [.int (i + (nI g)), .int (hoR (hpS m n (m 7) pl) g (pl + 1) 0)]) (rest := []) rfl rfl 37 rfl (show vwCl[2]? = some (RX2, TX2, 3) from rfl) (by decide) (by decide) (Nat.le_of_ble_eq_true rfl) (by decide) (by decide) [37, 38] rfl (by decide) (fun u => Nat.le_of_ble_eq_true rfl) (ws' := fun u => loftW cI cS a (pA m 8 h_10) v w (seS T C li ap va le) (tpS B L P F) (pA (pA sh 0 (shT (flA m n pl (sh 0 0) (sh 0 1 0) i g) (sh 0 1 0) (sh 0 1 1))) 0 (shT (putv (flA m n pl (sh 0 0) (sh 0 1 0) i g) 24 (i + (nI g)) (lnS (sh 0 1 0) (hoR (hpS m n (m 7) pl) g (pl + 1) 0))) (sh 0 1 0) (sh 0 1 1))) kf) (fun u => rfl) (fun u hu => ?_)
              show Go E Q 7 0 0 85 [(0, .ref (a 0)), (1, .int x), (2, .int l), (3, .int i), (4, .ref (a 37)), (6, .int (nI g))] [] (loftW cI cS a (pA m 8 h_10) v w (seS T C li ap va le) (tpS B L P F) (pA (pA sh 0 (shT (flA m n pl (sh 0 0) (sh 0 1 0) i g) (sh 0 1 0) (sh 0 1 1))) 0 (shT (putv (flA m n pl (sh 0 0) (sh 0 1 0) i g) 24 (i + (nI g)) (lnS (sh 0 1 0) (hoR (hpS m n (m 7) pl) g (pl + 1) 0))) (sh 0 1 0) (sh 0 1 1))) kf)
              refine g_iinc hE dX4_film_85 5 (nI (g + 1)) [(6, .int (nI (g + 1))), (0, .ref (a 0)), (1, .int x), (2, .int l), (3, .int i), (4, .ref (a 37))] rfl (nI_1 _) (by decide) rfl ?_
              refine g_goto hE 55 dX4_film_88 (by decide) ?_
              refine g_locals [1, 2, 3, 4, 5, 0] [(0, .ref (a 0)), (1, .int x), (2, .int l), (3, .int i), (4, .ref (a 37)), (6, .int (nI (g + 1)))] rfl ?_
              exact ih_55 (g + 1) (by first | assumption | omega) (by omega)
        refine g_locals [3, 4, 5, 6, 2, 0] [(0, .ref (a 0)), (1, .int x), (2, .int l), (3, .int i), (4, .ref (a 37)), (6, .int 0)] rfl ?_
        exact L55 _ 0 (Nat.zero_le _) (Nat.lt_succ_self _)
      · refine g_iload hE dX4_film_42 0 rfl ?_
        refine g_world (loftW cI cS a (pA m 8 (m 8)) v w (seS T C li ap va le) (tpS B L P F) sh kf) (by rfl) ?_
        exact g_iret hE hQ dX4_film_44 rfl (0, (refS (sh 0 1 0) (sh 0 1 1) l i (m 9 0)), sh, (m 8)) rfl rfl ⟨h2, (by show ((refS (sh 0 1 0) (sh 0 1 1) l i (m 9 0)), sh) = fgFilm m n pl sh 0 l i; simp only [fgFilm, if_neg (show ¬ (0 : Nat) = 4 by decide), if_pos c5, if_neg (show ¬ (refS (sh 0 1 0) (sh 0 1 1) l i (m 9 0)) = 0 from c9), if_pos trivial])⟩
    · rw [if_neg c5] at h4
      subst h4
      show Go E Q 7 0 0 16 [(4, .ref (a 37)), (0, .ref (a 0)), (1, .int x), (2, .int l), (3, .int i)] [.int 0] (loftW cI cS a m v w (seS T C li ap va le) (tpS B L P F) sh kf)
      refine g_if_ne hE 21 dX4_film_16 (by decide) (fun c16 => absurd (by decide) c16) (fun c16 => ?_)
      refine g_iconst hE dX4_film_19 (-1) (by decide) ?_
      refine g_world (loftW cI cS a (pA m 8 (m 8)) v w (seS T C li ap va le) (tpS B L P F) sh kf) (by rfl) ?_
      exact g_iret hE hQ dX4_film_20 rfl (0, (-1), sh, (m 8)) rfl rfl ⟨h2, (by show ((-1), sh) = fgFilm m n pl sh 0 l i; simp only [fgFilm, if_neg (show ¬ (0 : Nat) = 4 by decide), if_neg c5, if_pos trivial])⟩
  · show Go E Q 7 0 0 5 [(0, .ref (a 0)), (1, .int x), (2, .int l), (3, .int i)] [.ref (a 39)] (loftW cI cS a m v w (seS T C li ap va le) (tpS B L P F) sh kf)
    refine g_astore hE dX4_film_5 [(4, .ref (a 39)), (0, .ref (a 0)), (1, .int x), (2, .int l), (3, .int i)] (by decide) rfl ?_
    refine g_aload hE dX4_film_7 0 rfl ?_
    refine g_ifnull hE dX4_film_9 ?_
    refine g_iload_n hE dX4_film_12 3 rfl ?_
    refine g_callS hE (c_X4_isLane cI cS l) mk_X4_isLane st_X4_isLane ml_X4_225 dX4_film_13 (As := [.int l]) (rest := []) rfl rfl (by decide) (by decide) (Nat.le_of_ble_eq_true rfl) (by decide) (by decide) [] rfl (by decide) (fun u => Nat.le_of_ble_eq_true rfl) (ws' := fun u => loftW cI cS a m v w (seS T C li ap va le) (tpS B L P F) sh kf) (fun u => rfl) (fun u hu => ?_)
    obtain ⟨r_17, rfl⟩ : ∃ z, z = u := ⟨_, rfl⟩
    have h18 : r_17 = if 0 ≤ l ∧ l ≤ 2 then 1 else 0 := hu
    by_cases c19 : 0 ≤ l ∧ l ≤ 2
    · rw [if_pos c19] at h18
      subst h18
      show Go E Q 7 0 0 16 [(4, .ref (a 39)), (0, .ref (a 0)), (1, .int x), (2, .int l), (3, .int i)] [.int 1] (loftW cI cS a m v w (seS T C li ap va le) (tpS B L P F) sh kf)
      refine g_if_ne hE 21 dX4_film_16 (by decide) (fun c20 => ?_) (fun c20 => absurd c20 (by decide))
      refine g_aload hE dX4_film_21 0 rfl ?_
      refine g_iload_n hE dX4_film_23 3 rfl ?_
      refine g_iload_n hE dX4_film_24 4 rfl ?_
      refine g_aload_n hE dX4_film_25 1 rfl ?_
      refine g_get hE fl_X4_10 dX4_film_26 0 rfl rfl ?_
      refine g_get hE fl_X4_51 dX4_film_29 1 rfl rfl ?_
      refine g_callV hE (c_X2_refusal cI cS (fun i => a (i + 39)) (sh 1 0) (sh 1 1 0) (sh 1 1 1) l i (m 9 0)) mk_X2_refusal mv_X2_refusal ml_X4_233 dX4_film_32 (As := [.int l, .int i, .int (m 9 0)]) (rest := []) rfl rfl 39 rfl (show vwCl[2]? = some (RX2, TX2, 3) from rfl) (by decide) (by decide) (Nat.le_of_ble_eq_true rfl) (by decide) (by decide) [39, 40] rfl (by decide) (fun u => Nat.le_of_ble_eq_true rfl) (ws' := fun u => loftW cI cS a m v w (seS T C li ap va le) (tpS B L P F) sh kf) (fun u => rfl) (fun u hu => ?_)
      obtain ⟨r_21, rfl⟩ : ∃ z, z = u := ⟨_, rfl⟩
      have h22 : r_21 = (refS (sh 1 1 0) (sh 1 1 1) l i (m 9 0)) := hu
      subst h22
      show Go E Q 7 0 0 35 [(4, .ref (a 39)), (0, .ref (a 0)), (1, .int x), (2, .int l), (3, .int i)] [.int (refS (sh 1 1 0) (sh 1 1 1) l i (m 9 0))] (loftW cI cS a m v w (seS T C li ap va le) (tpS B L P F) sh kf)
      refine g_istore hE dX4_film_35 [(5, .int (refS (sh 1 1 0) (sh 1 1 1) l i (m 9 0))), (4, .ref (a 39)), (0, .ref (a 0)), (1, .int x), (2, .int l), (3, .int i)] (by decide) rfl ?_
      refine g_iload hE dX4_film_37 0 rfl ?_
      refine g_if_eq hE 45 dX4_film_39 (by decide) (fun c23 => ?_) (fun c23 => ?_)
      · refine g_aload_n hE dX4_film_45 2 rfl ?_
        refine g_get hE fl_X4_10 dX4_film_46 0 rfl rfl ?_
        refine g_callV hE (c_X0_spread cI cS (fun i => a (i + 1)) m (by first | assumption | exact mw_of (by assumption))) mk_X0_spread mv_X0_spread ml_X4_158 dX4_film_49 (As := []) (rest := []) rfl rfl 1 rfl (show vwCl[0]? = some (RX0, TX0, 13) from rfl) (by decide) (by decide) (Nat.le_of_ble_eq_true rfl) (by decide) (by decide) [1, 2, 3, 4, 5, 6, 7, 8, 9, 10] rfl (by decide) (fun u => Nat.le_of_ble_eq_true rfl) (ws' := fun u => loftW cI cS a (pA m 8 u) v w (seS T C li ap va le) (tpS B L P F) sh kf) (fun u => rfl) (fun u hu => ?_)
        obtain ⟨h_24, rfl⟩ : ∃ z, z = u := ⟨_, rfl⟩
        have h25 : ∀ j, j ≤ pl → h_24 j = nI (hpS m n (m 7) pl j) := hu
        show Go E Q 7 0 0 52 [(5, .int (refS (sh 1 1 0) (sh 1 1 1) l i (m 9 0))), (4, .ref (a 39)), (0, .ref (a 0)), (1, .int x), (2, .int l), (3, .int i)] [] (loftW cI cS a (pA m 8 h_24) v w (seS T C li ap va le) (tpS B L P F) sh kf)
        refine g_world (loftW cI cS a (pA m 8 h_24) v w (seS T C li ap va le) (tpS B L P F) (pA sh 1 (shT (flA m n pl (sh 1 0) (sh 1 1 0) i 0) (sh 1 1 0) (sh 1 1 1))) kf) (by rfl) ?_
        refine g_iconst hE dX4_film_52 0 (by decide) ?_
        refine g_istore hE dX4_film_53 [(6, .int 0), (5, .int (refS (sh 1 1 0) (sh 1 1 1) l i (m 9 0))), (4, .ref (a 39)), (0, .ref (a 0)), (1, .int x), (2, .int l), (3, .int i)] (by decide) rfl ?_
        have L55 : ∀ (n_55 : Nat) (g : Nat), (g ≤ n) → (n - g < n_55) → Go E Q 7 0 0 55 [(0, .ref (a 0)), (1, .int x), (2, .int l), (3, .int i), (4, .ref (a 39)), (6, .int (nI g))] [] (loftW cI cS a (pA m 8 h_24) v w (seS T C li ap va le) (tpS B L P F) (pA sh 1 (shT (flA m n pl (sh 1 0) (sh 1 1 0) i g) (sh 1 1 0) (sh 1 1 1))) kf) := by
          intro n_55
          induction n_55 with
          | zero => intro g hg hm_55; exact absurd hm_55 (Nat.not_lt_zero _)
          | succ n_55 ih_55 =>
            intro g hg hm_55
            refine g_iload hE dX4_film_55 5 rfl ?_
            refine g_aload_n hE dX4_film_57 0 rfl ?_
            refine g_get hE fl_X4_10 dX4_film_58 0 rfl rfl ?_
            refine g_get hE fl_X4_51 dX4_film_61 1 rfl rfl ?_
            refine g_icmp_ge hE 91 dX4_film_64 (by decide) (fun c26 => ?_) (fun c26 => ?_)
            · have kc26 := nat_le_t (show (m 9 0) = nI n from hn) (show (nI g) = nI g from rfl) (by omega) (by omega) c26
              refine g_aload_n hE dX4_film_91 0 rfl ?_
              refine g_get hE fl_X4_10 dX4_film_92 0 rfl rfl ?_
              refine g_get hE fl_X4_51 dX4_film_95 1 rfl rfl ?_
              exact g_iret hE hQ dX4_film_98 rfl (1, (m 9 0), (pA sh 1 (shT (flA m n pl (sh 1 0) (sh 1 1 0) i g) (sh 1 1 0) (sh 1 1 1))), h_24) rfl rfl ⟨h2, (by have e : n = g := (by omega); subst e; show ((m 9 0), (pA sh 1 (shT (flA m n pl (sh 1 0) (sh 1 1 0) i n) (sh 1 1 0) (sh 1 1 1)))) = fgFilm m n pl sh 1 l i; simp only [fgFilm, if_neg (show ¬ (1 : Nat) = 4 by decide), if_pos c19, if_pos (show (refS (sh 1 1 0) (sh 1 1 1) l i (m 9 0)) = 0 from c23), if_pos trivial])⟩
            · have kc26 := nat_le_f (show (m 9 0) = nI n from hn) (show (nI g) = nI g from rfl) (by omega) (by omega) c26
              refine g_aload hE dX4_film_67 4 rfl ?_
              refine g_iload_n hE dX4_film_69 3 rfl ?_
              refine g_iload hE dX4_film_70 5 rfl ?_
              refine g_iadd hE dX4_film_72 ?_
              refine g_aload_n hE dX4_film_73 0 rfl ?_
              refine g_get hE fl_X4_10 dX4_film_74 0 rfl rfl ?_
              refine g_iload hE dX4_film_77 5 rfl ?_
              refine g_callV hE (c_X0_heapOf cI cS (fun i => a (i + 1)) (pA m 8 h_24) (by first | assumption | exact mw_of (by assumption)) (nI g) g (show (nI g) = nI g from rfl) (by omega) (hpS m n (m 7) pl) (fun j hj => ⟨h25 j hj, hpS_lt (by assumption)⟩)) mk_X0_heapOf mv_X0_heapOf ml_X4_167 dX4_film_79 (As := [.int (nI g)]) (rest := [.int (i + (nI g)), .ref (a 39)]) rfl rfl 1 rfl (show vwCl[0]? = some (RX0, TX0, 13) from rfl) (by decide) (by decide) (Nat.le_of_ble_eq_true rfl) (by decide) (by decide) [1, 2, 3, 4, 5, 6, 7, 8, 9, 10] rfl (by decide) (fun u => Nat.le_of_ble_eq_true rfl) (ws' := fun u => loftW cI cS a (pA m 8 h_24) v w (seS T C li ap va le) (tpS B L P F) (pA sh 1 (shT (flA m n pl (sh 1 0) (sh 1 1 0) i g) (sh 1 1 0) (sh 1 1 1))) kf) (fun u => rfl) (fun u hu => ?_)
              obtain ⟨r_27, rfl⟩ : ∃ z, z = u := ⟨_, rfl⟩
              have h28 : r_27 = (hoR (hpS m n (m 7) pl) g (pl + 1) 0) := hu
              subst h28
              show Go E Q 7 0 0 82 [(0, .ref (a 0)), (1, .int x), (2, .int l), (3, .int i), (4, .ref (a 39)), (6, .int (nI g))] [.int (hoR (hpS m n (m 7) pl) g (pl + 1) 0), .int (i + (nI g)), .ref (a 39)] (loftW cI cS a (pA m 8 h_24) v w (seS T C li ap va le) (tpS B L P F) (pA sh 1 (shT (flA m n pl (sh 1 0) (sh 1 1 0) i g) (sh 1 1 0) (sh 1 1 1))) kf)
              refine g_callV hE (c_X2_write cI cS (fun i => a (i + 39)) (flA m n pl (sh 1 0) (sh 1 1 0) i g) (sh 1 1 0) (sh 1 1 1) (i + (nI g)) (hoR (hpS m n (m 7) pl) g (pl + 1) 0)) mk_X2_write mv_X2_write ml_X4_251 dX4_film_82 (As := [.int (i + (nI g)), .int (hoR (hpS m n (m 7) pl) g (pl + 1) 0)]) (rest := []) rfl rfl 39 rfl (show vwCl[2]? = some (RX2, TX2, 3) from rfl) (by decide) (by decide) (Nat.le_of_ble_eq_true rfl) (by decide) (by decide) [39, 40] rfl (by decide) (fun u => Nat.le_of_ble_eq_true rfl) (ws' := fun u => loftW cI cS a (pA m 8 h_24) v w (seS T C li ap va le) (tpS B L P F) (pA (pA sh 1 (shT (flA m n pl (sh 1 0) (sh 1 1 0) i g) (sh 1 1 0) (sh 1 1 1))) 1 (shT (putv (flA m n pl (sh 1 0) (sh 1 1 0) i g) 24 (i + (nI g)) (lnS (sh 1 1 0) (hoR (hpS m n (m 7) pl) g (pl + 1) 0))) (sh 1 1 0) (sh 1 1 1))) kf) (fun u => rfl) (fun u hu => ?_)
              show Go E Q 7 0 0 85 [(0, .ref (a 0)), (1, .int x), (2, .int l), (3, .int i), (4, .ref (a 39)), (6, .int (nI g))] [] (loftW cI cS a (pA m 8 h_24) v w (seS T C li ap va le) (tpS B L P F) (pA (pA sh 1 (shT (flA m n pl (sh 1 0) (sh 1 1 0) i g) (sh 1 1 0) (sh 1 1 1))) 1 (shT (putv (flA m n pl (sh 1 0) (sh 1 1 0) i g) 24 (i + (nI g)) (lnS (sh 1 1 0) (hoR (hpS m n (m 7) pl) g (pl + 1) 0))) (sh 1 1 0) (sh 1 1 1))) kf)
              refine g_iinc hE dX4_film_85 5 (nI (g + 1)) [(6, .int (nI (g + 1))), (0, .ref (a 0)), (1, .int x), (2, .int l), (3, .int i), (4, .ref (a 39))] rfl (nI_1 _) (by decide) rfl ?_
              refine g_goto hE 55 dX4_film_88 (by decide) ?_
              refine g_locals [1, 2, 3, 4, 5, 0] [(0, .ref (a 0)), (1, .int x), (2, .int l), (3, .int i), (4, .ref (a 39)), (6, .int (nI (g + 1)))] rfl ?_
              exact ih_55 (g + 1) (by first | assumption | omega) (by omega)
        refine g_locals [3, 4, 5, 6, 2, 0] [(0, .ref (a 0)), (1, .int x), (2, .int l), (3, .int i), (4, .ref (a 39)), (6, .int 0)] rfl ?_
        exact L55 _ 0 (Nat.zero_le _) (Nat.lt_succ_self _)
      · refine g_iload hE dX4_film_42 0 rfl ?_
        refine g_world (loftW cI cS a (pA m 8 (m 8)) v w (seS T C li ap va le) (tpS B L P F) sh kf) (by rfl) ?_
        exact g_iret hE hQ dX4_film_44 rfl (1, (refS (sh 1 1 0) (sh 1 1 1) l i (m 9 0)), sh, (m 8)) rfl rfl ⟨h2, (by show ((refS (sh 1 1 0) (sh 1 1 1) l i (m 9 0)), sh) = fgFilm m n pl sh 1 l i; simp only [fgFilm, if_neg (show ¬ (1 : Nat) = 4 by decide), if_pos c19, if_neg (show ¬ (refS (sh 1 1 0) (sh 1 1 1) l i (m 9 0)) = 0 from c23), if_pos trivial])⟩
    · rw [if_neg c19] at h18
      subst h18
      show Go E Q 7 0 0 16 [(4, .ref (a 39)), (0, .ref (a 0)), (1, .int x), (2, .int l), (3, .int i)] [.int 0] (loftW cI cS a m v w (seS T C li ap va le) (tpS B L P F) sh kf)
      refine g_if_ne hE 21 dX4_film_16 (by decide) (fun c30 => absurd (by decide) c30) (fun c30 => ?_)
      refine g_iconst hE dX4_film_19 (-1) (by decide) ?_
      refine g_world (loftW cI cS a (pA m 8 (m 8)) v w (seS T C li ap va le) (tpS B L P F) sh kf) (by rfl) ?_
      exact g_iret hE hQ dX4_film_20 rfl (1, (-1), sh, (m 8)) rfl rfl ⟨h2, (by show ((-1), sh) = fgFilm m n pl sh 1 l i; simp only [fgFilm, if_neg (show ¬ (1 : Nat) = 4 by decide), if_neg c19, if_pos trivial])⟩
  · show Go E Q 7 0 0 5 [(0, .ref (a 0)), (1, .int x), (2, .int l), (3, .int i)] [.ref (a 41)] (loftW cI cS a m v w (seS T C li ap va le) (tpS B L P F) sh kf)
    refine g_astore hE dX4_film_5 [(4, .ref (a 41)), (0, .ref (a 0)), (1, .int x), (2, .int l), (3, .int i)] (by decide) rfl ?_
    refine g_aload hE dX4_film_7 0 rfl ?_
    refine g_ifnull hE dX4_film_9 ?_
    refine g_iload_n hE dX4_film_12 3 rfl ?_
    refine g_callS hE (c_X4_isLane cI cS l) mk_X4_isLane st_X4_isLane ml_X4_225 dX4_film_13 (As := [.int l]) (rest := []) rfl rfl (by decide) (by decide) (Nat.le_of_ble_eq_true rfl) (by decide) (by decide) [] rfl (by decide) (fun u => Nat.le_of_ble_eq_true rfl) (ws' := fun u => loftW cI cS a m v w (seS T C li ap va le) (tpS B L P F) sh kf) (fun u => rfl) (fun u hu => ?_)
    obtain ⟨r_31, rfl⟩ : ∃ z, z = u := ⟨_, rfl⟩
    have h32 : r_31 = if 0 ≤ l ∧ l ≤ 2 then 1 else 0 := hu
    by_cases c33 : 0 ≤ l ∧ l ≤ 2
    · rw [if_pos c33] at h32
      subst h32
      show Go E Q 7 0 0 16 [(4, .ref (a 41)), (0, .ref (a 0)), (1, .int x), (2, .int l), (3, .int i)] [.int 1] (loftW cI cS a m v w (seS T C li ap va le) (tpS B L P F) sh kf)
      refine g_if_ne hE 21 dX4_film_16 (by decide) (fun c34 => ?_) (fun c34 => absurd c34 (by decide))
      refine g_aload hE dX4_film_21 0 rfl ?_
      refine g_iload_n hE dX4_film_23 3 rfl ?_
      refine g_iload_n hE dX4_film_24 4 rfl ?_
      refine g_aload_n hE dX4_film_25 1 rfl ?_
      refine g_get hE fl_X4_10 dX4_film_26 0 rfl rfl ?_
      refine g_get hE fl_X4_51 dX4_film_29 1 rfl rfl ?_
      refine g_callV hE (c_X2_refusal cI cS (fun i => a (i + 41)) (sh 2 0) (sh 2 1 0) (sh 2 1 1) l i (m 9 0)) mk_X2_refusal mv_X2_refusal ml_X4_233 dX4_film_32 (As := [.int l, .int i, .int (m 9 0)]) (rest := []) rfl rfl 41 rfl (show vwCl[2]? = some (RX2, TX2, 3) from rfl) (by decide) (by decide) (Nat.le_of_ble_eq_true rfl) (by decide) (by decide) [41, 42] rfl (by decide) (fun u => Nat.le_of_ble_eq_true rfl) (ws' := fun u => loftW cI cS a m v w (seS T C li ap va le) (tpS B L P F) sh kf) (fun u => rfl) (fun u hu => ?_)
      obtain ⟨r_35, rfl⟩ : ∃ z, z = u := ⟨_, rfl⟩
      have h36 : r_35 = (refS (sh 2 1 0) (sh 2 1 1) l i (m 9 0)) := hu
      subst h36
      show Go E Q 7 0 0 35 [(4, .ref (a 41)), (0, .ref (a 0)), (1, .int x), (2, .int l), (3, .int i)] [.int (refS (sh 2 1 0) (sh 2 1 1) l i (m 9 0))] (loftW cI cS a m v w (seS T C li ap va le) (tpS B L P F) sh kf)
      refine g_istore hE dX4_film_35 [(5, .int (refS (sh 2 1 0) (sh 2 1 1) l i (m 9 0))), (4, .ref (a 41)), (0, .ref (a 0)), (1, .int x), (2, .int l), (3, .int i)] (by decide) rfl ?_
      refine g_iload hE dX4_film_37 0 rfl ?_
      refine g_if_eq hE 45 dX4_film_39 (by decide) (fun c37 => ?_) (fun c37 => ?_)
      · refine g_aload_n hE dX4_film_45 2 rfl ?_
        refine g_get hE fl_X4_10 dX4_film_46 0 rfl rfl ?_
        refine g_callV hE (c_X0_spread cI cS (fun i => a (i + 1)) m (by first | assumption | exact mw_of (by assumption))) mk_X0_spread mv_X0_spread ml_X4_158 dX4_film_49 (As := []) (rest := []) rfl rfl 1 rfl (show vwCl[0]? = some (RX0, TX0, 13) from rfl) (by decide) (by decide) (Nat.le_of_ble_eq_true rfl) (by decide) (by decide) [1, 2, 3, 4, 5, 6, 7, 8, 9, 10] rfl (by decide) (fun u => Nat.le_of_ble_eq_true rfl) (ws' := fun u => loftW cI cS a (pA m 8 u) v w (seS T C li ap va le) (tpS B L P F) sh kf) (fun u => rfl) (fun u hu => ?_)
        obtain ⟨h_38, rfl⟩ : ∃ z, z = u := ⟨_, rfl⟩
        have h39 : ∀ j, j ≤ pl → h_38 j = nI (hpS m n (m 7) pl j) := hu
        show Go E Q 7 0 0 52 [(5, .int (refS (sh 2 1 0) (sh 2 1 1) l i (m 9 0))), (4, .ref (a 41)), (0, .ref (a 0)), (1, .int x), (2, .int l), (3, .int i)] [] (loftW cI cS a (pA m 8 h_38) v w (seS T C li ap va le) (tpS B L P F) sh kf)
        refine g_world (loftW cI cS a (pA m 8 h_38) v w (seS T C li ap va le) (tpS B L P F) (pA sh 2 (shT (flA m n pl (sh 2 0) (sh 2 1 0) i 0) (sh 2 1 0) (sh 2 1 1))) kf) (by rfl) ?_
        refine g_iconst hE dX4_film_52 0 (by decide) ?_
        refine g_istore hE dX4_film_53 [(6, .int 0), (5, .int (refS (sh 2 1 0) (sh 2 1 1) l i (m 9 0))), (4, .ref (a 41)), (0, .ref (a 0)), (1, .int x), (2, .int l), (3, .int i)] (by decide) rfl ?_
        have L55 : ∀ (n_55 : Nat) (g : Nat), (g ≤ n) → (n - g < n_55) → Go E Q 7 0 0 55 [(0, .ref (a 0)), (1, .int x), (2, .int l), (3, .int i), (4, .ref (a 41)), (6, .int (nI g))] [] (loftW cI cS a (pA m 8 h_38) v w (seS T C li ap va le) (tpS B L P F) (pA sh 2 (shT (flA m n pl (sh 2 0) (sh 2 1 0) i g) (sh 2 1 0) (sh 2 1 1))) kf) := by
          intro n_55
          induction n_55 with
          | zero => intro g hg hm_55; exact absurd hm_55 (Nat.not_lt_zero _)
          | succ n_55 ih_55 =>
            intro g hg hm_55
            refine g_iload hE dX4_film_55 5 rfl ?_
            refine g_aload_n hE dX4_film_57 0 rfl ?_
            refine g_get hE fl_X4_10 dX4_film_58 0 rfl rfl ?_
            refine g_get hE fl_X4_51 dX4_film_61 1 rfl rfl ?_
            refine g_icmp_ge hE 91 dX4_film_64 (by decide) (fun c40 => ?_) (fun c40 => ?_)
            · have kc40 := nat_le_t (show (m 9 0) = nI n from hn) (show (nI g) = nI g from rfl) (by omega) (by omega) c40
              refine g_aload_n hE dX4_film_91 0 rfl ?_
              refine g_get hE fl_X4_10 dX4_film_92 0 rfl rfl ?_
              refine g_get hE fl_X4_51 dX4_film_95 1 rfl rfl ?_
              exact g_iret hE hQ dX4_film_98 rfl (2, (m 9 0), (pA sh 2 (shT (flA m n pl (sh 2 0) (sh 2 1 0) i g) (sh 2 1 0) (sh 2 1 1))), h_38) rfl rfl ⟨h2, (by have e : n = g := (by omega); subst e; show ((m 9 0), (pA sh 2 (shT (flA m n pl (sh 2 0) (sh 2 1 0) i n) (sh 2 1 0) (sh 2 1 1)))) = fgFilm m n pl sh 2 l i; simp only [fgFilm, if_neg (show ¬ (2 : Nat) = 4 by decide), if_pos c33, if_pos (show (refS (sh 2 1 0) (sh 2 1 1) l i (m 9 0)) = 0 from c37), if_pos trivial])⟩
            · have kc40 := nat_le_f (show (m 9 0) = nI n from hn) (show (nI g) = nI g from rfl) (by omega) (by omega) c40
              refine g_aload hE dX4_film_67 4 rfl ?_
              refine g_iload_n hE dX4_film_69 3 rfl ?_
              refine g_iload hE dX4_film_70 5 rfl ?_
              refine g_iadd hE dX4_film_72 ?_
              refine g_aload_n hE dX4_film_73 0 rfl ?_
              refine g_get hE fl_X4_10 dX4_film_74 0 rfl rfl ?_
              refine g_iload hE dX4_film_77 5 rfl ?_
              refine g_callV hE (c_X0_heapOf cI cS (fun i => a (i + 1)) (pA m 8 h_38) (by first | assumption | exact mw_of (by assumption)) (nI g) g (show (nI g) = nI g from rfl) (by omega) (hpS m n (m 7) pl) (fun j hj => ⟨h39 j hj, hpS_lt (by assumption)⟩)) mk_X0_heapOf mv_X0_heapOf ml_X4_167 dX4_film_79 (As := [.int (nI g)]) (rest := [.int (i + (nI g)), .ref (a 41)]) rfl rfl 1 rfl (show vwCl[0]? = some (RX0, TX0, 13) from rfl) (by decide) (by decide) (Nat.le_of_ble_eq_true rfl) (by decide) (by decide) [1, 2, 3, 4, 5, 6, 7, 8, 9, 10] rfl (by decide) (fun u => Nat.le_of_ble_eq_true rfl) (ws' := fun u => loftW cI cS a (pA m 8 h_38) v w (seS T C li ap va le) (tpS B L P F) (pA sh 2 (shT (flA m n pl (sh 2 0) (sh 2 1 0) i g) (sh 2 1 0) (sh 2 1 1))) kf) (fun u => rfl) (fun u hu => ?_)
              obtain ⟨r_41, rfl⟩ : ∃ z, z = u := ⟨_, rfl⟩
              have h42 : r_41 = (hoR (hpS m n (m 7) pl) g (pl + 1) 0) := hu
              subst h42
              show Go E Q 7 0 0 82 [(0, .ref (a 0)), (1, .int x), (2, .int l), (3, .int i), (4, .ref (a 41)), (6, .int (nI g))] [.int (hoR (hpS m n (m 7) pl) g (pl + 1) 0), .int (i + (nI g)), .ref (a 41)] (loftW cI cS a (pA m 8 h_38) v w (seS T C li ap va le) (tpS B L P F) (pA sh 2 (shT (flA m n pl (sh 2 0) (sh 2 1 0) i g) (sh 2 1 0) (sh 2 1 1))) kf)
              refine g_callV hE (c_X2_write cI cS (fun i => a (i + 41)) (flA m n pl (sh 2 0) (sh 2 1 0) i g) (sh 2 1 0) (sh 2 1 1) (i + (nI g)) (hoR (hpS m n (m 7) pl) g (pl + 1) 0)) mk_X2_write mv_X2_write ml_X4_251 dX4_film_82 (As := [.int (i + (nI g)), .int (hoR (hpS m n (m 7) pl) g (pl + 1) 0)]) (rest := []) rfl rfl 41 rfl (show vwCl[2]? = some (RX2, TX2, 3) from rfl) (by decide) (by decide) (Nat.le_of_ble_eq_true rfl) (by decide) (by decide) [41, 42] rfl (by decide) (fun u => Nat.le_of_ble_eq_true rfl) (ws' := fun u => loftW cI cS a (pA m 8 h_38) v w (seS T C li ap va le) (tpS B L P F) (pA (pA sh 2 (shT (flA m n pl (sh 2 0) (sh 2 1 0) i g) (sh 2 1 0) (sh 2 1 1))) 2 (shT (putv (flA m n pl (sh 2 0) (sh 2 1 0) i g) 24 (i + (nI g)) (lnS (sh 2 1 0) (hoR (hpS m n (m 7) pl) g (pl + 1) 0))) (sh 2 1 0) (sh 2 1 1))) kf) (fun u => rfl) (fun u hu => ?_)
              show Go E Q 7 0 0 85 [(0, .ref (a 0)), (1, .int x), (2, .int l), (3, .int i), (4, .ref (a 41)), (6, .int (nI g))] [] (loftW cI cS a (pA m 8 h_38) v w (seS T C li ap va le) (tpS B L P F) (pA (pA sh 2 (shT (flA m n pl (sh 2 0) (sh 2 1 0) i g) (sh 2 1 0) (sh 2 1 1))) 2 (shT (putv (flA m n pl (sh 2 0) (sh 2 1 0) i g) 24 (i + (nI g)) (lnS (sh 2 1 0) (hoR (hpS m n (m 7) pl) g (pl + 1) 0))) (sh 2 1 0) (sh 2 1 1))) kf)
              refine g_iinc hE dX4_film_85 5 (nI (g + 1)) [(6, .int (nI (g + 1))), (0, .ref (a 0)), (1, .int x), (2, .int l), (3, .int i), (4, .ref (a 41))] rfl (nI_1 _) (by decide) rfl ?_
              refine g_goto hE 55 dX4_film_88 (by decide) ?_
              refine g_locals [1, 2, 3, 4, 5, 0] [(0, .ref (a 0)), (1, .int x), (2, .int l), (3, .int i), (4, .ref (a 41)), (6, .int (nI (g + 1)))] rfl ?_
              exact ih_55 (g + 1) (by first | assumption | omega) (by omega)
        refine g_locals [3, 4, 5, 6, 2, 0] [(0, .ref (a 0)), (1, .int x), (2, .int l), (3, .int i), (4, .ref (a 41)), (6, .int 0)] rfl ?_
        exact L55 _ 0 (Nat.zero_le _) (Nat.lt_succ_self _)
      · refine g_iload hE dX4_film_42 0 rfl ?_
        refine g_world (loftW cI cS a (pA m 8 (m 8)) v w (seS T C li ap va le) (tpS B L P F) sh kf) (by rfl) ?_
        exact g_iret hE hQ dX4_film_44 rfl (2, (refS (sh 2 1 0) (sh 2 1 1) l i (m 9 0)), sh, (m 8)) rfl rfl ⟨h2, (by show ((refS (sh 2 1 0) (sh 2 1 1) l i (m 9 0)), sh) = fgFilm m n pl sh 2 l i; simp only [fgFilm, if_neg (show ¬ (2 : Nat) = 4 by decide), if_pos c33, if_neg (show ¬ (refS (sh 2 1 0) (sh 2 1 1) l i (m 9 0)) = 0 from c37), if_pos trivial])⟩
    · rw [if_neg c33] at h32
      subst h32
      show Go E Q 7 0 0 16 [(4, .ref (a 41)), (0, .ref (a 0)), (1, .int x), (2, .int l), (3, .int i)] [.int 0] (loftW cI cS a m v w (seS T C li ap va le) (tpS B L P F) sh kf)
      refine g_if_ne hE 21 dX4_film_16 (by decide) (fun c44 => absurd (by decide) c44) (fun c44 => ?_)
      refine g_iconst hE dX4_film_19 (-1) (by decide) ?_
      refine g_world (loftW cI cS a (pA m 8 (m 8)) v w (seS T C li ap va le) (tpS B L P F) sh kf) (by rfl) ?_
      exact g_iret hE hQ dX4_film_20 rfl (2, (-1), sh, (m 8)) rfl rfl ⟨h2, (by show ((-1), sh) = fgFilm m n pl sh 2 l i; simp only [fgFilm, if_neg (show ¬ (2 : Nat) = 4 by decide), if_neg c33, if_pos trivial])⟩
  · show Go E Q 7 0 0 5 [(0, .ref (a 0)), (1, .int x), (2, .int l), (3, .int i)] [.ref (a 43)] (loftW cI cS a m v w (seS T C li ap va le) (tpS B L P F) sh kf)
    refine g_astore hE dX4_film_5 [(4, .ref (a 43)), (0, .ref (a 0)), (1, .int x), (2, .int l), (3, .int i)] (by decide) rfl ?_
    refine g_aload hE dX4_film_7 0 rfl ?_
    refine g_ifnull hE dX4_film_9 ?_
    refine g_iload_n hE dX4_film_12 3 rfl ?_
    refine g_callS hE (c_X4_isLane cI cS l) mk_X4_isLane st_X4_isLane ml_X4_225 dX4_film_13 (As := [.int l]) (rest := []) rfl rfl (by decide) (by decide) (Nat.le_of_ble_eq_true rfl) (by decide) (by decide) [] rfl (by decide) (fun u => Nat.le_of_ble_eq_true rfl) (ws' := fun u => loftW cI cS a m v w (seS T C li ap va le) (tpS B L P F) sh kf) (fun u => rfl) (fun u hu => ?_)
    obtain ⟨r_45, rfl⟩ : ∃ z, z = u := ⟨_, rfl⟩
    have h46 : r_45 = if 0 ≤ l ∧ l ≤ 2 then 1 else 0 := hu
    by_cases c47 : 0 ≤ l ∧ l ≤ 2
    · rw [if_pos c47] at h46
      subst h46
      show Go E Q 7 0 0 16 [(4, .ref (a 43)), (0, .ref (a 0)), (1, .int x), (2, .int l), (3, .int i)] [.int 1] (loftW cI cS a m v w (seS T C li ap va le) (tpS B L P F) sh kf)
      refine g_if_ne hE 21 dX4_film_16 (by decide) (fun c48 => ?_) (fun c48 => absurd c48 (by decide))
      refine g_aload hE dX4_film_21 0 rfl ?_
      refine g_iload_n hE dX4_film_23 3 rfl ?_
      refine g_iload_n hE dX4_film_24 4 rfl ?_
      refine g_aload_n hE dX4_film_25 1 rfl ?_
      refine g_get hE fl_X4_10 dX4_film_26 0 rfl rfl ?_
      refine g_get hE fl_X4_51 dX4_film_29 1 rfl rfl ?_
      refine g_callV hE (c_X2_refusal cI cS (fun i => a (i + 43)) (sh 3 0) (sh 3 1 0) (sh 3 1 1) l i (m 9 0)) mk_X2_refusal mv_X2_refusal ml_X4_233 dX4_film_32 (As := [.int l, .int i, .int (m 9 0)]) (rest := []) rfl rfl 43 rfl (show vwCl[2]? = some (RX2, TX2, 3) from rfl) (by decide) (by decide) (Nat.le_of_ble_eq_true rfl) (by decide) (by decide) [43, 44] rfl (by decide) (fun u => Nat.le_of_ble_eq_true rfl) (ws' := fun u => loftW cI cS a m v w (seS T C li ap va le) (tpS B L P F) sh kf) (fun u => rfl) (fun u hu => ?_)
      obtain ⟨r_49, rfl⟩ : ∃ z, z = u := ⟨_, rfl⟩
      have h50 : r_49 = (refS (sh 3 1 0) (sh 3 1 1) l i (m 9 0)) := hu
      subst h50
      show Go E Q 7 0 0 35 [(4, .ref (a 43)), (0, .ref (a 0)), (1, .int x), (2, .int l), (3, .int i)] [.int (refS (sh 3 1 0) (sh 3 1 1) l i (m 9 0))] (loftW cI cS a m v w (seS T C li ap va le) (tpS B L P F) sh kf)
      refine g_istore hE dX4_film_35 [(5, .int (refS (sh 3 1 0) (sh 3 1 1) l i (m 9 0))), (4, .ref (a 43)), (0, .ref (a 0)), (1, .int x), (2, .int l), (3, .int i)] (by decide) rfl ?_
      refine g_iload hE dX4_film_37 0 rfl ?_
      refine g_if_eq hE 45 dX4_film_39 (by decide) (fun c51 => ?_) (fun c51 => ?_)
      · refine g_aload_n hE dX4_film_45 2 rfl ?_
        refine g_get hE fl_X4_10 dX4_film_46 0 rfl rfl ?_
        refine g_callV hE (c_X0_spread cI cS (fun i => a (i + 1)) m (by first | assumption | exact mw_of (by assumption))) mk_X0_spread mv_X0_spread ml_X4_158 dX4_film_49 (As := []) (rest := []) rfl rfl 1 rfl (show vwCl[0]? = some (RX0, TX0, 13) from rfl) (by decide) (by decide) (Nat.le_of_ble_eq_true rfl) (by decide) (by decide) [1, 2, 3, 4, 5, 6, 7, 8, 9, 10] rfl (by decide) (fun u => Nat.le_of_ble_eq_true rfl) (ws' := fun u => loftW cI cS a (pA m 8 u) v w (seS T C li ap va le) (tpS B L P F) sh kf) (fun u => rfl) (fun u hu => ?_)
        obtain ⟨h_52, rfl⟩ : ∃ z, z = u := ⟨_, rfl⟩
        have h53 : ∀ j, j ≤ pl → h_52 j = nI (hpS m n (m 7) pl j) := hu
        show Go E Q 7 0 0 52 [(5, .int (refS (sh 3 1 0) (sh 3 1 1) l i (m 9 0))), (4, .ref (a 43)), (0, .ref (a 0)), (1, .int x), (2, .int l), (3, .int i)] [] (loftW cI cS a (pA m 8 h_52) v w (seS T C li ap va le) (tpS B L P F) sh kf)
        refine g_world (loftW cI cS a (pA m 8 h_52) v w (seS T C li ap va le) (tpS B L P F) (pA sh 3 (shT (flA m n pl (sh 3 0) (sh 3 1 0) i 0) (sh 3 1 0) (sh 3 1 1))) kf) (by rfl) ?_
        refine g_iconst hE dX4_film_52 0 (by decide) ?_
        refine g_istore hE dX4_film_53 [(6, .int 0), (5, .int (refS (sh 3 1 0) (sh 3 1 1) l i (m 9 0))), (4, .ref (a 43)), (0, .ref (a 0)), (1, .int x), (2, .int l), (3, .int i)] (by decide) rfl ?_
        have L55 : ∀ (n_55 : Nat) (g : Nat), (g ≤ n) → (n - g < n_55) → Go E Q 7 0 0 55 [(0, .ref (a 0)), (1, .int x), (2, .int l), (3, .int i), (4, .ref (a 43)), (6, .int (nI g))] [] (loftW cI cS a (pA m 8 h_52) v w (seS T C li ap va le) (tpS B L P F) (pA sh 3 (shT (flA m n pl (sh 3 0) (sh 3 1 0) i g) (sh 3 1 0) (sh 3 1 1))) kf) := by
          intro n_55
          induction n_55 with
          | zero => intro g hg hm_55; exact absurd hm_55 (Nat.not_lt_zero _)
          | succ n_55 ih_55 =>
            intro g hg hm_55
            refine g_iload hE dX4_film_55 5 rfl ?_
            refine g_aload_n hE dX4_film_57 0 rfl ?_
            refine g_get hE fl_X4_10 dX4_film_58 0 rfl rfl ?_
            refine g_get hE fl_X4_51 dX4_film_61 1 rfl rfl ?_
            refine g_icmp_ge hE 91 dX4_film_64 (by decide) (fun c54 => ?_) (fun c54 => ?_)
            · have kc54 := nat_le_t (show (m 9 0) = nI n from hn) (show (nI g) = nI g from rfl) (by omega) (by omega) c54
              refine g_aload_n hE dX4_film_91 0 rfl ?_
              refine g_get hE fl_X4_10 dX4_film_92 0 rfl rfl ?_
              refine g_get hE fl_X4_51 dX4_film_95 1 rfl rfl ?_
              exact g_iret hE hQ dX4_film_98 rfl (3, (m 9 0), (pA sh 3 (shT (flA m n pl (sh 3 0) (sh 3 1 0) i g) (sh 3 1 0) (sh 3 1 1))), h_52) rfl rfl ⟨h2, (by have e : n = g := (by omega); subst e; show ((m 9 0), (pA sh 3 (shT (flA m n pl (sh 3 0) (sh 3 1 0) i n) (sh 3 1 0) (sh 3 1 1)))) = fgFilm m n pl sh 3 l i; simp only [fgFilm, if_neg (show ¬ (3 : Nat) = 4 by decide), if_pos c47, if_pos (show (refS (sh 3 1 0) (sh 3 1 1) l i (m 9 0)) = 0 from c51), if_pos trivial])⟩
            · have kc54 := nat_le_f (show (m 9 0) = nI n from hn) (show (nI g) = nI g from rfl) (by omega) (by omega) c54
              refine g_aload hE dX4_film_67 4 rfl ?_
              refine g_iload_n hE dX4_film_69 3 rfl ?_
              refine g_iload hE dX4_film_70 5 rfl ?_
              refine g_iadd hE dX4_film_72 ?_
              refine g_aload_n hE dX4_film_73 0 rfl ?_
              refine g_get hE fl_X4_10 dX4_film_74 0 rfl rfl ?_
              refine g_iload hE dX4_film_77 5 rfl ?_
              refine g_callV hE (c_X0_heapOf cI cS (fun i => a (i + 1)) (pA m 8 h_52) (by first | assumption | exact mw_of (by assumption)) (nI g) g (show (nI g) = nI g from rfl) (by omega) (hpS m n (m 7) pl) (fun j hj => ⟨h53 j hj, hpS_lt (by assumption)⟩)) mk_X0_heapOf mv_X0_heapOf ml_X4_167 dX4_film_79 (As := [.int (nI g)]) (rest := [.int (i + (nI g)), .ref (a 43)]) rfl rfl 1 rfl (show vwCl[0]? = some (RX0, TX0, 13) from rfl) (by decide) (by decide) (Nat.le_of_ble_eq_true rfl) (by decide) (by decide) [1, 2, 3, 4, 5, 6, 7, 8, 9, 10] rfl (by decide) (fun u => Nat.le_of_ble_eq_true rfl) (ws' := fun u => loftW cI cS a (pA m 8 h_52) v w (seS T C li ap va le) (tpS B L P F) (pA sh 3 (shT (flA m n pl (sh 3 0) (sh 3 1 0) i g) (sh 3 1 0) (sh 3 1 1))) kf) (fun u => rfl) (fun u hu => ?_)
              obtain ⟨r_55, rfl⟩ : ∃ z, z = u := ⟨_, rfl⟩
              have h56 : r_55 = (hoR (hpS m n (m 7) pl) g (pl + 1) 0) := hu
              subst h56
              show Go E Q 7 0 0 82 [(0, .ref (a 0)), (1, .int x), (2, .int l), (3, .int i), (4, .ref (a 43)), (6, .int (nI g))] [.int (hoR (hpS m n (m 7) pl) g (pl + 1) 0), .int (i + (nI g)), .ref (a 43)] (loftW cI cS a (pA m 8 h_52) v w (seS T C li ap va le) (tpS B L P F) (pA sh 3 (shT (flA m n pl (sh 3 0) (sh 3 1 0) i g) (sh 3 1 0) (sh 3 1 1))) kf)
              refine g_callV hE (c_X2_write cI cS (fun i => a (i + 43)) (flA m n pl (sh 3 0) (sh 3 1 0) i g) (sh 3 1 0) (sh 3 1 1) (i + (nI g)) (hoR (hpS m n (m 7) pl) g (pl + 1) 0)) mk_X2_write mv_X2_write ml_X4_251 dX4_film_82 (As := [.int (i + (nI g)), .int (hoR (hpS m n (m 7) pl) g (pl + 1) 0)]) (rest := []) rfl rfl 43 rfl (show vwCl[2]? = some (RX2, TX2, 3) from rfl) (by decide) (by decide) (Nat.le_of_ble_eq_true rfl) (by decide) (by decide) [43, 44] rfl (by decide) (fun u => Nat.le_of_ble_eq_true rfl) (ws' := fun u => loftW cI cS a (pA m 8 h_52) v w (seS T C li ap va le) (tpS B L P F) (pA (pA sh 3 (shT (flA m n pl (sh 3 0) (sh 3 1 0) i g) (sh 3 1 0) (sh 3 1 1))) 3 (shT (putv (flA m n pl (sh 3 0) (sh 3 1 0) i g) 24 (i + (nI g)) (lnS (sh 3 1 0) (hoR (hpS m n (m 7) pl) g (pl + 1) 0))) (sh 3 1 0) (sh 3 1 1))) kf) (fun u => rfl) (fun u hu => ?_)
              show Go E Q 7 0 0 85 [(0, .ref (a 0)), (1, .int x), (2, .int l), (3, .int i), (4, .ref (a 43)), (6, .int (nI g))] [] (loftW cI cS a (pA m 8 h_52) v w (seS T C li ap va le) (tpS B L P F) (pA (pA sh 3 (shT (flA m n pl (sh 3 0) (sh 3 1 0) i g) (sh 3 1 0) (sh 3 1 1))) 3 (shT (putv (flA m n pl (sh 3 0) (sh 3 1 0) i g) 24 (i + (nI g)) (lnS (sh 3 1 0) (hoR (hpS m n (m 7) pl) g (pl + 1) 0))) (sh 3 1 0) (sh 3 1 1))) kf)
              refine g_iinc hE dX4_film_85 5 (nI (g + 1)) [(6, .int (nI (g + 1))), (0, .ref (a 0)), (1, .int x), (2, .int l), (3, .int i), (4, .ref (a 43))] rfl (nI_1 _) (by decide) rfl ?_
              refine g_goto hE 55 dX4_film_88 (by decide) ?_
              refine g_locals [1, 2, 3, 4, 5, 0] [(0, .ref (a 0)), (1, .int x), (2, .int l), (3, .int i), (4, .ref (a 43)), (6, .int (nI (g + 1)))] rfl ?_
              exact ih_55 (g + 1) (by first | assumption | omega) (by omega)
        refine g_locals [3, 4, 5, 6, 2, 0] [(0, .ref (a 0)), (1, .int x), (2, .int l), (3, .int i), (4, .ref (a 43)), (6, .int 0)] rfl ?_
        exact L55 _ 0 (Nat.zero_le _) (Nat.lt_succ_self _)
      · refine g_iload hE dX4_film_42 0 rfl ?_
        refine g_world (loftW cI cS a (pA m 8 (m 8)) v w (seS T C li ap va le) (tpS B L P F) sh kf) (by rfl) ?_
        exact g_iret hE hQ dX4_film_44 rfl (3, (refS (sh 3 1 0) (sh 3 1 1) l i (m 9 0)), sh, (m 8)) rfl rfl ⟨h2, (by show ((refS (sh 3 1 0) (sh 3 1 1) l i (m 9 0)), sh) = fgFilm m n pl sh 3 l i; simp only [fgFilm, if_neg (show ¬ (3 : Nat) = 4 by decide), if_pos c47, if_neg (show ¬ (refS (sh 3 1 0) (sh 3 1 1) l i (m 9 0)) = 0 from c51), if_pos trivial])⟩
    · rw [if_neg c47] at h46
      subst h46
      show Go E Q 7 0 0 16 [(4, .ref (a 43)), (0, .ref (a 0)), (1, .int x), (2, .int l), (3, .int i)] [.int 0] (loftW cI cS a m v w (seS T C li ap va le) (tpS B L P F) sh kf)
      refine g_if_ne hE 21 dX4_film_16 (by decide) (fun c58 => absurd (by decide) c58) (fun c58 => ?_)
      refine g_iconst hE dX4_film_19 (-1) (by decide) ?_
      refine g_world (loftW cI cS a (pA m 8 (m 8)) v w (seS T C li ap va le) (tpS B L P F) sh kf) (by rfl) ?_
      exact g_iret hE hQ dX4_film_20 rfl (3, (-1), sh, (m 8)) rfl rfl ⟨h2, (by show ((-1), sh) = fgFilm m n pl sh 3 l i; simp only [fgFilm, if_neg (show ¬ (3 : Nat) = 4 by decide), if_neg c47, if_pos trivial])⟩
  · show Go E Q 7 0 0 5 [(0, .ref (a 0)), (1, .int x), (2, .int l), (3, .int i)] [.null] (loftW cI cS a m v w (seS T C li ap va le) (tpS B L P F) sh kf)
    refine g_astoreN hE dX4_film_5 [(4, .null), (0, .ref (a 0)), (1, .int x), (2, .int l), (3, .int i)] (by decide) rfl ?_
    refine g_aloadN hE dX4_film_7 0 rfl ?_
    refine g_ifnullN hE 19 dX4_film_9 (by decide) ?_
    refine g_iconst hE dX4_film_19 (-1) (by decide) ?_
    refine g_world (loftW cI cS a (pA m 8 (m 8)) v w (seS T C li ap va le) (tpS B L P F) sh kf) (by rfl) ?_
    exact g_iret hE hQ dX4_film_20 rfl (4, (-1), sh, (m 8)) rfl rfl ⟨h2, (by show ((-1), sh) = fgFilm m n pl sh 4 l i; simp only [fgFilm, if_pos (show (4 : Nat) = 4 by decide), if_pos trivial])⟩
