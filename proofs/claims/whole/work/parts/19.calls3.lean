/-! the loft's calls: lofts, heaps, rows -/
def fgLoft (m v : MS) (B : Nat → Int32) (L : Nat) : Int32 × MS := if (enF B L (rlS B L 8 1 0 0 (-1) (pA v 9 (upd (v 9) 1 0))).1 (rlS B L 8 1 0 0 (-1) (pA v 9 (upd (v 9) 1 0))).2.1) < 0 then ((rlS B L 8 1 0 0 (-1) (pA v 9 (upd (v 9) 1 0))).2.2 9 1, pA (tkV m (rlS B L 8 1 0 0 (-1) (pA v 9 (upd (v 9) 1 0))).2.2) 9 (upd (tkV m (rlS B L 8 1 0 0 (-1) (pA v 9 (upd (v 9) 1 0))).2.2 9) 2 0)) else (-20 - (enF B L (rlS B L 8 1 0 0 (-1) (pA v 9 (upd (v 9) 1 0))).1 (rlS B L 8 1 0 0 (-1) (pA v 9 (upd (v 9) 1 0))).2.1), m)
def fgHeap (m v : MS) (B : Nat → Int32) (L : Nat) : Int32 × MS := if (enF B L (rhS B L 6 1 0 0 (-1) (pA v 9 (upd (v 9) 0 0))).1 (rhS B L 6 1 0 0 (-1) (pA v 9 (upd (v 9) 0 0))).2.1) < 0 then ((rhS B L 6 1 0 0 (-1) (pA v 9 (upd (v 9) 0 0))).2.2 9 0, tkG m (rhS B L 6 1 0 0 (-1) (pA v 9 (upd (v 9) 0 0))).2.2) else (-20 - (enF B L (rhS B L 6 1 0 0 (-1) (pA v 9 (upd (v 9) 0 0))).1 (rhS B L 6 1 0 0 (-1) (pA v 9 (upd (v 9) 0 0))).2.1), m)
def fgRow (m v : MS) (B : Nat → Int32) (L : Nat) : Int32 × MS := if (enF B L (rrS B L (m 9 1) 6 1 0 0 (pA v 9 (upd (v 9) 2 0))).1 (-1)) < 0 then ((rrS B L (m 9 1) 6 1 0 0 (pA v 9 (upd (v 9) 2 0))).2.2 9 2, tkR m (rrS B L (m 9 1) 6 1 0 0 (pA v 9 (upd (v 9) 2 0))).2.2) else (-20 - (enF B L (rrS B L (m 9 1) 6 1 0 0 (pA v 9 (upd (v 9) 2 0))).1 (-1)), m)
set_option maxHeartbeats 4000000 in
set_option maxRecDepth 100000 in
theorem c_X4_loft (cI cS : ClassId) (a : Nat → Nat) (m v w : Nat → Nat → Int32) (T C : Nat → Int32) (li ap va le : Int32) (B : Nat → Int32) (L P : Nat) (F : Int32) (sh : Nat → Nat → Nat → Int32) (kf : Int32) {n sv pl n1 sv1 pl1 n2 sv2 pl2 : Nat} (hM : MW m n sv pl) (hV : MW v n1 sv1 pl1) (hW : MW w n2 sv2 pl2) (hL : L ≤ 120) : CT cI cS yX4_loft cX4_loft 1 (some .int) 6 [.ref (a 0)] (loftW cI cS a m v w (seS T C li ap va le) (tpS B L P F) sh kf) 0 0 (fun u : Int32 × (Nat → Nat → Int32) => (u.1, u.2) = fgLoft m v B L ∧ ∃ j, j ≤ 8 ∧ MW (rlS B L 8 1 0 0 (-1) (pA v 9 (upd (v 9) 1 0))).2.2 n1 j pl1) (fun u => some (.int u.1)) (fun u => (loftW cI cS a u.2 ((rlS B L 8 1 0 0 (-1) (pA v 9 (upd (v 9) 1 0))).2.2) w (seS T C li ap va le) (tpS B 0 (sk B L (rlS B L 8 1 0 0 (-1) (pA v 9 (upd (v 9) 1 0))).1) (enF B L (rlS B L 8 1 0 0 (-1) (pA v 9 (upd (v 9) 1 0))).1 (rlS B L 8 1 0 0 (-1) (pA v 9 (upd (v 9) 1 0))).2.1)) sh kf)) := by
  refine ct_intro (by decide) (Nat.le_of_ble_eq_true rfl) (fun E Q hE hQ hI => ?_)
  have hE : CxOk E cI cS RX4 cX4_loft 1 (some .int) 6 0 0 := hE
  show Go E Q 1 0 0 0 [(0, .ref (a 0))] [] (loftW cI cS a m v w (seS T C li ap va le) (tpS B L P F) sh kf)
  have hn := hM.1
  have hn6 := hM.2.1
  have hsv := hM.2.2.1
  have hsv8 := hM.2.2.2.1
  have hpl := hM.2.2.2.2.1
  have hpl6 := hM.2.2.2.2.2
  have hn1 := hV.1
  have hn16 := hV.2.1
  have hsv1 := hV.2.2.1
  have hsv18 := hV.2.2.2.1
  have hpl1 := hV.2.2.2.2.1
  have hpl16 := hV.2.2.2.2.2
  refine g_aload_n hE dX4_loft_0 0 rfl ?_
  refine g_get hE fl_X4_36 dX4_loft_1 0 rfl rfl ?_
  refine g_aload_n hE dX4_loft_4 0 rfl ?_
  refine g_get hE fl_X4_16 dX4_loft_5 0 rfl rfl ?_
  refine g_callV hE (c_X3_readLoft cI cS (fun i => a (i + 11)) (fun i => a (i + 34)) v B L P F (by first | assumption | exact mw_of (by assumption)) hL) mk_X3_readLoft mv_X3_readLoft ml_X4_115 dX4_loft_8 (As := [.ref (a 11)]) (rest := []) rfl rfl 34 rfl (show vwCl[3]? = some (RX3, TX3, 4) from rfl) (by decide) (by decide) (Nat.le_of_ble_eq_true rfl) (by decide) (by decide) [11, 12, 13, 14, 15, 16, 17, 18, 19, 20, 34, 35] rfl (by decide) (fun u => Nat.le_of_ble_eq_true rfl) (ws' := fun u => loftW cI cS a m ((rlS B L 8 1 0 0 (-1) (pA v 9 (upd (v 9) 1 0))).2.2) w (seS T C li ap va le) (tpS B 0 (sk B L (rlS B L 8 1 0 0 (-1) (pA v 9 (upd (v 9) 1 0))).1) (enF B L (rlS B L 8 1 0 0 (-1) (pA v 9 (upd (v 9) 1 0))).1 (rlS B L 8 1 0 0 (-1) (pA v 9 (upd (v 9) 1 0))).2.1)) sh kf) (fun u => rfl) (fun u hu => ?_)
  have h1 : ∃ j, j ≤ 8 ∧ MW (rlS B L 8 1 0 0 (-1) (pA v 9 (upd (v 9) 1 0))).2.2 n1 j pl1 := hu
  show Go E Q 1 0 0 11 [(0, .ref (a 0))] [] (loftW cI cS a m ((rlS B L 8 1 0 0 (-1) (pA v 9 (upd (v 9) 1 0))).2.2) w (seS T C li ap va le) (tpS B 0 (sk B L (rlS B L 8 1 0 0 (-1) (pA v 9 (upd (v 9) 1 0))).1) (enF B L (rlS B L 8 1 0 0 (-1) (pA v 9 (upd (v 9) 1 0))).1 (rlS B L 8 1 0 0 (-1) (pA v 9 (upd (v 9) 1 0))).2.1)) sh kf)
  refine g_aload_n hE dX4_loft_11 0 rfl ?_
  refine g_get hE fl_X4_36 dX4_loft_12 0 rfl rfl ?_
  refine g_get hE fl_X4_119 dX4_loft_15 34 rfl rfl ?_
  refine g_if_ge hE 40 dX4_loft_18 (by decide) (fun c2 => ?_) (fun c2 => ?_)
  · refine g_aload_n hE dX4_loft_40 0 rfl ?_
    refine g_get hE fl_X4_36 dX4_loft_41 0 rfl rfl ?_
    refine g_aload_n hE dX4_loft_44 0 rfl ?_
    refine g_get hE fl_X4_10 dX4_loft_45 0 rfl rfl ?_
    refine g_get hE fl_X4_78 dX4_loft_48 1 rfl rfl ?_
    refine g_callV hE (c_X3_answerOr cI cS (fun i => a (i + 34)) B 0 (sk B L (rlS B L 8 1 0 0 (-1) (pA v 9 (upd (v 9) 1 0))).1) (enF B L (rlS B L 8 1 0 0 (-1) (pA v 9 (upd (v 9) 1 0))).1 (rlS B L 8 1 0 0 (-1) (pA v 9 (upd (v 9) 1 0))).2.1) (Nat.zero_le _) (m 9 1)) mk_X3_answerOr mv_X3_answerOr ml_X4_128 dX4_loft_51 (As := [.int (m 9 1)]) (rest := []) rfl rfl 34 rfl (show vwCl[3]? = some (RX3, TX3, 4) from rfl) (by decide) (by decide) (Nat.le_of_ble_eq_true rfl) (by decide) (by decide) [34, 35] rfl (by decide) (fun u => Nat.le_of_ble_eq_true rfl) (ws' := fun u => loftW cI cS a m ((rlS B L 8 1 0 0 (-1) (pA v 9 (upd (v 9) 1 0))).2.2) w (seS T C li ap va le) (tpS B 0 (sk B L (rlS B L 8 1 0 0 (-1) (pA v 9 (upd (v 9) 1 0))).1) (enF B L (rlS B L 8 1 0 0 (-1) (pA v 9 (upd (v 9) 1 0))).1 (rlS B L 8 1 0 0 (-1) (pA v 9 (upd (v 9) 1 0))).2.1)) sh kf) (fun u => rfl) (fun u hu => ?_)
    obtain ⟨r_3, rfl⟩ : ∃ z, z = u := ⟨_, rfl⟩
    have h4 : r_3 = (if (enF B L (rlS B L 8 1 0 0 (-1) (pA v 9 (upd (v 9) 1 0))).1 (rlS B L 8 1 0 0 (-1) (pA v 9 (upd (v 9) 1 0))).2.1) < 0 then (m 9 1) else -20 - (enF B L (rlS B L 8 1 0 0 (-1) (pA v 9 (upd (v 9) 1 0))).1 (rlS B L 8 1 0 0 (-1) (pA v 9 (upd (v 9) 1 0))).2.1)) := hu
    subst h4
    show Go E Q 1 0 0 54 [(0, .ref (a 0))] [.int (if (enF B L (rlS B L 8 1 0 0 (-1) (pA v 9 (upd (v 9) 1 0))).1 (rlS B L 8 1 0 0 (-1) (pA v 9 (upd (v 9) 1 0))).2.1) < 0 then (m 9 1) else -20 - (enF B L (rlS B L 8 1 0 0 (-1) (pA v 9 (upd (v 9) 1 0))).1 (rlS B L 8 1 0 0 (-1) (pA v 9 (upd (v 9) 1 0))).2.1))] (loftW cI cS a m ((rlS B L 8 1 0 0 (-1) (pA v 9 (upd (v 9) 1 0))).2.2) w (seS T C li ap va le) (tpS B 0 (sk B L (rlS B L 8 1 0 0 (-1) (pA v 9 (upd (v 9) 1 0))).1) (enF B L (rlS B L 8 1 0 0 (-1) (pA v 9 (upd (v 9) 1 0))).1 (rlS B L 8 1 0 0 (-1) (pA v 9 (upd (v 9) 1 0))).2.1)) sh kf)
    exact g_iret hE hQ dX4_loft_54 rfl ((if (enF B L (rlS B L 8 1 0 0 (-1) (pA v 9 (upd (v 9) 1 0))).1 (rlS B L 8 1 0 0 (-1) (pA v 9 (upd (v 9) 1 0))).2.1) < 0 then (m 9 1) else -20 - (enF B L (rlS B L 8 1 0 0 (-1) (pA v 9 (upd (v 9) 1 0))).1 (rlS B L 8 1 0 0 (-1) (pA v 9 (upd (v 9) 1 0))).2.1)), m) rfl rfl ⟨by first | (rw [fgLoft, if_neg (show ¬ (enF B L (rlS B L 8 1 0 0 (-1) (pA v 9 (upd (v 9) 1 0))).1 (rlS B L 8 1 0 0 (-1) (pA v 9 (upd (v 9) 1 0))).2.1) < 0 from (Int32.not_lt.mpr c2)), if_neg (show ¬ (enF B L (rlS B L 8 1 0 0 (-1) (pA v 9 (upd (v 9) 1 0))).1 (rlS B L 8 1 0 0 (-1) (pA v 9 (upd (v 9) 1 0))).2.1) < 0 from (Int32.not_lt.mpr c2))]; done) | (rw [fgLoft, if_neg (show ¬ (enF B L (rlS B L 8 1 0 0 (-1) (pA v 9 (upd (v 9) 1 0))).1 (rlS B L 8 1 0 0 (-1) (pA v 9 (upd (v 9) 1 0))).2.1) < 0 from (Int32.not_lt.mpr c2)), if_neg (show ¬ (enF B L (rlS B L 8 1 0 0 (-1) (pA v 9 (upd (v 9) 1 0))).1 (rlS B L 8 1 0 0 (-1) (pA v 9 (upd (v 9) 1 0))).2.1) < 0 from (Int32.not_lt.mpr c2))]; rfl), h1⟩
  · refine g_aload_n hE dX4_loft_21 0 rfl ?_
    refine g_get hE fl_X4_10 dX4_loft_22 0 rfl rfl ?_
    refine g_aload_n hE dX4_loft_25 0 rfl ?_
    refine g_get hE fl_X4_16 dX4_loft_26 0 rfl rfl ?_
    refine g_callV hE (c_X0_takeSieves cI cS (fun i => a (i + 1)) (fun i => a (i + 11)) m ((rlS B L 8 1 0 0 (-1) (pA v 9 (upd (v 9) 1 0))).2.2)) mk_X0_takeSieves mv_X0_takeSieves ml_X4_122 dX4_loft_29 (As := [.ref (a 11)]) (rest := []) rfl rfl 1 rfl (show vwCl[0]? = some (RX0, TX0, 13) from rfl) (by decide) (by decide) (Nat.le_of_ble_eq_true rfl) (by decide) (by decide) [1, 2, 3, 4, 5, 6, 7, 8, 9, 10, 11, 12, 13, 14, 15, 16, 17, 18, 19, 20] rfl (by decide) (fun u => Nat.le_of_ble_eq_true rfl) (ws' := fun u => loftW cI cS a (tkV m ((rlS B L 8 1 0 0 (-1) (pA v 9 (upd (v 9) 1 0))).2.2)) ((rlS B L 8 1 0 0 (-1) (pA v 9 (upd (v 9) 1 0))).2.2) w (seS T C li ap va le) (tpS B 0 (sk B L (rlS B L 8 1 0 0 (-1) (pA v 9 (upd (v 9) 1 0))).1) (enF B L (rlS B L 8 1 0 0 (-1) (pA v 9 (upd (v 9) 1 0))).1 (rlS B L 8 1 0 0 (-1) (pA v 9 (upd (v 9) 1 0))).2.1)) sh kf) (fun u => rfl) (fun u hu => ?_)
    show Go E Q 1 0 0 32 [(0, .ref (a 0))] [] (loftW cI cS a (tkV m ((rlS B L 8 1 0 0 (-1) (pA v 9 (upd (v 9) 1 0))).2.2)) ((rlS B L 8 1 0 0 (-1) (pA v 9 (upd (v 9) 1 0))).2.2) w (seS T C li ap va le) (tpS B 0 (sk B L (rlS B L 8 1 0 0 (-1) (pA v 9 (upd (v 9) 1 0))).1) (enF B L (rlS B L 8 1 0 0 (-1) (pA v 9 (upd (v 9) 1 0))).1 (rlS B L 8 1 0 0 (-1) (pA v 9 (upd (v 9) 1 0))).2.1)) sh kf)
    refine g_aload_n hE dX4_loft_32 0 rfl ?_
    refine g_get hE fl_X4_10 dX4_loft_33 0 rfl rfl ?_
    refine g_iconst hE dX4_loft_36 0 (by decide) ?_
    refine g_put hE fl_X4_125 fp_0_2 dX4_loft_37 1 rfl rfl rfl (Nat.le_of_ble_eq_true rfl) (loftW cI cS a (pA (tkV m ((rlS B L 8 1 0 0 (-1) (pA v 9 (upd (v 9) 1 0))).2.2)) 9 (upd ((tkV m ((rlS B L 8 1 0 0 (-1) (pA v 9 (upd (v 9) 1 0))).2.2)) 9) 2 0)) ((rlS B L 8 1 0 0 (-1) (pA v 9 (upd (v 9) 1 0))).2.2) w (seS T C li ap va le) (tpS B 0 (sk B L (rlS B L 8 1 0 0 (-1) (pA v 9 (upd (v 9) 1 0))).1) (enF B L (rlS B L 8 1 0 0 (-1) (pA v 9 (upd (v 9) 1 0))).1 (rlS B L 8 1 0 0 (-1) (pA v 9 (upd (v 9) 1 0))).2.1)) sh kf) (by rfl) ?_
    refine g_aload_n hE dX4_loft_40 0 rfl ?_
    refine g_get hE fl_X4_36 dX4_loft_41 0 rfl rfl ?_
    refine g_aload_n hE dX4_loft_44 0 rfl ?_
    refine g_get hE fl_X4_10 dX4_loft_45 0 rfl rfl ?_
    refine g_get hE fl_X4_78 dX4_loft_48 1 rfl rfl ?_
    refine g_callV hE (c_X3_answerOr cI cS (fun i => a (i + 34)) B 0 (sk B L (rlS B L 8 1 0 0 (-1) (pA v 9 (upd (v 9) 1 0))).1) (enF B L (rlS B L 8 1 0 0 (-1) (pA v 9 (upd (v 9) 1 0))).1 (rlS B L 8 1 0 0 (-1) (pA v 9 (upd (v 9) 1 0))).2.1) (Nat.zero_le _) ((tkV m ((rlS B L 8 1 0 0 (-1) (pA v 9 (upd (v 9) 1 0))).2.2)) 9 1)) mk_X3_answerOr mv_X3_answerOr ml_X4_128 dX4_loft_51 (As := [.int ((tkV m ((rlS B L 8 1 0 0 (-1) (pA v 9 (upd (v 9) 1 0))).2.2)) 9 1)]) (rest := []) rfl rfl 34 rfl (show vwCl[3]? = some (RX3, TX3, 4) from rfl) (by decide) (by decide) (Nat.le_of_ble_eq_true rfl) (by decide) (by decide) [34, 35] rfl (by decide) (fun u => Nat.le_of_ble_eq_true rfl) (ws' := fun u => loftW cI cS a (pA (tkV m ((rlS B L 8 1 0 0 (-1) (pA v 9 (upd (v 9) 1 0))).2.2)) 9 (upd ((tkV m ((rlS B L 8 1 0 0 (-1) (pA v 9 (upd (v 9) 1 0))).2.2)) 9) 2 0)) ((rlS B L 8 1 0 0 (-1) (pA v 9 (upd (v 9) 1 0))).2.2) w (seS T C li ap va le) (tpS B 0 (sk B L (rlS B L 8 1 0 0 (-1) (pA v 9 (upd (v 9) 1 0))).1) (enF B L (rlS B L 8 1 0 0 (-1) (pA v 9 (upd (v 9) 1 0))).1 (rlS B L 8 1 0 0 (-1) (pA v 9 (upd (v 9) 1 0))).2.1)) sh kf) (fun u => rfl) (fun u hu => ?_)
    obtain ⟨r_6, rfl⟩ : ∃ z, z = u := ⟨_, rfl⟩
    have h7 : r_6 = (if (enF B L (rlS B L 8 1 0 0 (-1) (pA v 9 (upd (v 9) 1 0))).1 (rlS B L 8 1 0 0 (-1) (pA v 9 (upd (v 9) 1 0))).2.1) < 0 then ((tkV m ((rlS B L 8 1 0 0 (-1) (pA v 9 (upd (v 9) 1 0))).2.2)) 9 1) else -20 - (enF B L (rlS B L 8 1 0 0 (-1) (pA v 9 (upd (v 9) 1 0))).1 (rlS B L 8 1 0 0 (-1) (pA v 9 (upd (v 9) 1 0))).2.1)) := hu
    subst h7
    show Go E Q 1 0 0 54 [(0, .ref (a 0))] [.int (if (enF B L (rlS B L 8 1 0 0 (-1) (pA v 9 (upd (v 9) 1 0))).1 (rlS B L 8 1 0 0 (-1) (pA v 9 (upd (v 9) 1 0))).2.1) < 0 then ((tkV m ((rlS B L 8 1 0 0 (-1) (pA v 9 (upd (v 9) 1 0))).2.2)) 9 1) else -20 - (enF B L (rlS B L 8 1 0 0 (-1) (pA v 9 (upd (v 9) 1 0))).1 (rlS B L 8 1 0 0 (-1) (pA v 9 (upd (v 9) 1 0))).2.1))] (loftW cI cS a (pA (tkV m ((rlS B L 8 1 0 0 (-1) (pA v 9 (upd (v 9) 1 0))).2.2)) 9 (upd ((tkV m ((rlS B L 8 1 0 0 (-1) (pA v 9 (upd (v 9) 1 0))).2.2)) 9) 2 0)) ((rlS B L 8 1 0 0 (-1) (pA v 9 (upd (v 9) 1 0))).2.2) w (seS T C li ap va le) (tpS B 0 (sk B L (rlS B L 8 1 0 0 (-1) (pA v 9 (upd (v 9) 1 0))).1) (enF B L (rlS B L 8 1 0 0 (-1) (pA v 9 (upd (v 9) 1 0))).1 (rlS B L 8 1 0 0 (-1) (pA v 9 (upd (v 9) 1 0))).2.1)) sh kf)
    exact g_iret hE hQ dX4_loft_54 rfl ((if (enF B L (rlS B L 8 1 0 0 (-1) (pA v 9 (upd (v 9) 1 0))).1 (rlS B L 8 1 0 0 (-1) (pA v 9 (upd (v 9) 1 0))).2.1) < 0 then ((tkV m ((rlS B L 8 1 0 0 (-1) (pA v 9 (upd (v 9) 1 0))).2.2)) 9 1) else -20 - (enF B L (rlS B L 8 1 0 0 (-1) (pA v 9 (upd (v 9) 1 0))).1 (rlS B L 8 1 0 0 (-1) (pA v 9 (upd (v 9) 1 0))).2.1)), (pA (tkV m ((rlS B L 8 1 0 0 (-1) (pA v 9 (upd (v 9) 1 0))).2.2)) 9 (upd ((tkV m ((rlS B L 8 1 0 0 (-1) (pA v 9 (upd (v 9) 1 0))).2.2)) 9) 2 0))) rfl rfl ⟨by first | (rw [fgLoft, if_pos (show (enF B L (rlS B L 8 1 0 0 (-1) (pA v 9 (upd (v 9) 1 0))).1 (rlS B L 8 1 0 0 (-1) (pA v 9 (upd (v 9) 1 0))).2.1) < 0 from (Int32.not_le.mp c2)), if_pos (show (enF B L (rlS B L 8 1 0 0 (-1) (pA v 9 (upd (v 9) 1 0))).1 (rlS B L 8 1 0 0 (-1) (pA v 9 (upd (v 9) 1 0))).2.1) < 0 from (Int32.not_le.mp c2))]; done) | (rw [fgLoft, if_pos (show (enF B L (rlS B L 8 1 0 0 (-1) (pA v 9 (upd (v 9) 1 0))).1 (rlS B L 8 1 0 0 (-1) (pA v 9 (upd (v 9) 1 0))).2.1) < 0 from (Int32.not_le.mp c2)), if_pos (show (enF B L (rlS B L 8 1 0 0 (-1) (pA v 9 (upd (v 9) 1 0))).1 (rlS B L 8 1 0 0 (-1) (pA v 9 (upd (v 9) 1 0))).2.1) < 0 from (Int32.not_le.mp c2))]; rfl), h1⟩
set_option maxHeartbeats 4000000 in
set_option maxRecDepth 100000 in
theorem c_X4_heap (cI cS : ClassId) (a : Nat → Nat) (m v w : Nat → Nat → Int32) (T C : Nat → Int32) (li ap va le : Int32) (B : Nat → Int32) (L P : Nat) (F : Int32) (sh : Nat → Nat → Nat → Int32) (kf : Int32) {n sv pl n1 sv1 pl1 n2 sv2 pl2 : Nat} (hM : MW m n sv pl) (hV : MW v n1 sv1 pl1) (hW : MW w n2 sv2 pl2) (hL : L ≤ 120) : CT cI cS yX4_heap cX4_heap 1 (some .int) 6 [.ref (a 0)] (loftW cI cS a m v w (seS T C li ap va le) (tpS B L P F) sh kf) 0 0 (fun u : Int32 × (Nat → Nat → Int32) => (u.1, u.2) = fgHeap m v B L ∧ ∃ j, j ≤ 6 ∧ MW (rhS B L 6 1 0 0 (-1) (pA v 9 (upd (v 9) 0 0))).2.2 j sv1 pl1) (fun u => some (.int u.1)) (fun u => (loftW cI cS a u.2 ((rhS B L 6 1 0 0 (-1) (pA v 9 (upd (v 9) 0 0))).2.2) w (seS T C li ap va le) (tpS B 0 (sk B L (rhS B L 6 1 0 0 (-1) (pA v 9 (upd (v 9) 0 0))).1) (enF B L (rhS B L 6 1 0 0 (-1) (pA v 9 (upd (v 9) 0 0))).1 (rhS B L 6 1 0 0 (-1) (pA v 9 (upd (v 9) 0 0))).2.1)) sh kf)) := by
  refine ct_intro (by decide) (Nat.le_of_ble_eq_true rfl) (fun E Q hE hQ hI => ?_)
  have hE : CxOk E cI cS RX4 cX4_heap 1 (some .int) 6 0 0 := hE
  show Go E Q 1 0 0 0 [(0, .ref (a 0))] [] (loftW cI cS a m v w (seS T C li ap va le) (tpS B L P F) sh kf)
  have hn := hM.1
  have hn6 := hM.2.1
  have hsv := hM.2.2.1
  have hsv8 := hM.2.2.2.1
  have hpl := hM.2.2.2.2.1
  have hpl6 := hM.2.2.2.2.2
  have hn1 := hV.1
  have hn16 := hV.2.1
  have hsv1 := hV.2.2.1
  have hsv18 := hV.2.2.2.1
  have hpl1 := hV.2.2.2.2.1
  have hpl16 := hV.2.2.2.2.2
  refine g_aload_n hE dX4_heap_0 0 rfl ?_
  refine g_get hE fl_X4_36 dX4_heap_1 0 rfl rfl ?_
  refine g_aload_n hE dX4_heap_4 0 rfl ?_
  refine g_get hE fl_X4_16 dX4_heap_5 0 rfl rfl ?_
  refine g_callV hE (c_X3_readHeap cI cS (fun i => a (i + 11)) (fun i => a (i + 34)) v B L P F (by first | assumption | exact mw_of (by assumption)) hL) mk_X3_readHeap mv_X3_readHeap ml_X4_132 dX4_heap_8 (As := [.ref (a 11)]) (rest := []) rfl rfl 34 rfl (show vwCl[3]? = some (RX3, TX3, 4) from rfl) (by decide) (by decide) (Nat.le_of_ble_eq_true rfl) (by decide) (by decide) [11, 12, 13, 14, 15, 16, 17, 18, 19, 20, 34, 35] rfl (by decide) (fun u => Nat.le_of_ble_eq_true rfl) (ws' := fun u => loftW cI cS a m ((rhS B L 6 1 0 0 (-1) (pA v 9 (upd (v 9) 0 0))).2.2) w (seS T C li ap va le) (tpS B 0 (sk B L (rhS B L 6 1 0 0 (-1) (pA v 9 (upd (v 9) 0 0))).1) (enF B L (rhS B L 6 1 0 0 (-1) (pA v 9 (upd (v 9) 0 0))).1 (rhS B L 6 1 0 0 (-1) (pA v 9 (upd (v 9) 0 0))).2.1)) sh kf) (fun u => rfl) (fun u hu => ?_)
  have h1 : ∃ j, j ≤ 6 ∧ MW (rhS B L 6 1 0 0 (-1) (pA v 9 (upd (v 9) 0 0))).2.2 j sv1 pl1 := hu
  show Go E Q 1 0 0 11 [(0, .ref (a 0))] [] (loftW cI cS a m ((rhS B L 6 1 0 0 (-1) (pA v 9 (upd (v 9) 0 0))).2.2) w (seS T C li ap va le) (tpS B 0 (sk B L (rhS B L 6 1 0 0 (-1) (pA v 9 (upd (v 9) 0 0))).1) (enF B L (rhS B L 6 1 0 0 (-1) (pA v 9 (upd (v 9) 0 0))).1 (rhS B L 6 1 0 0 (-1) (pA v 9 (upd (v 9) 0 0))).2.1)) sh kf)
  refine g_aload_n hE dX4_heap_11 0 rfl ?_
  refine g_get hE fl_X4_36 dX4_heap_12 0 rfl rfl ?_
  refine g_get hE fl_X4_119 dX4_heap_15 34 rfl rfl ?_
  refine g_if_ge hE 32 dX4_heap_18 (by decide) (fun c2 => ?_) (fun c2 => ?_)
  · refine g_aload_n hE dX4_heap_32 0 rfl ?_
    refine g_get hE fl_X4_36 dX4_heap_33 0 rfl rfl ?_
    refine g_aload_n hE dX4_heap_36 0 rfl ?_
    refine g_get hE fl_X4_10 dX4_heap_37 0 rfl rfl ?_
    refine g_get hE fl_X4_51 dX4_heap_40 1 rfl rfl ?_
    refine g_callV hE (c_X3_answerOr cI cS (fun i => a (i + 34)) B 0 (sk B L (rhS B L 6 1 0 0 (-1) (pA v 9 (upd (v 9) 0 0))).1) (enF B L (rhS B L 6 1 0 0 (-1) (pA v 9 (upd (v 9) 0 0))).1 (rhS B L 6 1 0 0 (-1) (pA v 9 (upd (v 9) 0 0))).2.1) (Nat.zero_le _) (m 9 0)) mk_X3_answerOr mv_X3_answerOr ml_X4_128 dX4_heap_43 (As := [.int (m 9 0)]) (rest := []) rfl rfl 34 rfl (show vwCl[3]? = some (RX3, TX3, 4) from rfl) (by decide) (by decide) (Nat.le_of_ble_eq_true rfl) (by decide) (by decide) [34, 35] rfl (by decide) (fun u => Nat.le_of_ble_eq_true rfl) (ws' := fun u => loftW cI cS a m ((rhS B L 6 1 0 0 (-1) (pA v 9 (upd (v 9) 0 0))).2.2) w (seS T C li ap va le) (tpS B 0 (sk B L (rhS B L 6 1 0 0 (-1) (pA v 9 (upd (v 9) 0 0))).1) (enF B L (rhS B L 6 1 0 0 (-1) (pA v 9 (upd (v 9) 0 0))).1 (rhS B L 6 1 0 0 (-1) (pA v 9 (upd (v 9) 0 0))).2.1)) sh kf) (fun u => rfl) (fun u hu => ?_)
    obtain ⟨r_3, rfl⟩ : ∃ z, z = u := ⟨_, rfl⟩
    have h4 : r_3 = (if (enF B L (rhS B L 6 1 0 0 (-1) (pA v 9 (upd (v 9) 0 0))).1 (rhS B L 6 1 0 0 (-1) (pA v 9 (upd (v 9) 0 0))).2.1) < 0 then (m 9 0) else -20 - (enF B L (rhS B L 6 1 0 0 (-1) (pA v 9 (upd (v 9) 0 0))).1 (rhS B L 6 1 0 0 (-1) (pA v 9 (upd (v 9) 0 0))).2.1)) := hu
    subst h4
    show Go E Q 1 0 0 46 [(0, .ref (a 0))] [.int (if (enF B L (rhS B L 6 1 0 0 (-1) (pA v 9 (upd (v 9) 0 0))).1 (rhS B L 6 1 0 0 (-1) (pA v 9 (upd (v 9) 0 0))).2.1) < 0 then (m 9 0) else -20 - (enF B L (rhS B L 6 1 0 0 (-1) (pA v 9 (upd (v 9) 0 0))).1 (rhS B L 6 1 0 0 (-1) (pA v 9 (upd (v 9) 0 0))).2.1))] (loftW cI cS a m ((rhS B L 6 1 0 0 (-1) (pA v 9 (upd (v 9) 0 0))).2.2) w (seS T C li ap va le) (tpS B 0 (sk B L (rhS B L 6 1 0 0 (-1) (pA v 9 (upd (v 9) 0 0))).1) (enF B L (rhS B L 6 1 0 0 (-1) (pA v 9 (upd (v 9) 0 0))).1 (rhS B L 6 1 0 0 (-1) (pA v 9 (upd (v 9) 0 0))).2.1)) sh kf)
    exact g_iret hE hQ dX4_heap_46 rfl ((if (enF B L (rhS B L 6 1 0 0 (-1) (pA v 9 (upd (v 9) 0 0))).1 (rhS B L 6 1 0 0 (-1) (pA v 9 (upd (v 9) 0 0))).2.1) < 0 then (m 9 0) else -20 - (enF B L (rhS B L 6 1 0 0 (-1) (pA v 9 (upd (v 9) 0 0))).1 (rhS B L 6 1 0 0 (-1) (pA v 9 (upd (v 9) 0 0))).2.1)), m) rfl rfl ⟨by first | (rw [fgHeap, if_neg (show ¬ (enF B L (rhS B L 6 1 0 0 (-1) (pA v 9 (upd (v 9) 0 0))).1 (rhS B L 6 1 0 0 (-1) (pA v 9 (upd (v 9) 0 0))).2.1) < 0 from (Int32.not_lt.mpr c2)), if_neg (show ¬ (enF B L (rhS B L 6 1 0 0 (-1) (pA v 9 (upd (v 9) 0 0))).1 (rhS B L 6 1 0 0 (-1) (pA v 9 (upd (v 9) 0 0))).2.1) < 0 from (Int32.not_lt.mpr c2))]; done) | (rw [fgHeap, if_neg (show ¬ (enF B L (rhS B L 6 1 0 0 (-1) (pA v 9 (upd (v 9) 0 0))).1 (rhS B L 6 1 0 0 (-1) (pA v 9 (upd (v 9) 0 0))).2.1) < 0 from (Int32.not_lt.mpr c2)), if_neg (show ¬ (enF B L (rhS B L 6 1 0 0 (-1) (pA v 9 (upd (v 9) 0 0))).1 (rhS B L 6 1 0 0 (-1) (pA v 9 (upd (v 9) 0 0))).2.1) < 0 from (Int32.not_lt.mpr c2))]; rfl), h1⟩
  · refine g_aload_n hE dX4_heap_21 0 rfl ?_
    refine g_get hE fl_X4_10 dX4_heap_22 0 rfl rfl ?_
    refine g_aload_n hE dX4_heap_25 0 rfl ?_
    refine g_get hE fl_X4_16 dX4_heap_26 0 rfl rfl ?_
    refine g_callV hE (c_X0_takeGrains cI cS (fun i => a (i + 1)) (fun i => a (i + 11)) m ((rhS B L 6 1 0 0 (-1) (pA v 9 (upd (v 9) 0 0))).2.2)) mk_X0_takeGrains mv_X0_takeGrains ml_X4_135 dX4_heap_29 (As := [.ref (a 11)]) (rest := []) rfl rfl 1 rfl (show vwCl[0]? = some (RX0, TX0, 13) from rfl) (by decide) (by decide) (Nat.le_of_ble_eq_true rfl) (by decide) (by decide) [1, 2, 3, 4, 5, 6, 7, 8, 9, 10, 11, 12, 13, 14, 15, 16, 17, 18, 19, 20] rfl (by decide) (fun u => Nat.le_of_ble_eq_true rfl) (ws' := fun u => loftW cI cS a (tkG m ((rhS B L 6 1 0 0 (-1) (pA v 9 (upd (v 9) 0 0))).2.2)) ((rhS B L 6 1 0 0 (-1) (pA v 9 (upd (v 9) 0 0))).2.2) w (seS T C li ap va le) (tpS B 0 (sk B L (rhS B L 6 1 0 0 (-1) (pA v 9 (upd (v 9) 0 0))).1) (enF B L (rhS B L 6 1 0 0 (-1) (pA v 9 (upd (v 9) 0 0))).1 (rhS B L 6 1 0 0 (-1) (pA v 9 (upd (v 9) 0 0))).2.1)) sh kf) (fun u => rfl) (fun u hu => ?_)
    show Go E Q 1 0 0 32 [(0, .ref (a 0))] [] (loftW cI cS a (tkG m ((rhS B L 6 1 0 0 (-1) (pA v 9 (upd (v 9) 0 0))).2.2)) ((rhS B L 6 1 0 0 (-1) (pA v 9 (upd (v 9) 0 0))).2.2) w (seS T C li ap va le) (tpS B 0 (sk B L (rhS B L 6 1 0 0 (-1) (pA v 9 (upd (v 9) 0 0))).1) (enF B L (rhS B L 6 1 0 0 (-1) (pA v 9 (upd (v 9) 0 0))).1 (rhS B L 6 1 0 0 (-1) (pA v 9 (upd (v 9) 0 0))).2.1)) sh kf)
    refine g_aload_n hE dX4_heap_32 0 rfl ?_
    refine g_get hE fl_X4_36 dX4_heap_33 0 rfl rfl ?_
    refine g_aload_n hE dX4_heap_36 0 rfl ?_
    refine g_get hE fl_X4_10 dX4_heap_37 0 rfl rfl ?_
    refine g_get hE fl_X4_51 dX4_heap_40 1 rfl rfl ?_
    refine g_callV hE (c_X3_answerOr cI cS (fun i => a (i + 34)) B 0 (sk B L (rhS B L 6 1 0 0 (-1) (pA v 9 (upd (v 9) 0 0))).1) (enF B L (rhS B L 6 1 0 0 (-1) (pA v 9 (upd (v 9) 0 0))).1 (rhS B L 6 1 0 0 (-1) (pA v 9 (upd (v 9) 0 0))).2.1) (Nat.zero_le _) ((tkG m ((rhS B L 6 1 0 0 (-1) (pA v 9 (upd (v 9) 0 0))).2.2)) 9 0)) mk_X3_answerOr mv_X3_answerOr ml_X4_128 dX4_heap_43 (As := [.int ((tkG m ((rhS B L 6 1 0 0 (-1) (pA v 9 (upd (v 9) 0 0))).2.2)) 9 0)]) (rest := []) rfl rfl 34 rfl (show vwCl[3]? = some (RX3, TX3, 4) from rfl) (by decide) (by decide) (Nat.le_of_ble_eq_true rfl) (by decide) (by decide) [34, 35] rfl (by decide) (fun u => Nat.le_of_ble_eq_true rfl) (ws' := fun u => loftW cI cS a (tkG m ((rhS B L 6 1 0 0 (-1) (pA v 9 (upd (v 9) 0 0))).2.2)) ((rhS B L 6 1 0 0 (-1) (pA v 9 (upd (v 9) 0 0))).2.2) w (seS T C li ap va le) (tpS B 0 (sk B L (rhS B L 6 1 0 0 (-1) (pA v 9 (upd (v 9) 0 0))).1) (enF B L (rhS B L 6 1 0 0 (-1) (pA v 9 (upd (v 9) 0 0))).1 (rhS B L 6 1 0 0 (-1) (pA v 9 (upd (v 9) 0 0))).2.1)) sh kf) (fun u => rfl) (fun u hu => ?_)
    obtain ⟨r_6, rfl⟩ : ∃ z, z = u := ⟨_, rfl⟩
    have h7 : r_6 = (if (enF B L (rhS B L 6 1 0 0 (-1) (pA v 9 (upd (v 9) 0 0))).1 (rhS B L 6 1 0 0 (-1) (pA v 9 (upd (v 9) 0 0))).2.1) < 0 then ((tkG m ((rhS B L 6 1 0 0 (-1) (pA v 9 (upd (v 9) 0 0))).2.2)) 9 0) else -20 - (enF B L (rhS B L 6 1 0 0 (-1) (pA v 9 (upd (v 9) 0 0))).1 (rhS B L 6 1 0 0 (-1) (pA v 9 (upd (v 9) 0 0))).2.1)) := hu
    subst h7
    show Go E Q 1 0 0 46 [(0, .ref (a 0))] [.int (if (enF B L (rhS B L 6 1 0 0 (-1) (pA v 9 (upd (v 9) 0 0))).1 (rhS B L 6 1 0 0 (-1) (pA v 9 (upd (v 9) 0 0))).2.1) < 0 then ((tkG m ((rhS B L 6 1 0 0 (-1) (pA v 9 (upd (v 9) 0 0))).2.2)) 9 0) else -20 - (enF B L (rhS B L 6 1 0 0 (-1) (pA v 9 (upd (v 9) 0 0))).1 (rhS B L 6 1 0 0 (-1) (pA v 9 (upd (v 9) 0 0))).2.1))] (loftW cI cS a (tkG m ((rhS B L 6 1 0 0 (-1) (pA v 9 (upd (v 9) 0 0))).2.2)) ((rhS B L 6 1 0 0 (-1) (pA v 9 (upd (v 9) 0 0))).2.2) w (seS T C li ap va le) (tpS B 0 (sk B L (rhS B L 6 1 0 0 (-1) (pA v 9 (upd (v 9) 0 0))).1) (enF B L (rhS B L 6 1 0 0 (-1) (pA v 9 (upd (v 9) 0 0))).1 (rhS B L 6 1 0 0 (-1) (pA v 9 (upd (v 9) 0 0))).2.1)) sh kf)
    exact g_iret hE hQ dX4_heap_46 rfl ((if (enF B L (rhS B L 6 1 0 0 (-1) (pA v 9 (upd (v 9) 0 0))).1 (rhS B L 6 1 0 0 (-1) (pA v 9 (upd (v 9) 0 0))).2.1) < 0 then ((tkG m ((rhS B L 6 1 0 0 (-1) (pA v 9 (upd (v 9) 0 0))).2.2)) 9 0) else -20 - (enF B L (rhS B L 6 1 0 0 (-1) (pA v 9 (upd (v 9) 0 0))).1 (rhS B L 6 1 0 0 (-1) (pA v 9 (upd (v 9) 0 0))).2.1)), (tkG m ((rhS B L 6 1 0 0 (-1) (pA v 9 (upd (v 9) 0 0))).2.2))) rfl rfl ⟨by first | (rw [fgHeap, if_pos (show (enF B L (rhS B L 6 1 0 0 (-1) (pA v 9 (upd (v 9) 0 0))).1 (rhS B L 6 1 0 0 (-1) (pA v 9 (upd (v 9) 0 0))).2.1) < 0 from (Int32.not_le.mp c2)), if_pos (show (enF B L (rhS B L 6 1 0 0 (-1) (pA v 9 (upd (v 9) 0 0))).1 (rhS B L 6 1 0 0 (-1) (pA v 9 (upd (v 9) 0 0))).2.1) < 0 from (Int32.not_le.mp c2))]; done) | (rw [fgHeap, if_pos (show (enF B L (rhS B L 6 1 0 0 (-1) (pA v 9 (upd (v 9) 0 0))).1 (rhS B L 6 1 0 0 (-1) (pA v 9 (upd (v 9) 0 0))).2.1) < 0 from (Int32.not_le.mp c2)), if_pos (show (enF B L (rhS B L 6 1 0 0 (-1) (pA v 9 (upd (v 9) 0 0))).1 (rhS B L 6 1 0 0 (-1) (pA v 9 (upd (v 9) 0 0))).2.1) < 0 from (Int32.not_le.mp c2))]; rfl), h1⟩
set_option maxHeartbeats 4000000 in
set_option maxRecDepth 100000 in
theorem c_X4_row (cI cS : ClassId) (a : Nat → Nat) (m v w : Nat → Nat → Int32) (T C : Nat → Int32) (li ap va le : Int32) (B : Nat → Int32) (L P : Nat) (F : Int32) (sh : Nat → Nat → Nat → Int32) (kf : Int32) {n sv pl n1 sv1 pl1 n2 sv2 pl2 : Nat} (hM : MW m n sv pl) (hV : MW v n1 sv1 pl1) (hW : MW w n2 sv2 pl2) (hL : L ≤ 120) : CT cI cS yX4_row cX4_row 1 (some .int) 5 [.ref (a 0)] (loftW cI cS a m v w (seS T C li ap va le) (tpS B L P F) sh kf) 0 0 (fun u : Int32 × (Nat → Nat → Int32) => (u.1, u.2) = fgRow m v B L ∧ (rrS B L (m 9 1) 6 1 0 0 (pA v 9 (upd (v 9) 2 0))).2.1 ≤ 6 ∧ MW (rrS B L (m 9 1) 6 1 0 0 (pA v 9 (upd (v 9) 2 0))).2.2 n1 sv1 (rrS B L (m 9 1) 6 1 0 0 (pA v 9 (upd (v 9) 2 0))).2.1) (fun u => some (.int u.1)) (fun u => (loftW cI cS a u.2 ((rrS B L (m 9 1) 6 1 0 0 (pA v 9 (upd (v 9) 2 0))).2.2) w (seS T C li ap va le) (tpS B 0 (sk B L (rrS B L (m 9 1) 6 1 0 0 (pA v 9 (upd (v 9) 2 0))).1) (enF B L (rrS B L (m 9 1) 6 1 0 0 (pA v 9 (upd (v 9) 2 0))).1 (-1))) sh kf)) := by
  refine ct_intro (by decide) (Nat.le_of_ble_eq_true rfl) (fun E Q hE hQ hI => ?_)
  have hE : CxOk E cI cS RX4 cX4_row 1 (some .int) 5 0 0 := hE
  show Go E Q 1 0 0 0 [(0, .ref (a 0))] [] (loftW cI cS a m v w (seS T C li ap va le) (tpS B L P F) sh kf)
  have hn := hM.1
  have hn6 := hM.2.1
  have hsv := hM.2.2.1
  have hsv8 := hM.2.2.2.1
  have hpl := hM.2.2.2.2.1
  have hpl6 := hM.2.2.2.2.2
  have hn1 := hV.1
  have hn16 := hV.2.1
  have hsv1 := hV.2.2.1
  have hsv18 := hV.2.2.2.1
  have hpl1 := hV.2.2.2.2.1
  have hpl16 := hV.2.2.2.2.2
  refine g_aload_n hE dX4_row_0 0 rfl ?_
  refine g_get hE fl_X4_36 dX4_row_1 0 rfl rfl ?_
  refine g_aload_n hE dX4_row_4 0 rfl ?_
  refine g_get hE fl_X4_16 dX4_row_5 0 rfl rfl ?_
  refine g_aload_n hE dX4_row_8 0 rfl ?_
  refine g_get hE fl_X4_10 dX4_row_9 0 rfl rfl ?_
  refine g_get hE fl_X4_78 dX4_row_12 1 rfl rfl ?_
  refine g_callV hE (c_X3_readRow cI cS (fun i => a (i + 11)) (fun i => a (i + 34)) v B L P F (by first | assumption | exact mw_of (by assumption)) hL (m 9 1) sv (show (m 9 1) = nI sv from hsv) (by omega)) mk_X3_readRow mv_X3_readRow ml_X4_138 dX4_row_15 (As := [.ref (a 11), .int (m 9 1)]) (rest := []) rfl rfl 34 rfl (show vwCl[3]? = some (RX3, TX3, 4) from rfl) (by decide) (by decide) (Nat.le_of_ble_eq_true rfl) (by decide) (by decide) [11, 12, 13, 14, 15, 16, 17, 18, 19, 20, 34, 35] rfl (by decide) (fun u => Nat.le_of_ble_eq_true rfl) (ws' := fun u => loftW cI cS a m ((rrS B L (m 9 1) 6 1 0 0 (pA v 9 (upd (v 9) 2 0))).2.2) w (seS T C li ap va le) (tpS B 0 (sk B L (rrS B L (m 9 1) 6 1 0 0 (pA v 9 (upd (v 9) 2 0))).1) (enF B L (rrS B L (m 9 1) 6 1 0 0 (pA v 9 (upd (v 9) 2 0))).1 (-1))) sh kf) (fun u => rfl) (fun u hu => ?_)
  have h1 : (rrS B L (m 9 1) 6 1 0 0 (pA v 9 (upd (v 9) 2 0))).2.1 ≤ 6 ∧ MW (rrS B L (m 9 1) 6 1 0 0 (pA v 9 (upd (v 9) 2 0))).2.2 n1 sv1 (rrS B L (m 9 1) 6 1 0 0 (pA v 9 (upd (v 9) 2 0))).2.1 := hu
  show Go E Q 1 0 0 18 [(0, .ref (a 0))] [] (loftW cI cS a m ((rrS B L (m 9 1) 6 1 0 0 (pA v 9 (upd (v 9) 2 0))).2.2) w (seS T C li ap va le) (tpS B 0 (sk B L (rrS B L (m 9 1) 6 1 0 0 (pA v 9 (upd (v 9) 2 0))).1) (enF B L (rrS B L (m 9 1) 6 1 0 0 (pA v 9 (upd (v 9) 2 0))).1 (-1))) sh kf)
  refine g_aload_n hE dX4_row_18 0 rfl ?_
  refine g_get hE fl_X4_36 dX4_row_19 0 rfl rfl ?_
  refine g_get hE fl_X4_119 dX4_row_22 34 rfl rfl ?_
  refine g_if_ge hE 39 dX4_row_25 (by decide) (fun c2 => ?_) (fun c2 => ?_)
  · refine g_aload_n hE dX4_row_39 0 rfl ?_
    refine g_get hE fl_X4_36 dX4_row_40 0 rfl rfl ?_
    refine g_aload_n hE dX4_row_43 0 rfl ?_
    refine g_get hE fl_X4_10 dX4_row_44 0 rfl rfl ?_
    refine g_get hE fl_X4_125 dX4_row_47 1 rfl rfl ?_
    refine g_callV hE (c_X3_answerOr cI cS (fun i => a (i + 34)) B 0 (sk B L (rrS B L (m 9 1) 6 1 0 0 (pA v 9 (upd (v 9) 2 0))).1) (enF B L (rrS B L (m 9 1) 6 1 0 0 (pA v 9 (upd (v 9) 2 0))).1 (-1)) (Nat.zero_le _) (m 9 2)) mk_X3_answerOr mv_X3_answerOr ml_X4_128 dX4_row_50 (As := [.int (m 9 2)]) (rest := []) rfl rfl 34 rfl (show vwCl[3]? = some (RX3, TX3, 4) from rfl) (by decide) (by decide) (Nat.le_of_ble_eq_true rfl) (by decide) (by decide) [34, 35] rfl (by decide) (fun u => Nat.le_of_ble_eq_true rfl) (ws' := fun u => loftW cI cS a m ((rrS B L (m 9 1) 6 1 0 0 (pA v 9 (upd (v 9) 2 0))).2.2) w (seS T C li ap va le) (tpS B 0 (sk B L (rrS B L (m 9 1) 6 1 0 0 (pA v 9 (upd (v 9) 2 0))).1) (enF B L (rrS B L (m 9 1) 6 1 0 0 (pA v 9 (upd (v 9) 2 0))).1 (-1))) sh kf) (fun u => rfl) (fun u hu => ?_)
    obtain ⟨r_3, rfl⟩ : ∃ z, z = u := ⟨_, rfl⟩
    have h4 : r_3 = (if (enF B L (rrS B L (m 9 1) 6 1 0 0 (pA v 9 (upd (v 9) 2 0))).1 (-1)) < 0 then (m 9 2) else -20 - (enF B L (rrS B L (m 9 1) 6 1 0 0 (pA v 9 (upd (v 9) 2 0))).1 (-1))) := hu
    subst h4
    show Go E Q 1 0 0 53 [(0, .ref (a 0))] [.int (if (enF B L (rrS B L (m 9 1) 6 1 0 0 (pA v 9 (upd (v 9) 2 0))).1 (-1)) < 0 then (m 9 2) else -20 - (enF B L (rrS B L (m 9 1) 6 1 0 0 (pA v 9 (upd (v 9) 2 0))).1 (-1)))] (loftW cI cS a m ((rrS B L (m 9 1) 6 1 0 0 (pA v 9 (upd (v 9) 2 0))).2.2) w (seS T C li ap va le) (tpS B 0 (sk B L (rrS B L (m 9 1) 6 1 0 0 (pA v 9 (upd (v 9) 2 0))).1) (enF B L (rrS B L (m 9 1) 6 1 0 0 (pA v 9 (upd (v 9) 2 0))).1 (-1))) sh kf)
    exact g_iret hE hQ dX4_row_53 rfl ((if (enF B L (rrS B L (m 9 1) 6 1 0 0 (pA v 9 (upd (v 9) 2 0))).1 (-1)) < 0 then (m 9 2) else -20 - (enF B L (rrS B L (m 9 1) 6 1 0 0 (pA v 9 (upd (v 9) 2 0))).1 (-1))), m) rfl rfl ⟨by first | (rw [fgRow, if_neg (show ¬ (enF B L (rrS B L (m 9 1) 6 1 0 0 (pA v 9 (upd (v 9) 2 0))).1 (-1)) < 0 from (Int32.not_lt.mpr c2)), if_neg (show ¬ (enF B L (rrS B L (m 9 1) 6 1 0 0 (pA v 9 (upd (v 9) 2 0))).1 (-1)) < 0 from (Int32.not_lt.mpr c2))]; done) | (rw [fgRow, if_neg (show ¬ (enF B L (rrS B L (m 9 1) 6 1 0 0 (pA v 9 (upd (v 9) 2 0))).1 (-1)) < 0 from (Int32.not_lt.mpr c2)), if_neg (show ¬ (enF B L (rrS B L (m 9 1) 6 1 0 0 (pA v 9 (upd (v 9) 2 0))).1 (-1)) < 0 from (Int32.not_lt.mpr c2))]; rfl), h1⟩
  · refine g_aload_n hE dX4_row_28 0 rfl ?_
    refine g_get hE fl_X4_10 dX4_row_29 0 rfl rfl ?_
    refine g_aload_n hE dX4_row_32 0 rfl ?_
    refine g_get hE fl_X4_16 dX4_row_33 0 rfl rfl ?_
    refine g_callV hE (c_X0_takeRow cI cS (fun i => a (i + 1)) (fun i => a (i + 11)) m ((rrS B L (m 9 1) 6 1 0 0 (pA v 9 (upd (v 9) 2 0))).2.2)) mk_X0_takeRow mv_X0_takeRow ml_X4_142 dX4_row_36 (As := [.ref (a 11)]) (rest := []) rfl rfl 1 rfl (show vwCl[0]? = some (RX0, TX0, 13) from rfl) (by decide) (by decide) (Nat.le_of_ble_eq_true rfl) (by decide) (by decide) [1, 2, 3, 4, 5, 6, 7, 8, 9, 10, 11, 12, 13, 14, 15, 16, 17, 18, 19, 20] rfl (by decide) (fun u => Nat.le_of_ble_eq_true rfl) (ws' := fun u => loftW cI cS a (tkR m ((rrS B L (m 9 1) 6 1 0 0 (pA v 9 (upd (v 9) 2 0))).2.2)) ((rrS B L (m 9 1) 6 1 0 0 (pA v 9 (upd (v 9) 2 0))).2.2) w (seS T C li ap va le) (tpS B 0 (sk B L (rrS B L (m 9 1) 6 1 0 0 (pA v 9 (upd (v 9) 2 0))).1) (enF B L (rrS B L (m 9 1) 6 1 0 0 (pA v 9 (upd (v 9) 2 0))).1 (-1))) sh kf) (fun u => rfl) (fun u hu => ?_)
    show Go E Q 1 0 0 39 [(0, .ref (a 0))] [] (loftW cI cS a (tkR m ((rrS B L (m 9 1) 6 1 0 0 (pA v 9 (upd (v 9) 2 0))).2.2)) ((rrS B L (m 9 1) 6 1 0 0 (pA v 9 (upd (v 9) 2 0))).2.2) w (seS T C li ap va le) (tpS B 0 (sk B L (rrS B L (m 9 1) 6 1 0 0 (pA v 9 (upd (v 9) 2 0))).1) (enF B L (rrS B L (m 9 1) 6 1 0 0 (pA v 9 (upd (v 9) 2 0))).1 (-1))) sh kf)
    refine g_aload_n hE dX4_row_39 0 rfl ?_
    refine g_get hE fl_X4_36 dX4_row_40 0 rfl rfl ?_
    refine g_aload_n hE dX4_row_43 0 rfl ?_
    refine g_get hE fl_X4_10 dX4_row_44 0 rfl rfl ?_
    refine g_get hE fl_X4_125 dX4_row_47 1 rfl rfl ?_
    refine g_callV hE (c_X3_answerOr cI cS (fun i => a (i + 34)) B 0 (sk B L (rrS B L (m 9 1) 6 1 0 0 (pA v 9 (upd (v 9) 2 0))).1) (enF B L (rrS B L (m 9 1) 6 1 0 0 (pA v 9 (upd (v 9) 2 0))).1 (-1)) (Nat.zero_le _) ((tkR m ((rrS B L (m 9 1) 6 1 0 0 (pA v 9 (upd (v 9) 2 0))).2.2)) 9 2)) mk_X3_answerOr mv_X3_answerOr ml_X4_128 dX4_row_50 (As := [.int ((tkR m ((rrS B L (m 9 1) 6 1 0 0 (pA v 9 (upd (v 9) 2 0))).2.2)) 9 2)]) (rest := []) rfl rfl 34 rfl (show vwCl[3]? = some (RX3, TX3, 4) from rfl) (by decide) (by decide) (Nat.le_of_ble_eq_true rfl) (by decide) (by decide) [34, 35] rfl (by decide) (fun u => Nat.le_of_ble_eq_true rfl) (ws' := fun u => loftW cI cS a (tkR m ((rrS B L (m 9 1) 6 1 0 0 (pA v 9 (upd (v 9) 2 0))).2.2)) ((rrS B L (m 9 1) 6 1 0 0 (pA v 9 (upd (v 9) 2 0))).2.2) w (seS T C li ap va le) (tpS B 0 (sk B L (rrS B L (m 9 1) 6 1 0 0 (pA v 9 (upd (v 9) 2 0))).1) (enF B L (rrS B L (m 9 1) 6 1 0 0 (pA v 9 (upd (v 9) 2 0))).1 (-1))) sh kf) (fun u => rfl) (fun u hu => ?_)
    obtain ⟨r_6, rfl⟩ : ∃ z, z = u := ⟨_, rfl⟩
    have h7 : r_6 = (if (enF B L (rrS B L (m 9 1) 6 1 0 0 (pA v 9 (upd (v 9) 2 0))).1 (-1)) < 0 then ((tkR m ((rrS B L (m 9 1) 6 1 0 0 (pA v 9 (upd (v 9) 2 0))).2.2)) 9 2) else -20 - (enF B L (rrS B L (m 9 1) 6 1 0 0 (pA v 9 (upd (v 9) 2 0))).1 (-1))) := hu
    subst h7
    show Go E Q 1 0 0 53 [(0, .ref (a 0))] [.int (if (enF B L (rrS B L (m 9 1) 6 1 0 0 (pA v 9 (upd (v 9) 2 0))).1 (-1)) < 0 then ((tkR m ((rrS B L (m 9 1) 6 1 0 0 (pA v 9 (upd (v 9) 2 0))).2.2)) 9 2) else -20 - (enF B L (rrS B L (m 9 1) 6 1 0 0 (pA v 9 (upd (v 9) 2 0))).1 (-1)))] (loftW cI cS a (tkR m ((rrS B L (m 9 1) 6 1 0 0 (pA v 9 (upd (v 9) 2 0))).2.2)) ((rrS B L (m 9 1) 6 1 0 0 (pA v 9 (upd (v 9) 2 0))).2.2) w (seS T C li ap va le) (tpS B 0 (sk B L (rrS B L (m 9 1) 6 1 0 0 (pA v 9 (upd (v 9) 2 0))).1) (enF B L (rrS B L (m 9 1) 6 1 0 0 (pA v 9 (upd (v 9) 2 0))).1 (-1))) sh kf)
    exact g_iret hE hQ dX4_row_53 rfl ((if (enF B L (rrS B L (m 9 1) 6 1 0 0 (pA v 9 (upd (v 9) 2 0))).1 (-1)) < 0 then ((tkR m ((rrS B L (m 9 1) 6 1 0 0 (pA v 9 (upd (v 9) 2 0))).2.2)) 9 2) else -20 - (enF B L (rrS B L (m 9 1) 6 1 0 0 (pA v 9 (upd (v 9) 2 0))).1 (-1))), (tkR m ((rrS B L (m 9 1) 6 1 0 0 (pA v 9 (upd (v 9) 2 0))).2.2))) rfl rfl ⟨by first | (rw [fgRow, if_pos (show (enF B L (rrS B L (m 9 1) 6 1 0 0 (pA v 9 (upd (v 9) 2 0))).1 (-1)) < 0 from (Int32.not_le.mp c2)), if_pos (show (enF B L (rrS B L (m 9 1) 6 1 0 0 (pA v 9 (upd (v 9) 2 0))).1 (-1)) < 0 from (Int32.not_le.mp c2))]; done) | (rw [fgRow, if_pos (show (enF B L (rrS B L (m 9 1) 6 1 0 0 (pA v 9 (upd (v 9) 2 0))).1 (-1)) < 0 from (Int32.not_le.mp c2)), if_pos (show (enF B L (rrS B L (m 9 1) 6 1 0 0 (pA v 9 (upd (v 9) 2 0))).1 (-1)) < 0 from (Int32.not_le.mp c2))]; rfl), h1⟩
