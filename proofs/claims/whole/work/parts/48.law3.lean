/-! the law: its calls, on -/
set_option maxHeartbeats 4000000 in
set_option maxRecDepth 100000 in
theorem law_best {E : CX} {Q : State → Prop} {cI cS : ClassId} {bx Lx i cells slots : Nat} {xs : Nat → Int32} (hE : CxOk E cI cS RL cL_law 4 (some .boolean) 20 600000 7302250) (hZ : ScrOk E bx Lx xs) (hLx : Lx ≤ 3072) (hi : i + 6 ≤ Lx) (hc : cells ≤ 600000) (hs : slots ≤ 7302250) {a b : Nat → Nat} (kk : LGo E Q cells slots cI cS a b bx i) {m v w : MS} {T C : Nat → Int32} {li ap va le : Int32} {B : Nat → Int32} {L P : Nat} {F : Int32} {sh : SHS} {kf : Int32} {q : MS} (hREL : REL m v w B L sh kf q) : Go E Q 4 cells slots 589 [(0, .ref bx), (1, .ref (a 0)), (2, .ref (b 0)), (3, .int (nI i))] [] (lawW cI cS a b m v w T C li ap va le B L P F sh kf q) := by
  obtain ⟨n, sv, pl, n1, sv1, pl1, n2, sv2, pl2, nw, sw, pw, hRQ, hV, hW, hL, hB5, htp, hBn, hSQ, hKQ⟩ := hREL
  subst hB5
  refine g_aload_n hE dL_law_589 1 rfl ?_
  refine g_arg hE hZ 1 rfl rfl rfl (by omega) hLx dL_law_590 dL_law_591 dL_law_592 dL_law_593 dL_law_594 ?_
  refine g_arg hE hZ 2 rfl rfl rfl (by omega) hLx dL_law_595 dL_law_596 dL_law_597 dL_law_598 dL_law_599 ?_
  refine g_callV hE (c_X4_best cI cS a m v w T C li ap va le (q 5) L P F sh kf hRQ.1 hV hW hL (xs (i + 1)) (xs (i + 2)) ) mk_X4_best mv_X4_best ml_L_81 dL_law_600 (As := [.int (xs (i + 1)), .int (xs (i + 2))]) (rest := []) rfl rfl 0 rfl (show vwCl[4]? = some (RX4, TX4, 7) from rfl) (by decide) (by decide) (Nat.le_of_ble_eq_true rfl) hc hs [0, 1, 2, 3, 4, 5, 6, 7, 8, 9, 10, 11, 12, 13, 14, 15, 16, 17, 18, 19, 20, 21, 22, 23, 24, 25, 26, 27, 28, 29, 30, 31, 32, 33, 34, 35, 36, 37, 38, 39, 40, 41, 42, 43, 44] rfl (by decide) (fun u => Nat.le_of_ble_eq_true rfl) (ws' := fun u => lawW cI cS a b m v w u.2.1 u.2.2.1 u.2.2.2.1 u.2.2.2.2.1 u.2.2.2.2.2.1 u.2.2.2.2.2.2 (q 5) L P F sh kf q) (fun u => rfl) (fun u hu => ?_)
  show Go E Q 4 cells slots 603 [(0, .ref bx), (1, .ref (a 0)), (2, .ref (b 0)), (3, .int (nI i))] [.int u.1] (lawW cI cS a b m v w u.2.1 u.2.2.1 u.2.2.2.1 u.2.2.2.2.1 u.2.2.2.2.2.1 u.2.2.2.2.2.2 (q 5) L P F sh kf q)
  refine g_aload_n hE dL_law_603 2 rfl ?_
  refine g_arg hE hZ 1 rfl rfl rfl (by omega) hLx dL_law_604 dL_law_605 dL_law_606 dL_law_607 dL_law_608 ?_
  refine g_arg hE hZ 2 rfl rfl rfl (by omega) hLx dL_law_609 dL_law_610 dL_law_611 dL_law_612 dL_law_613 ?_
  refine g_callV hE (c_X5_best cI cS b q m hRQ (xs (i + 1)) (xs (i + 2))) mk_X5_best mv_X5_best ml_L_84 dL_law_614 (As := [.int (xs (i + 1)), .int (xs (i + 2))]) (rest := [.int u.1]) rfl rfl 45 rfl (show vwCl[5]? = some (RX5, TX5, 32) from rfl) (by decide) (by decide) (Nat.le_of_ble_eq_true rfl) hc hs [45, 46, 47, 48, 49, 50, 51, 52, 53, 54, 55, 56, 57, 58, 59, 60, 61, 62, 63] rfl (by decide) (fun u2 => Nat.le_of_ble_eq_true rfl) (ws' := fun u2 => lawW cI cS a b m v w u.2.1 u.2.2.1 u.2.2.2.1 u.2.2.2.2.1 u.2.2.2.2.2.1 u.2.2.2.2.2.2 (q 5) L P F sh kf u2.2) (fun u2 => rfl) (fun u2 hu2 => ?_)
  show Go E Q 4 cells slots 617 [(0, .ref bx), (1, .ref (a 0)), (2, .ref (b 0)), (3, .int (nI i))] [.int u2.1, .int u.1] (lawW cI cS a b m v w u.2.1 u.2.2.1 u.2.2.2.1 u.2.2.2.2.1 u.2.2.2.2.2.1 u.2.2.2.2.2.2 (q 5) L P F sh kf u2.2)
  refine g_icmp_eq hE 1113 dL_law_617 (by decide) (fun _ => ?_) (fun z => absurd (fBest_det hu hu2.1) z)
  exact kk _ _ _ _ _ _ _ _ _ _ _ _ _ _ _ _ (REL_of (TF_RQ hu2.2.1 hRQ) hV hW hL htp hBn hSQ hKQ hu2.2.2)
set_option maxHeartbeats 4000000 in
set_option maxRecDepth 100000 in
theorem law_parted {E : CX} {Q : State → Prop} {cI cS : ClassId} {bx Lx i cells slots : Nat} {xs : Nat → Int32} (hE : CxOk E cI cS RL cL_law 4 (some .boolean) 20 600000 7302250) (hZ : ScrOk E bx Lx xs) (hLx : Lx ≤ 3072) (hi : i + 6 ≤ Lx) (hc : cells ≤ 600000) (hs : slots ≤ 7302250) {a b : Nat → Nat} (kk : LGo E Q cells slots cI cS a b bx i) {m v w : MS} {T C : Nat → Int32} {li ap va le : Int32} {B : Nat → Int32} {L P : Nat} {F : Int32} {sh : SHS} {kf : Int32} {q : MS} (hREL : REL m v w B L sh kf q) : Go E Q 4 cells slots 622 [(0, .ref bx), (1, .ref (a 0)), (2, .ref (b 0)), (3, .int (nI i))] [] (lawW cI cS a b m v w T C li ap va le B L P F sh kf q) := by
  obtain ⟨n, sv, pl, n1, sv1, pl1, n2, sv2, pl2, nw, sw, pw, hRQ, hV, hW, hL, hB5, htp, hBn, hSQ, hKQ⟩ := hREL
  subst hB5
  refine g_aload_n hE dL_law_622 1 rfl ?_
  refine g_arg hE hZ 1 rfl rfl rfl (by omega) hLx dL_law_623 dL_law_624 dL_law_625 dL_law_626 dL_law_627 ?_
  refine g_arg hE hZ 2 rfl rfl rfl (by omega) hLx dL_law_628 dL_law_629 dL_law_630 dL_law_631 dL_law_632 ?_
  refine g_callV hE (c_X4_parted cI cS a m v w T C li ap va le (q 5) L P F sh kf hRQ.1 hV hW hL (xs (i + 1)) (xs (i + 2)) ) mk_X4_parted mv_X4_parted ml_L_85 dL_law_633 (As := [.int (xs (i + 1)), .int (xs (i + 2))]) (rest := []) rfl rfl 0 rfl (show vwCl[4]? = some (RX4, TX4, 7) from rfl) (by decide) (by decide) (Nat.le_of_ble_eq_true rfl) hc hs [0, 1, 2, 3, 4, 5, 6, 7, 8, 9, 10, 11, 12, 13, 14, 15, 16, 17, 18, 19, 20, 21, 22, 23, 24, 25, 26, 27, 28, 29, 30, 31, 32, 33, 34, 35, 36, 37, 38, 39, 40, 41, 42, 43, 44] rfl (by decide) (fun u => Nat.le_of_ble_eq_true rfl) (ws' := fun u => lawW cI cS a b m v w u.2.1 u.2.2.1 u.2.2.2.1 u.2.2.2.2.1 u.2.2.2.2.2.1 u.2.2.2.2.2.2 (q 5) L P F sh kf q) (fun u => rfl) (fun u hu => ?_)
  show Go E Q 4 cells slots 636 [(0, .ref bx), (1, .ref (a 0)), (2, .ref (b 0)), (3, .int (nI i))] [.int u.1] (lawW cI cS a b m v w u.2.1 u.2.2.1 u.2.2.2.1 u.2.2.2.2.1 u.2.2.2.2.2.1 u.2.2.2.2.2.2 (q 5) L P F sh kf q)
  refine g_aload_n hE dL_law_636 2 rfl ?_
  refine g_arg hE hZ 1 rfl rfl rfl (by omega) hLx dL_law_637 dL_law_638 dL_law_639 dL_law_640 dL_law_641 ?_
  refine g_arg hE hZ 2 rfl rfl rfl (by omega) hLx dL_law_642 dL_law_643 dL_law_644 dL_law_645 dL_law_646 ?_
  refine g_callV hE (c_X5_parted cI cS b q m hRQ (xs (i + 1)) (xs (i + 2))) mk_X5_parted mv_X5_parted ml_L_88 dL_law_647 (As := [.int (xs (i + 1)), .int (xs (i + 2))]) (rest := [.int u.1]) rfl rfl 45 rfl (show vwCl[5]? = some (RX5, TX5, 32) from rfl) (by decide) (by decide) (Nat.le_of_ble_eq_true rfl) hc hs [45, 46, 47, 48, 49, 50, 51, 52, 53, 54, 55, 56, 57, 58, 59, 60, 61, 62, 63] rfl (by decide) (fun u2 => Nat.le_of_ble_eq_true rfl) (ws' := fun u2 => lawW cI cS a b m v w u.2.1 u.2.2.1 u.2.2.2.1 u.2.2.2.2.1 u.2.2.2.2.2.1 u.2.2.2.2.2.2 (q 5) L P F sh kf u2.2) (fun u2 => rfl) (fun u2 hu2 => ?_)
  show Go E Q 4 cells slots 650 [(0, .ref bx), (1, .ref (a 0)), (2, .ref (b 0)), (3, .int (nI i))] [.int u2.1, .int u.1] (lawW cI cS a b m v w u.2.1 u.2.2.1 u.2.2.2.1 u.2.2.2.2.1 u.2.2.2.2.2.1 u.2.2.2.2.2.2 (q 5) L P F sh kf u2.2)
  refine g_icmp_eq hE 1113 dL_law_650 (by decide) (fun _ => ?_) (fun z => absurd (fPart_det hu hu2.1) z)
  exact kk _ _ _ _ _ _ _ _ _ _ _ _ _ _ _ _ (REL_of (TF_RQ hu2.2.1 hRQ) hV hW hL htp hBn hSQ hKQ hu2.2.2)
set_option maxHeartbeats 4000000 in
set_option maxRecDepth 100000 in
theorem law_season {E : CX} {Q : State → Prop} {cI cS : ClassId} {bx Lx i cells slots : Nat} {xs : Nat → Int32} (hE : CxOk E cI cS RL cL_law 4 (some .boolean) 20 600000 7302250) (hZ : ScrOk E bx Lx xs) (hLx : Lx ≤ 3072) (hi : i + 6 ≤ Lx) (hc : cells ≤ 600000) (hs : slots ≤ 7302250) {a b : Nat → Nat} (kk : LGo E Q cells slots cI cS a b bx i) {m v w : MS} {T C : Nat → Int32} {li ap va le : Int32} {B : Nat → Int32} {L P : Nat} {F : Int32} {sh : SHS} {kf : Int32} {q : MS} (hREL : REL m v w B L sh kf q) : Go E Q 4 cells slots 655 [(0, .ref bx), (1, .ref (a 0)), (2, .ref (b 0)), (3, .int (nI i))] [] (lawW cI cS a b m v w T C li ap va le B L P F sh kf q) := by
  obtain ⟨n, sv, pl, n1, sv1, pl1, n2, sv2, pl2, nw, sw, pw, hRQ, hV, hW, hL, hB5, htp, hBn, hSQ, hKQ⟩ := hREL
  subst hB5
  refine g_aload_n hE dL_law_655 1 rfl ?_
  refine g_arg hE hZ 1 rfl rfl rfl (by omega) hLx dL_law_656 dL_law_657 dL_law_658 dL_law_659 dL_law_660 ?_
  refine g_arg hE hZ 2 rfl rfl rfl (by omega) hLx dL_law_661 dL_law_662 dL_law_663 dL_law_664 dL_law_665 ?_
  refine g_callV hE (c_X4_season cI cS a m v w T C li ap va le (q 5) L P F sh kf hRQ.1 hV hW hL (xs (i + 1)) (xs (i + 2)) ) mk_X4_season mv_X4_season ml_L_89 dL_law_666 (As := [.int (xs (i + 1)), .int (xs (i + 2))]) (rest := []) rfl rfl 0 rfl (show vwCl[4]? = some (RX4, TX4, 7) from rfl) (by decide) (by decide) (Nat.le_of_ble_eq_true rfl) hc hs [0, 1, 2, 3, 4, 5, 6, 7, 8, 9, 10, 11, 12, 13, 14, 15, 16, 17, 18, 19, 20, 21, 22, 23, 24, 25, 26, 27, 28, 29, 30, 31, 32, 33, 34, 35, 36, 37, 38, 39, 40, 41, 42, 43, 44] rfl (by decide) (fun u => Nat.le_of_ble_eq_true rfl) (ws' := fun u => lawW cI cS a b u.2.1 v w u.2.2.1 u.2.2.2.1 u.2.2.2.2.1 u.2.2.2.2.2.1 u.2.2.2.2.2.2.1 u.2.2.2.2.2.2.2 (q 5) L P F sh kf q) (fun u => rfl) (fun u hu => ?_)
  show Go E Q 4 cells slots 669 [(0, .ref bx), (1, .ref (a 0)), (2, .ref (b 0)), (3, .int (nI i))] [.int u.1] (lawW cI cS a b u.2.1 v w u.2.2.1 u.2.2.2.1 u.2.2.2.2.1 u.2.2.2.2.2.1 u.2.2.2.2.2.2.1 u.2.2.2.2.2.2.2 (q 5) L P F sh kf q)
  refine g_aload_n hE dL_law_669 2 rfl ?_
  refine g_arg hE hZ 1 rfl rfl rfl (by omega) hLx dL_law_670 dL_law_671 dL_law_672 dL_law_673 dL_law_674 ?_
  refine g_arg hE hZ 2 rfl rfl rfl (by omega) hLx dL_law_675 dL_law_676 dL_law_677 dL_law_678 dL_law_679 ?_
  refine g_callV hE (c_X5_season cI cS b q m hRQ (xs (i + 1)) (xs (i + 2))) mk_X5_season mv_X5_season ml_L_92 dL_law_680 (As := [.int (xs (i + 1)), .int (xs (i + 2))]) (rest := [.int u.1]) rfl rfl 45 rfl (show vwCl[5]? = some (RX5, TX5, 32) from rfl) (by decide) (by decide) (Nat.le_of_ble_eq_true rfl) hc hs [45, 46, 47, 48, 49, 50, 51, 52, 53, 54, 55, 56, 57, 58, 59, 60, 61, 62, 63] rfl (by decide) (fun u2 => Nat.le_of_ble_eq_true rfl) (ws' := fun u2 => lawW cI cS a b u.2.1 v w u.2.2.1 u.2.2.2.1 u.2.2.2.2.1 u.2.2.2.2.2.1 u.2.2.2.2.2.2.1 u.2.2.2.2.2.2.2 (q 5) L P F sh kf u2.2) (fun u2 => rfl) (fun u2 hu2 => ?_)
  show Go E Q 4 cells slots 683 [(0, .ref bx), (1, .ref (a 0)), (2, .ref (b 0)), (3, .int (nI i))] [.int u2.1, .int u.1] (lawW cI cS a b u.2.1 v w u.2.2.1 u.2.2.2.1 u.2.2.2.2.1 u.2.2.2.2.2.1 u.2.2.2.2.2.2.1 u.2.2.2.2.2.2.2 (q 5) L P F sh kf u2.2)
  obtain ⟨mm, hmm, hR⟩ := hu2.1
  refine g_icmp_eq hE 1113 dL_law_683 (by decide) (fun _ => ?_) (fun z => absurd (fSea_det hu hmm).1 z)
  exact kk _ _ _ _ _ _ _ _ _ _ _ _ _ _ _ _ (REL_of (by rw [(fSea_det hu hmm).2]; exact hR) hV hW hL htp hBn hSQ hKQ hu2.2)
set_option maxHeartbeats 4000000 in
set_option maxRecDepth 100000 in
theorem law_fits {E : CX} {Q : State → Prop} {cI cS : ClassId} {bx Lx i cells slots : Nat} {xs : Nat → Int32} (hE : CxOk E cI cS RL cL_law 4 (some .boolean) 20 600000 7302250) (hZ : ScrOk E bx Lx xs) (hLx : Lx ≤ 3072) (hi : i + 6 ≤ Lx) (hc : cells ≤ 600000) (hs : slots ≤ 7302250) {a b : Nat → Nat} (kk : LGo E Q cells slots cI cS a b bx i) {m v w : MS} {T C : Nat → Int32} {li ap va le : Int32} {B : Nat → Int32} {L P : Nat} {F : Int32} {sh : SHS} {kf : Int32} {q : MS} (hREL : REL m v w B L sh kf q) : Go E Q 4 cells slots 688 [(0, .ref bx), (1, .ref (a 0)), (2, .ref (b 0)), (3, .int (nI i))] [] (lawW cI cS a b m v w T C li ap va le B L P F sh kf q) := by
  obtain ⟨n, sv, pl, n1, sv1, pl1, n2, sv2, pl2, nw, sw, pw, hRQ, hV, hW, hL, hB5, htp, hBn, hSQ, hKQ⟩ := hREL
  subst hB5
  refine g_aload_n hE dL_law_688 1 rfl ?_
  refine g_arg hE hZ 1 rfl rfl rfl (by omega) hLx dL_law_689 dL_law_690 dL_law_691 dL_law_692 dL_law_693 ?_
  refine g_callV hE (c_X4_fits cI cS a m v w T C li ap va le (q 5) L P F sh kf hRQ.1 hV hW hL (xs (i + 1)) ) mk_X4_fits mv_X4_fits ml_L_93 dL_law_694 (As := [.int (xs (i + 1))]) (rest := []) rfl rfl 0 rfl (show vwCl[4]? = some (RX4, TX4, 7) from rfl) (by decide) (by decide) (Nat.le_of_ble_eq_true rfl) hc hs [0, 1, 2, 3, 4, 5, 6, 7, 8, 9, 10, 11, 12, 13, 14, 15, 16, 17, 18, 19, 20, 21, 22, 23, 24, 25, 26, 27, 28, 29, 30, 31, 32, 33, 34, 35, 36, 37, 38, 39, 40, 41, 42, 43, 44] rfl (by decide) (fun u => Nat.le_of_ble_eq_true rfl) (ws' := fun u => lawW cI cS a b m v w T C li ap va le (q 5) L P F sh kf q) (fun u => rfl) (fun u hu => ?_)
  show Go E Q 4 cells slots 697 [(0, .ref bx), (1, .ref (a 0)), (2, .ref (b 0)), (3, .int (nI i))] [.long u] (lawW cI cS a b m v w T C li ap va le (q 5) L P F sh kf q)
  refine g_aload_n hE dL_law_697 2 rfl ?_
  refine g_arg hE hZ 1 rfl rfl rfl (by omega) hLx dL_law_698 dL_law_699 dL_law_700 dL_law_701 dL_law_702 ?_
  refine g_callV hE (c_X5_fits cI cS b q m hRQ (xs (i + 1))) mk_X5_fits mv_X5_fits ml_L_97 dL_law_703 (As := [.int (xs (i + 1))]) (rest := [.long u]) rfl rfl 45 rfl (show vwCl[5]? = some (RX5, TX5, 32) from rfl) (by decide) (by decide) (Nat.le_of_ble_eq_true rfl) hc hs [45, 46, 47, 48, 49, 50, 51, 52, 53, 54, 55, 56, 57, 58, 59, 60, 61, 62, 63] rfl (by decide) (fun u2 => Nat.le_of_ble_eq_true rfl) (ws' := fun u2 => lawW cI cS a b m v w T C li ap va le (q 5) L P F sh kf u2.2) (fun u2 => rfl) (fun u2 hu2 => ?_)
  show Go E Q 4 cells slots 706 [(0, .ref bx), (1, .ref (a 0)), (2, .ref (b 0)), (3, .int (nI i))] [.long u2.1, .long u] (lawW cI cS a b m v w T C li ap va le (q 5) L P F sh kf u2.2)
  refine g_lcmp hE dL_law_706 ?_
  refine g_if_eq hE 1113 dL_law_707 (by decide) (fun _ => ?_) (fun z => absurd (by rw [show u = u2.1 from (hu.trans hu2.1.symm)]; exact lg_self _) z)
  exact kk _ _ _ _ _ _ _ _ _ _ _ _ _ _ _ _ (REL_of (TF_RQ hu2.2.1 hRQ) hV hW hL htp hBn hSQ hKQ hu2.2.2)
set_option maxHeartbeats 4000000 in
set_option maxRecDepth 100000 in
theorem law_shares {E : CX} {Q : State → Prop} {cI cS : ClassId} {bx Lx i cells slots : Nat} {xs : Nat → Int32} (hE : CxOk E cI cS RL cL_law 4 (some .boolean) 20 600000 7302250) (hZ : ScrOk E bx Lx xs) (hLx : Lx ≤ 3072) (hi : i + 6 ≤ Lx) (hc : cells ≤ 600000) (hs : slots ≤ 7302250) {a b : Nat → Nat} (kk : LGo E Q cells slots cI cS a b bx i) {m v w : MS} {T C : Nat → Int32} {li ap va le : Int32} {B : Nat → Int32} {L P : Nat} {F : Int32} {sh : SHS} {kf : Int32} {q : MS} (hREL : REL m v w B L sh kf q) : Go E Q 4 cells slots 712 [(0, .ref bx), (1, .ref (a 0)), (2, .ref (b 0)), (3, .int (nI i))] [] (lawW cI cS a b m v w T C li ap va le B L P F sh kf q) := by
  obtain ⟨n, sv, pl, n1, sv1, pl1, n2, sv2, pl2, nw, sw, pw, hRQ, hV, hW, hL, hB5, htp, hBn, hSQ, hKQ⟩ := hREL
  subst hB5
  refine g_aload_n hE dL_law_712 1 rfl ?_
  refine g_arg hE hZ 1 rfl rfl rfl (by omega) hLx dL_law_713 dL_law_714 dL_law_715 dL_law_716 dL_law_717 ?_
  refine g_arg hE hZ 2 rfl rfl rfl (by omega) hLx dL_law_718 dL_law_719 dL_law_720 dL_law_721 dL_law_722 ?_
  refine g_arg hE hZ 3 rfl rfl rfl (by omega) hLx dL_law_723 dL_law_724 dL_law_725 dL_law_726 dL_law_727 ?_
  refine g_arg hE hZ 4 rfl rfl rfl (by omega) hLx dL_law_728 dL_law_729 dL_law_730 dL_law_731 dL_law_732 ?_
  refine g_callV hE (c_X4_shares cI cS a m v w T C li ap va le (q 5) L P F sh kf hRQ.1 hV hW hL (xs (i + 1)) (xs (i + 2)) (xs (i + 3)) (xs (i + 4)) ) mk_X4_shares mv_X4_shares ml_L_98 dL_law_733 (As := [.int (xs (i + 1)), .int (xs (i + 2)), .int (xs (i + 3)), .int (xs (i + 4))]) (rest := []) rfl rfl 0 rfl (show vwCl[4]? = some (RX4, TX4, 7) from rfl) (by decide) (by decide) (Nat.le_of_ble_eq_true rfl) hc hs [0, 1, 2, 3, 4, 5, 6, 7, 8, 9, 10, 11, 12, 13, 14, 15, 16, 17, 18, 19, 20, 21, 22, 23, 24, 25, 26, 27, 28, 29, 30, 31, 32, 33, 34, 35, 36, 37, 38, 39, 40, 41, 42, 43, 44] rfl (by decide) (fun u => Nat.le_of_ble_eq_true rfl) (ws' := fun u => lawW cI cS a b m v w T C li ap va le (q 5) L P F sh kf q) (fun u => rfl) (fun u hu => ?_)
  show Go E Q 4 cells slots 736 [(0, .ref bx), (1, .ref (a 0)), (2, .ref (b 0)), (3, .int (nI i))] [.int u] (lawW cI cS a b m v w T C li ap va le (q 5) L P F sh kf q)
  refine g_aload_n hE dL_law_736 2 rfl ?_
  refine g_arg hE hZ 1 rfl rfl rfl (by omega) hLx dL_law_737 dL_law_738 dL_law_739 dL_law_740 dL_law_741 ?_
  refine g_arg hE hZ 2 rfl rfl rfl (by omega) hLx dL_law_742 dL_law_743 dL_law_744 dL_law_745 dL_law_746 ?_
  refine g_arg hE hZ 3 rfl rfl rfl (by omega) hLx dL_law_747 dL_law_748 dL_law_749 dL_law_750 dL_law_751 ?_
  refine g_arg hE hZ 4 rfl rfl rfl (by omega) hLx dL_law_752 dL_law_753 dL_law_754 dL_law_755 dL_law_756 ?_
  refine g_callV hE (c_X5_shares cI cS b q m hRQ (xs (i + 1)) (xs (i + 2)) (xs (i + 3)) (xs (i + 4))) mk_X5_shares mv_X5_shares ml_L_101 dL_law_757 (As := [.int (xs (i + 1)), .int (xs (i + 2)), .int (xs (i + 3)), .int (xs (i + 4))]) (rest := [.int u]) rfl rfl 45 rfl (show vwCl[5]? = some (RX5, TX5, 32) from rfl) (by decide) (by decide) (Nat.le_of_ble_eq_true rfl) hc hs [45, 46, 47, 48, 49, 50, 51, 52, 53, 54, 55, 56, 57, 58, 59, 60, 61, 62, 63] rfl (by decide) (fun u2 => Nat.le_of_ble_eq_true rfl) (ws' := fun u2 => lawW cI cS a b m v w T C li ap va le (q 5) L P F sh kf u2.2) (fun u2 => rfl) (fun u2 hu2 => ?_)
  show Go E Q 4 cells slots 760 [(0, .ref bx), (1, .ref (a 0)), (2, .ref (b 0)), (3, .int (nI i))] [.int u2.1, .int u] (lawW cI cS a b m v w T C li ap va le (q 5) L P F sh kf u2.2)
  refine g_icmp_eq hE 1113 dL_law_760 (by decide) (fun _ => ?_) (fun z => absurd (hu.trans hu2.1.symm) z)
  exact kk _ _ _ _ _ _ _ _ _ _ _ _ _ _ _ _ (REL_of (TF_RQ hu2.2.1 hRQ) hV hW hL htp hBn hSQ hKQ hu2.2.2)
set_option maxHeartbeats 4000000 in
set_option maxRecDepth 100000 in
theorem law_image {E : CX} {Q : State → Prop} {cI cS : ClassId} {bx Lx i cells slots : Nat} {xs : Nat → Int32} (hE : CxOk E cI cS RL cL_law 4 (some .boolean) 20 600000 7302250) (hZ : ScrOk E bx Lx xs) (hLx : Lx ≤ 3072) (hi : i + 6 ≤ Lx) (hc : cells ≤ 600000) (hs : slots ≤ 7302250) {a b : Nat → Nat} (kk : LGo E Q cells slots cI cS a b bx i) {m v w : MS} {T C : Nat → Int32} {li ap va le : Int32} {B : Nat → Int32} {L P : Nat} {F : Int32} {sh : SHS} {kf : Int32} {q : MS} (hREL : REL m v w B L sh kf q) : Go E Q 4 cells slots 765 [(0, .ref bx), (1, .ref (a 0)), (2, .ref (b 0)), (3, .int (nI i))] [] (lawW cI cS a b m v w T C li ap va le B L P F sh kf q) := by
  obtain ⟨n, sv, pl, n1, sv1, pl1, n2, sv2, pl2, nw, sw, pw, hRQ, hV, hW, hL, hB5, htp, hBn, hSQ, hKQ⟩ := hREL
  subst hB5
  refine g_aload_n hE dL_law_765 1 rfl ?_
  refine g_callV hE (c_X4_image cI cS a m v w T C li ap va le (q 5) L P F sh kf hRQ.1 hV hW hL  ) mk_X4_image mv_X4_image ml_L_102 dL_law_766 (As := []) (rest := []) rfl rfl 0 rfl (show vwCl[4]? = some (RX4, TX4, 7) from rfl) (by decide) (by decide) (Nat.le_of_ble_eq_true rfl) hc hs [0, 1, 2, 3, 4, 5, 6, 7, 8, 9, 10, 11, 12, 13, 14, 15, 16, 17, 18, 19, 20, 21, 22, 23, 24, 25, 26, 27, 28, 29, 30, 31, 32, 33, 34, 35, 36, 37, 38, 39, 40, 41, 42, 43, 44] rfl (by decide) (fun u => Nat.le_of_ble_eq_true rfl) (ws' := fun u => lawW cI cS a b m v (tkA w m) T C li ap va le (q 5) L P F sh 1 q) (fun u => rfl) (fun u hu => ?_)
  show Go E Q 4 cells slots 769 [(0, .ref bx), (1, .ref (a 0)), (2, .ref (b 0)), (3, .int (nI i))] [.int u] (lawW cI cS a b m v (tkA w m) T C li ap va le (q 5) L P F sh 1 q)
  refine g_aload_n hE dL_law_769 2 rfl ?_
  refine g_callV hE (c_X5_image cI cS b q m hRQ ) mk_X5_image mv_X5_image ml_L_105 dL_law_770 (As := []) (rest := [.int u]) rfl rfl 45 rfl (show vwCl[5]? = some (RX5, TX5, 32) from rfl) (by decide) (by decide) (Nat.le_of_ble_eq_true rfl) hc hs [45, 46, 47, 48, 49, 50, 51, 52, 53, 54, 55, 56, 57, 58, 59, 60, 61, 62, 63] rfl (by decide) (fun u2 => Nat.le_of_ble_eq_true rfl) (ws' := fun u2 => lawW cI cS a b m v (tkA w m) T C li ap va le (q 5) L P F sh 1 u2.2) (fun u2 => rfl) (fun u2 hu2 => ?_)
  show Go E Q 4 cells slots 773 [(0, .ref bx), (1, .ref (a 0)), (2, .ref (b 0)), (3, .int (nI i))] [.int u2.1, .int u] (lawW cI cS a b m v (tkA w m) T C li ap va le (q 5) L P F sh 1 u2.2)
  refine g_icmp_eq hE 1113 dL_law_773 (by decide) (fun _ => ?_) (fun z => absurd (hu.trans hu2.1.symm) z)
  exact kk _ _ _ _ _ _ _ _ _ _ _ _ _ _ _ _ (REL_image hRQ hV hW hL htp hBn hSQ hu2.2.1 hu2.2.2.1 hu2.2.2.2.1 hu2.2.2.2.2)
set_option maxHeartbeats 4000000 in
set_option maxRecDepth 100000 in
theorem law_restore {E : CX} {Q : State → Prop} {cI cS : ClassId} {bx Lx i cells slots : Nat} {xs : Nat → Int32} (hE : CxOk E cI cS RL cL_law 4 (some .boolean) 20 600000 7302250) (hZ : ScrOk E bx Lx xs) (hLx : Lx ≤ 3072) (hi : i + 6 ≤ Lx) (hc : cells ≤ 600000) (hs : slots ≤ 7302250) {a b : Nat → Nat} (kk : LGo E Q cells slots cI cS a b bx i) {m v w : MS} {T C : Nat → Int32} {li ap va le : Int32} {B : Nat → Int32} {L P : Nat} {F : Int32} {sh : SHS} {kf : Int32} {q : MS} (hREL : REL m v w B L sh kf q) : Go E Q 4 cells slots 778 [(0, .ref bx), (1, .ref (a 0)), (2, .ref (b 0)), (3, .int (nI i))] [] (lawW cI cS a b m v w T C li ap va le B L P F sh kf q) := by
  obtain ⟨n, sv, pl, n1, sv1, pl1, n2, sv2, pl2, nw, sw, pw, hRQ, hV, hW, hL, hB5, htp, hBn, hSQ, hKQ⟩ := hREL
  subst hB5
  refine g_aload_n hE dL_law_778 1 rfl ?_
  refine g_callV hE (c_X4_restore cI cS a m v w T C li ap va le (q 5) L P F sh kf hRQ.1 hV hW hL  ) mk_X4_restore mv_X4_restore ml_L_106 dL_law_779 (As := []) (rest := []) rfl rfl 0 rfl (show vwCl[4]? = some (RX4, TX4, 7) from rfl) (by decide) (by decide) (Nat.le_of_ble_eq_true rfl) hc hs [0, 1, 2, 3, 4, 5, 6, 7, 8, 9, 10, 11, 12, 13, 14, 15, 16, 17, 18, 19, 20, 21, 22, 23, 24, 25, 26, 27, 28, 29, 30, 31, 32, 33, 34, 35, 36, 37, 38, 39, 40, 41, 42, 43, 44] rfl (by decide) (fun u => Nat.le_of_ble_eq_true rfl) (ws' := fun u => lawW cI cS a b u.2 v w T C li ap va le (q 5) L P F sh kf q) (fun u => rfl) (fun u hu => ?_)
  show Go E Q 4 cells slots 782 [(0, .ref bx), (1, .ref (a 0)), (2, .ref (b 0)), (3, .int (nI i))] [.int u.1] (lawW cI cS a b u.2 v w T C li ap va le (q 5) L P F sh kf q)
  refine g_aload_n hE dL_law_782 2 rfl ?_
  refine g_callV hE (c_X5_restore cI cS b q m hRQ w kf hKQ ) mk_X5_restore mv_X5_restore ml_L_109 dL_law_783 (As := []) (rest := [.int u.1]) rfl rfl 45 rfl (show vwCl[5]? = some (RX5, TX5, 32) from rfl) (by decide) (by decide) (Nat.le_of_ble_eq_true rfl) hc hs [45, 46, 47, 48, 49, 50, 51, 52, 53, 54, 55, 56, 57, 58, 59, 60, 61, 62, 63] rfl (by decide) (fun u2 => Nat.le_of_ble_eq_true rfl) (ws' := fun u2 => lawW cI cS a b u.2 v w T C li ap va le (q 5) L P F sh kf u2.2) (fun u2 => rfl) (fun u2 hu2 => ?_)
  show Go E Q 4 cells slots 786 [(0, .ref bx), (1, .ref (a 0)), (2, .ref (b 0)), (3, .int (nI i))] [.int u2.1, .int u.1] (lawW cI cS a b u.2 v w T C li ap va le (q 5) L P F sh kf u2.2)
  obtain ⟨k1, k2, k3, hR⟩ := hu2.2.1
  refine g_icmp_eq hE 1113 dL_law_786 (by decide) (fun _ => ?_) (fun z => absurd ((congrArg Prod.fst hu).trans hu2.1.symm) z)
  exact kk _ _ _ _ _ _ _ _ _ _ _ _ _ _ _ _ (REL_of (by rw [show u.2 = (fgRestore m w kf).2 from congrArg Prod.snd hu]; exact hR) hV hW hL htp hBn hSQ hKQ hu2.2.2)
set_option maxHeartbeats 4000000 in
set_option maxRecDepth 100000 in
theorem law_meshes {E : CX} {Q : State → Prop} {cI cS : ClassId} {bx Lx i cells slots : Nat} {xs : Nat → Int32} (hE : CxOk E cI cS RL cL_law 4 (some .boolean) 20 600000 7302250) (hZ : ScrOk E bx Lx xs) (hLx : Lx ≤ 3072) (hi : i + 6 ≤ Lx) (hc : cells ≤ 600000) (hs : slots ≤ 7302250) {a b : Nat → Nat} (kk : LGo E Q cells slots cI cS a b bx i) {m v w : MS} {T C : Nat → Int32} {li ap va le : Int32} {B : Nat → Int32} {L P : Nat} {F : Int32} {sh : SHS} {kf : Int32} {q : MS} (hREL : REL m v w B L sh kf q) : Go E Q 4 cells slots 791 [(0, .ref bx), (1, .ref (a 0)), (2, .ref (b 0)), (3, .int (nI i))] [] (lawW cI cS a b m v w T C li ap va le B L P F sh kf q) := by
  obtain ⟨n, sv, pl, n1, sv1, pl1, n2, sv2, pl2, nw, sw, pw, hRQ, hV, hW, hL, hB5, htp, hBn, hSQ, hKQ⟩ := hREL
  subst hB5
  refine g_aload_n hE dL_law_791 1 rfl ?_
  refine g_arg hE hZ 1 rfl rfl rfl (by omega) hLx dL_law_792 dL_law_793 dL_law_794 dL_law_795 dL_law_796 ?_
  refine g_arg hE hZ 2 rfl rfl rfl (by omega) hLx dL_law_797 dL_law_798 dL_law_799 dL_law_800 dL_law_801 ?_
  refine g_arg hE hZ 3 rfl rfl rfl (by omega) hLx dL_law_802 dL_law_803 dL_law_804 dL_law_805 dL_law_806 ?_
  refine g_arg hE hZ 4 rfl rfl rfl (by omega) hLx dL_law_807 dL_law_808 dL_law_809 dL_law_810 dL_law_811 ?_
  refine g_callV hE (c_X4_meshes cI cS a m v w T C li ap va le (q 5) L P F sh kf hRQ.1 hV hW hL (xs (i + 1)) (xs (i + 2)) (xs (i + 3)) (xs (i + 4)) ) mk_X4_meshes mv_X4_meshes ml_L_110 dL_law_812 (As := [.int (xs (i + 1)), .int (xs (i + 2)), .int (xs (i + 3)), .int (xs (i + 4))]) (rest := []) rfl rfl 0 rfl (show vwCl[4]? = some (RX4, TX4, 7) from rfl) (by decide) (by decide) (Nat.le_of_ble_eq_true rfl) hc hs [0, 1, 2, 3, 4, 5, 6, 7, 8, 9, 10, 11, 12, 13, 14, 15, 16, 17, 18, 19, 20, 21, 22, 23, 24, 25, 26, 27, 28, 29, 30, 31, 32, 33, 34, 35, 36, 37, 38, 39, 40, 41, 42, 43, 44] rfl (by decide) (fun u => Nat.le_of_ble_eq_true rfl) (ws' := fun u => lawW cI cS a b m u.2.2 w T C li ap va le (q 5) L P F sh kf q) (fun u => rfl) (fun u hu => ?_)
  show Go E Q 4 cells slots 815 [(0, .ref bx), (1, .ref (a 0)), (2, .ref (b 0)), (3, .int (nI i))] [.long u.2.1] (lawW cI cS a b m u.2.2 w T C li ap va le (q 5) L P F sh kf q)
  refine g_aload_n hE dL_law_815 2 rfl ?_
  refine g_arg hE hZ 1 rfl rfl rfl (by omega) hLx dL_law_816 dL_law_817 dL_law_818 dL_law_819 dL_law_820 ?_
  refine g_arg hE hZ 2 rfl rfl rfl (by omega) hLx dL_law_821 dL_law_822 dL_law_823 dL_law_824 dL_law_825 ?_
  refine g_arg hE hZ 3 rfl rfl rfl (by omega) hLx dL_law_826 dL_law_827 dL_law_828 dL_law_829 dL_law_830 ?_
  refine g_arg hE hZ 4 rfl rfl rfl (by omega) hLx dL_law_831 dL_law_832 dL_law_833 dL_law_834 dL_law_835 ?_
  refine g_callV hE (c_X5_meshes cI cS b q m hRQ sh hSQ (xs (i + 1)) (xs (i + 2)) (xs (i + 3)) (xs (i + 4)) u.1 hu.1) mk_X5_meshes mv_X5_meshes ml_L_114 dL_law_836 (As := [.int (xs (i + 1)), .int (xs (i + 2)), .int (xs (i + 3)), .int (xs (i + 4))]) (rest := [.long u.2.1]) rfl rfl 45 rfl (show vwCl[5]? = some (RX5, TX5, 32) from rfl) (by decide) (by decide) (Nat.le_of_ble_eq_true rfl) hc hs [45, 46, 47, 48, 49, 50, 51, 52, 53, 54, 55, 56, 57, 58, 59, 60, 61, 62, 63] rfl (by decide) (fun u2 => Nat.le_of_ble_eq_true rfl) (ws' := fun u2 => lawW cI cS a b m u.2.2 w T C li ap va le (q 5) L P F sh kf u2.2) (fun u2 => rfl) (fun u2 hu2 => ?_)
  show Go E Q 4 cells slots 839 [(0, .ref bx), (1, .ref (a 0)), (2, .ref (b 0)), (3, .int (nI i))] [.long u2.1, .long u.2.1] (lawW cI cS a b m u.2.2 w T C li ap va le (q 5) L P F sh kf u2.2)
  obtain ⟨k1, k2, k3, hV2⟩ : ∃ k1 k2 k3, MW u.2.2 k1 k2 k3 := by
    rcases hu.2.2 with h | h
    · exact ⟨_, _, _, h⟩
    · rw [h]; exact ⟨_, _, _, hV⟩
  refine g_lcmp hE dL_law_839 ?_
  refine g_if_eq hE 1113 dL_law_840 (by decide) (fun _ => ?_) (fun z => absurd (by rw [show u.2.1 = u2.1 from (hu.2.1.trans hu2.1.symm)]; exact lg_self _) z)
  exact kk _ _ _ _ _ _ _ _ _ _ _ _ _ _ _ _ (REL_of (TF_RQ hu2.2.1 hRQ) hV2 hW hL htp hBn hSQ hKQ hu2.2.2)
set_option maxHeartbeats 4000000 in
set_option maxRecDepth 100000 in
theorem law_torn {E : CX} {Q : State → Prop} {cI cS : ClassId} {bx Lx i cells slots : Nat} {xs : Nat → Int32} (hE : CxOk E cI cS RL cL_law 4 (some .boolean) 20 600000 7302250) (hZ : ScrOk E bx Lx xs) (hLx : Lx ≤ 3072) (hi : i + 6 ≤ Lx) (hc : cells ≤ 600000) (hs : slots ≤ 7302250) {a b : Nat → Nat} (kk : LGo E Q cells slots cI cS a b bx i) {m v w : MS} {T C : Nat → Int32} {li ap va le : Int32} {B : Nat → Int32} {L P : Nat} {F : Int32} {sh : SHS} {kf : Int32} {q : MS} (hREL : REL m v w B L sh kf q) : Go E Q 4 cells slots 845 [(0, .ref bx), (1, .ref (a 0)), (2, .ref (b 0)), (3, .int (nI i))] [] (lawW cI cS a b m v w T C li ap va le B L P F sh kf q) := by
  obtain ⟨n, sv, pl, n1, sv1, pl1, n2, sv2, pl2, nw, sw, pw, hRQ, hV, hW, hL, hB5, htp, hBn, hSQ, hKQ⟩ := hREL
  subst hB5
  refine g_aload_n hE dL_law_845 1 rfl ?_
  refine g_arg hE hZ 1 rfl rfl rfl (by omega) hLx dL_law_846 dL_law_847 dL_law_848 dL_law_849 dL_law_850 ?_
  refine g_arg hE hZ 2 rfl rfl rfl (by omega) hLx dL_law_851 dL_law_852 dL_law_853 dL_law_854 dL_law_855 ?_
  refine g_arg hE hZ 3 rfl rfl rfl (by omega) hLx dL_law_856 dL_law_857 dL_law_858 dL_law_859 dL_law_860 ?_
  refine g_callV hE (c_X4_torn cI cS a m v w T C li ap va le (q 5) L P F sh kf hRQ.1 hV hW hL (xs (i + 1)) (xs (i + 2)) (xs (i + 3)) ) mk_X4_torn mv_X4_torn ml_L_115 dL_law_861 (As := [.int (xs (i + 1)), .int (xs (i + 2)), .int (xs (i + 3))]) (rest := []) rfl rfl 0 rfl (show vwCl[4]? = some (RX4, TX4, 7) from rfl) (by decide) (by decide) (Nat.le_of_ble_eq_true rfl) hc hs [0, 1, 2, 3, 4, 5, 6, 7, 8, 9, 10, 11, 12, 13, 14, 15, 16, 17, 18, 19, 20, 21, 22, 23, 24, 25, 26, 27, 28, 29, 30, 31, 32, 33, 34, 35, 36, 37, 38, 39, 40, 41, 42, 43, 44] rfl (by decide) (fun u => Nat.le_of_ble_eq_true rfl) (ws' := fun u => lawW cI cS a b (pA m 8 u.2.2.2) u.2.2.1 w T C li ap va le (q 5) L P F sh kf q) (fun u => rfl) (fun u hu => ?_)
  show Go E Q 4 cells slots 864 [(0, .ref bx), (1, .ref (a 0)), (2, .ref (b 0)), (3, .int (nI i))] [.int u.2.1] (lawW cI cS a b (pA m 8 u.2.2.2) u.2.2.1 w T C li ap va le (q 5) L P F sh kf q)
  refine g_aload_n hE dL_law_864 2 rfl ?_
  refine g_arg hE hZ 1 rfl rfl rfl (by omega) hLx dL_law_865 dL_law_866 dL_law_867 dL_law_868 dL_law_869 ?_
  refine g_arg hE hZ 2 rfl rfl rfl (by omega) hLx dL_law_870 dL_law_871 dL_law_872 dL_law_873 dL_law_874 ?_
  refine g_arg hE hZ 3 rfl rfl rfl (by omega) hLx dL_law_875 dL_law_876 dL_law_877 dL_law_878 dL_law_879 ?_
  refine g_callV hE (c_X5_torn cI cS b q m hRQ sh hSQ (xs (i + 1)) (xs (i + 2)) (xs (i + 3)) u.1 hu.1) mk_X5_torn mv_X5_torn ml_L_118 dL_law_880 (As := [.int (xs (i + 1)), .int (xs (i + 2)), .int (xs (i + 3))]) (rest := [.int u.2.1]) rfl rfl 45 rfl (show vwCl[5]? = some (RX5, TX5, 32) from rfl) (by decide) (by decide) (Nat.le_of_ble_eq_true rfl) hc hs [45, 46, 47, 48, 49, 50, 51, 52, 53, 54, 55, 56, 57, 58, 59, 60, 61, 62, 63] rfl (by decide) (fun u2 => Nat.le_of_ble_eq_true rfl) (ws' := fun u2 => lawW cI cS a b (pA m 8 u.2.2.2) u.2.2.1 w T C li ap va le (q 5) L P F sh kf u2.2) (fun u2 => rfl) (fun u2 hu2 => ?_)
  show Go E Q 4 cells slots 883 [(0, .ref bx), (1, .ref (a 0)), (2, .ref (b 0)), (3, .int (nI i))] [.int u2.1, .int u.2.1] (lawW cI cS a b (pA m 8 u.2.2.2) u.2.2.1 w T C li ap va le (q 5) L P F sh kf u2.2)
  obtain ⟨k1, k2, k3, hV2⟩ : ∃ k1 k2 k3, MW u.2.2.1 k1 k2 k3 := by
    rcases hu.2.2 with h | h
    · exact ⟨_, _, _, h⟩
    · rw [h]; exact ⟨_, _, _, hV⟩
  refine g_icmp_eq hE 1113 dL_law_883 (by decide) (fun _ => ?_) (fun z => absurd (hu.2.1.trans hu2.1.symm) z)
  exact kk _ _ _ _ _ _ _ _ _ _ _ _ _ _ _ _ (REL_of (RQ_8 (TF_RQ hu2.2.1 hRQ)) hV2 hW hL htp hBn hSQ hKQ hu2.2.2)
set_option maxHeartbeats 4000000 in
set_option maxRecDepth 100000 in
theorem law_sheet {E : CX} {Q : State → Prop} {cI cS : ClassId} {bx Lx i cells slots : Nat} {xs : Nat → Int32} (hE : CxOk E cI cS RL cL_law 4 (some .boolean) 20 600000 7302250) (hZ : ScrOk E bx Lx xs) (hLx : Lx ≤ 3072) (hi : i + 6 ≤ Lx) (hc : cells ≤ 600000) (hs : slots ≤ 7302250) {a b : Nat → Nat} (kk : LGo E Q cells slots cI cS a b bx i) {m v w : MS} {T C : Nat → Int32} {li ap va le : Int32} {B : Nat → Int32} {L P : Nat} {F : Int32} {sh : SHS} {kf : Int32} {q : MS} (hREL : REL m v w B L sh kf q) : Go E Q 4 cells slots 888 [(0, .ref bx), (1, .ref (a 0)), (2, .ref (b 0)), (3, .int (nI i))] [] (lawW cI cS a b m v w T C li ap va le B L P F sh kf q) := by
  obtain ⟨n, sv, pl, n1, sv1, pl1, n2, sv2, pl2, nw, sw, pw, hRQ, hV, hW, hL, hB5, htp, hBn, hSQ, hKQ⟩ := hREL
  subst hB5
  refine g_aload_n hE dL_law_888 1 rfl ?_
  refine g_arg hE hZ 1 rfl rfl rfl (by omega) hLx dL_law_889 dL_law_890 dL_law_891 dL_law_892 dL_law_893 ?_
  refine g_arg hE hZ 2 rfl rfl rfl (by omega) hLx dL_law_894 dL_law_895 dL_law_896 dL_law_897 dL_law_898 ?_
  refine g_arg hE hZ 3 rfl rfl rfl (by omega) hLx dL_law_899 dL_law_900 dL_law_901 dL_law_902 dL_law_903 ?_
  refine g_callV hE (c_X4_sheet cI cS a m v w T C li ap va le (q 5) L P F sh kf hRQ.1 hV hW hL (xs (i + 1)) (xs (i + 2)) (xs (i + 3)) ) mk_X4_sheet mv_X4_sheet ml_L_119 dL_law_904 (As := [.int (xs (i + 1)), .int (xs (i + 2)), .int (xs (i + 3))]) (rest := []) rfl rfl 0 rfl (show vwCl[4]? = some (RX4, TX4, 7) from rfl) (by decide) (by decide) (Nat.le_of_ble_eq_true rfl) hc hs [0, 1, 2, 3, 4, 5, 6, 7, 8, 9, 10, 11, 12, 13, 14, 15, 16, 17, 18, 19, 20, 21, 22, 23, 24, 25, 26, 27, 28, 29, 30, 31, 32, 33, 34, 35, 36, 37, 38, 39, 40, 41, 42, 43, 44] rfl (by decide) (fun u => Nat.le_of_ble_eq_true rfl) (ws' := fun u => lawW cI cS a b m v w T C li ap va le (q 5) L P F u.2.2 kf q) (fun u => rfl) (fun u hu => ?_)
  show Go E Q 4 cells slots 907 [(0, .ref bx), (1, .ref (a 0)), (2, .ref (b 0)), (3, .int (nI i))] [.int u.2.1] (lawW cI cS a b m v w T C li ap va le (q 5) L P F u.2.2 kf q)
  refine g_aload_n hE dL_law_907 2 rfl ?_
  refine g_arg hE hZ 1 rfl rfl rfl (by omega) hLx dL_law_908 dL_law_909 dL_law_910 dL_law_911 dL_law_912 ?_
  refine g_arg hE hZ 2 rfl rfl rfl (by omega) hLx dL_law_913 dL_law_914 dL_law_915 dL_law_916 dL_law_917 ?_
  refine g_arg hE hZ 3 rfl rfl rfl (by omega) hLx dL_law_918 dL_law_919 dL_law_920 dL_law_921 dL_law_922 ?_
  refine g_callV hE (c_X5_sheet cI cS b q m hRQ sh hSQ (xs (i + 1)) (xs (i + 2)) (xs (i + 3)) u.1 hu.1) mk_X5_sheet mv_X5_sheet ml_L_122 dL_law_923 (As := [.int (xs (i + 1)), .int (xs (i + 2)), .int (xs (i + 3))]) (rest := [.int u.2.1]) rfl rfl 45 rfl (show vwCl[5]? = some (RX5, TX5, 32) from rfl) (by decide) (by decide) (Nat.le_of_ble_eq_true rfl) hc hs [45, 46, 47, 48, 49, 50, 51, 52, 53, 54, 55, 56, 57, 58, 59, 60, 61, 62, 63] rfl (by decide) (fun u2 => Nat.le_of_ble_eq_true rfl) (ws' := fun u2 => lawW cI cS a b m v w T C li ap va le (q 5) L P F u.2.2 kf u2.2) (fun u2 => rfl) (fun u2 hu2 => ?_)
  show Go E Q 4 cells slots 926 [(0, .ref bx), (1, .ref (a 0)), (2, .ref (b 0)), (3, .int (nI i))] [.int u2.1, .int u.2.1] (lawW cI cS a b m v w T C li ap va le (q 5) L P F u.2.2 kf u2.2)
  refine g_icmp_eq hE 1113 dL_law_926 (by decide) (fun _ => ?_) (fun z => absurd ((congrArg Prod.fst hu.2).trans hu2.1.symm) z)
  exact kk _ _ _ _ _ _ _ _ _ _ _ _ _ _ _ _ (REL_os (TF_RQ hu2.2.1 hRQ) hV hW hL htp hBn (by rw [show u.2.2 = (fgSheet sh u.1 (xs (i + 2)) (xs (i + 3))).2 from congrArg Prod.snd hu.2]; exact hu2.2.2.2) hKQ hu2.2.2.1)
set_option maxHeartbeats 4000000 in
set_option maxRecDepth 100000 in
theorem law_drop {E : CX} {Q : State → Prop} {cI cS : ClassId} {bx Lx i cells slots : Nat} {xs : Nat → Int32} (hE : CxOk E cI cS RL cL_law 4 (some .boolean) 20 600000 7302250) (hZ : ScrOk E bx Lx xs) (hLx : Lx ≤ 3072) (hi : i + 6 ≤ Lx) (hc : cells ≤ 600000) (hs : slots ≤ 7302250) {a b : Nat → Nat} (kk : LGo E Q cells slots cI cS a b bx i) {m v w : MS} {T C : Nat → Int32} {li ap va le : Int32} {B : Nat → Int32} {L P : Nat} {F : Int32} {sh : SHS} {kf : Int32} {q : MS} (hREL : REL m v w B L sh kf q) : Go E Q 4 cells slots 931 [(0, .ref bx), (1, .ref (a 0)), (2, .ref (b 0)), (3, .int (nI i))] [] (lawW cI cS a b m v w T C li ap va le B L P F sh kf q) := by
  obtain ⟨n, sv, pl, n1, sv1, pl1, n2, sv2, pl2, nw, sw, pw, hRQ, hV, hW, hL, hB5, htp, hBn, hSQ, hKQ⟩ := hREL
  subst hB5
  refine g_aload_n hE dL_law_931 1 rfl ?_
  refine g_arg hE hZ 1 rfl rfl rfl (by omega) hLx dL_law_932 dL_law_933 dL_law_934 dL_law_935 dL_law_936 ?_
  refine g_callV hE (c_X4_drop cI cS a m v w T C li ap va le (q 5) L P F sh kf hRQ.1 hV hW hL (xs (i + 1)) ) mk_X4_drop mv_X4_drop ml_L_123 dL_law_937 (As := [.int (xs (i + 1))]) (rest := []) rfl rfl 0 rfl (show vwCl[4]? = some (RX4, TX4, 7) from rfl) (by decide) (by decide) (Nat.le_of_ble_eq_true rfl) hc hs [0, 1, 2, 3, 4, 5, 6, 7, 8, 9, 10, 11, 12, 13, 14, 15, 16, 17, 18, 19, 20, 21, 22, 23, 24, 25, 26, 27, 28, 29, 30, 31, 32, 33, 34, 35, 36, 37, 38, 39, 40, 41, 42, 43, 44] rfl (by decide) (fun u => Nat.le_of_ble_eq_true rfl) (ws' := fun u => lawW cI cS a b m v w T C li ap va le (q 5) L P F u.2.2 kf q) (fun u => rfl) (fun u hu => ?_)
  show Go E Q 4 cells slots 940 [(0, .ref bx), (1, .ref (a 0)), (2, .ref (b 0)), (3, .int (nI i))] [.int u.2.1] (lawW cI cS a b m v w T C li ap va le (q 5) L P F u.2.2 kf q)
  refine g_aload_n hE dL_law_940 2 rfl ?_
  refine g_arg hE hZ 1 rfl rfl rfl (by omega) hLx dL_law_941 dL_law_942 dL_law_943 dL_law_944 dL_law_945 ?_
  refine g_callV hE (c_X5_drop cI cS b q m hRQ sh hSQ (xs (i + 1)) u.1 hu.1) mk_X5_drop mv_X5_drop ml_L_126 dL_law_946 (As := [.int (xs (i + 1))]) (rest := [.int u.2.1]) rfl rfl 45 rfl (show vwCl[5]? = some (RX5, TX5, 32) from rfl) (by decide) (by decide) (Nat.le_of_ble_eq_true rfl) hc hs [45, 46, 47, 48, 49, 50, 51, 52, 53, 54, 55, 56, 57, 58, 59, 60, 61, 62, 63] rfl (by decide) (fun u2 => Nat.le_of_ble_eq_true rfl) (ws' := fun u2 => lawW cI cS a b m v w T C li ap va le (q 5) L P F u.2.2 kf u2.2) (fun u2 => rfl) (fun u2 hu2 => ?_)
  show Go E Q 4 cells slots 949 [(0, .ref bx), (1, .ref (a 0)), (2, .ref (b 0)), (3, .int (nI i))] [.int u2.1, .int u.2.1] (lawW cI cS a b m v w T C li ap va le (q 5) L P F u.2.2 kf u2.2)
  refine g_icmp_eq hE 1113 dL_law_949 (by decide) (fun _ => ?_) (fun z => absurd ((congrArg Prod.fst hu.2).trans hu2.1.symm) z)
  exact kk _ _ _ _ _ _ _ _ _ _ _ _ _ _ _ _ (REL_os (TF_RQ hu2.2.1 hRQ) hV hW hL htp hBn (by rw [show u.2.2 = (fgDrop sh u.1).2 from congrArg Prod.snd hu.2]; exact hu2.2.2.2) hKQ hu2.2.2.1)
set_option maxHeartbeats 4000000 in
set_option maxRecDepth 100000 in
theorem law_item {E : CX} {Q : State → Prop} {cI cS : ClassId} {bx Lx i cells slots : Nat} {xs : Nat → Int32} (hE : CxOk E cI cS RL cL_law 4 (some .boolean) 20 600000 7302250) (hZ : ScrOk E bx Lx xs) (hLx : Lx ≤ 3072) (hi : i + 6 ≤ Lx) (hc : cells ≤ 600000) (hs : slots ≤ 7302250) {a b : Nat → Nat} (kk : LGo E Q cells slots cI cS a b bx i) {m v w : MS} {T C : Nat → Int32} {li ap va le : Int32} {B : Nat → Int32} {L P : Nat} {F : Int32} {sh : SHS} {kf : Int32} {q : MS} (hREL : REL m v w B L sh kf q) : Go E Q 4 cells slots 954 [(0, .ref bx), (1, .ref (a 0)), (2, .ref (b 0)), (3, .int (nI i))] [] (lawW cI cS a b m v w T C li ap va le B L P F sh kf q) := by
  obtain ⟨n, sv, pl, n1, sv1, pl1, n2, sv2, pl2, nw, sw, pw, hRQ, hV, hW, hL, hB5, htp, hBn, hSQ, hKQ⟩ := hREL
  subst hB5
  refine g_aload_n hE dL_law_954 1 rfl ?_
  refine g_arg hE hZ 1 rfl rfl rfl (by omega) hLx dL_law_955 dL_law_956 dL_law_957 dL_law_958 dL_law_959 ?_
  refine g_arg hE hZ 2 rfl rfl rfl (by omega) hLx dL_law_960 dL_law_961 dL_law_962 dL_law_963 dL_law_964 ?_
  refine g_arg hE hZ 3 rfl rfl rfl (by omega) hLx dL_law_965 dL_law_966 dL_law_967 dL_law_968 dL_law_969 ?_
  refine g_arg hE hZ 4 rfl rfl rfl (by omega) hLx dL_law_970 dL_law_971 dL_law_972 dL_law_973 dL_law_974 ?_
  refine g_callV hE (c_X4_item cI cS a m v w T C li ap va le (q 5) L P F sh kf hRQ.1 hV hW hL (xs (i + 1)) (xs (i + 2)) (xs (i + 3)) (xs (i + 4)) ) mk_X4_item mv_X4_item ml_L_127 dL_law_975 (As := [.int (xs (i + 1)), .int (xs (i + 2)), .int (xs (i + 3)), .int (xs (i + 4))]) (rest := []) rfl rfl 0 rfl (show vwCl[4]? = some (RX4, TX4, 7) from rfl) (by decide) (by decide) (Nat.le_of_ble_eq_true rfl) hc hs [0, 1, 2, 3, 4, 5, 6, 7, 8, 9, 10, 11, 12, 13, 14, 15, 16, 17, 18, 19, 20, 21, 22, 23, 24, 25, 26, 27, 28, 29, 30, 31, 32, 33, 34, 35, 36, 37, 38, 39, 40, 41, 42, 43, 44] rfl (by decide) (fun u => Nat.le_of_ble_eq_true rfl) (ws' := fun u => lawW cI cS a b m v w T C li ap va le (q 5) L P F u.2.2 kf q) (fun u => rfl) (fun u hu => ?_)
  show Go E Q 4 cells slots 978 [(0, .ref bx), (1, .ref (a 0)), (2, .ref (b 0)), (3, .int (nI i))] [.int u.2.1] (lawW cI cS a b m v w T C li ap va le (q 5) L P F u.2.2 kf q)
  refine g_aload_n hE dL_law_978 2 rfl ?_
  refine g_arg hE hZ 1 rfl rfl rfl (by omega) hLx dL_law_979 dL_law_980 dL_law_981 dL_law_982 dL_law_983 ?_
  refine g_arg hE hZ 2 rfl rfl rfl (by omega) hLx dL_law_984 dL_law_985 dL_law_986 dL_law_987 dL_law_988 ?_
  refine g_arg hE hZ 3 rfl rfl rfl (by omega) hLx dL_law_989 dL_law_990 dL_law_991 dL_law_992 dL_law_993 ?_
  refine g_arg hE hZ 4 rfl rfl rfl (by omega) hLx dL_law_994 dL_law_995 dL_law_996 dL_law_997 dL_law_998 ?_
  refine g_callV hE (c_X5_item cI cS b q m hRQ sh hSQ (xs (i + 1)) (xs (i + 2)) (xs (i + 3)) (xs (i + 4)) u.1 hu.1) mk_X5_item mv_X5_item ml_L_130 dL_law_999 (As := [.int (xs (i + 1)), .int (xs (i + 2)), .int (xs (i + 3)), .int (xs (i + 4))]) (rest := [.int u.2.1]) rfl rfl 45 rfl (show vwCl[5]? = some (RX5, TX5, 32) from rfl) (by decide) (by decide) (Nat.le_of_ble_eq_true rfl) hc hs [45, 46, 47, 48, 49, 50, 51, 52, 53, 54, 55, 56, 57, 58, 59, 60, 61, 62, 63] rfl (by decide) (fun u2 => Nat.le_of_ble_eq_true rfl) (ws' := fun u2 => lawW cI cS a b m v w T C li ap va le (q 5) L P F u.2.2 kf u2.2) (fun u2 => rfl) (fun u2 hu2 => ?_)
  show Go E Q 4 cells slots 1002 [(0, .ref bx), (1, .ref (a 0)), (2, .ref (b 0)), (3, .int (nI i))] [.int u2.1, .int u.2.1] (lawW cI cS a b m v w T C li ap va le (q 5) L P F u.2.2 kf u2.2)
  refine g_icmp_eq hE 1113 dL_law_1002 (by decide) (fun _ => ?_) (fun z => absurd ((congrArg Prod.fst hu.2).trans hu2.1.symm) z)
  exact kk _ _ _ _ _ _ _ _ _ _ _ _ _ _ _ _ (REL_os (TF_RQ hu2.2.1 hRQ) hV hW hL htp hBn (by rw [show u.2.2 = (fgItem sh u.1 (xs (i + 2)) (xs (i + 3)) (xs (i + 4))).2 from congrArg Prod.snd hu.2]; exact hu2.2.2.2) hKQ hu2.2.2.1)
set_option maxHeartbeats 4000000 in
set_option maxRecDepth 100000 in
theorem law_film {E : CX} {Q : State → Prop} {cI cS : ClassId} {bx Lx i cells slots : Nat} {xs : Nat → Int32} (hE : CxOk E cI cS RL cL_law 4 (some .boolean) 20 600000 7302250) (hZ : ScrOk E bx Lx xs) (hLx : Lx ≤ 3072) (hi : i + 6 ≤ Lx) (hc : cells ≤ 600000) (hs : slots ≤ 7302250) {a b : Nat → Nat} (kk : LGo E Q cells slots cI cS a b bx i) {m v w : MS} {T C : Nat → Int32} {li ap va le : Int32} {B : Nat → Int32} {L P : Nat} {F : Int32} {sh : SHS} {kf : Int32} {q : MS} (hREL : REL m v w B L sh kf q) : Go E Q 4 cells slots 1007 [(0, .ref bx), (1, .ref (a 0)), (2, .ref (b 0)), (3, .int (nI i))] [] (lawW cI cS a b m v w T C li ap va le B L P F sh kf q) := by
  obtain ⟨n, sv, pl, n1, sv1, pl1, n2, sv2, pl2, nw, sw, pw, hRQ, hV, hW, hL, hB5, htp, hBn, hSQ, hKQ⟩ := hREL
  subst hB5
  refine g_aload_n hE dL_law_1007 1 rfl ?_
  refine g_arg hE hZ 1 rfl rfl rfl (by omega) hLx dL_law_1008 dL_law_1009 dL_law_1010 dL_law_1011 dL_law_1012 ?_
  refine g_arg hE hZ 2 rfl rfl rfl (by omega) hLx dL_law_1013 dL_law_1014 dL_law_1015 dL_law_1016 dL_law_1017 ?_
  refine g_arg hE hZ 3 rfl rfl rfl (by omega) hLx dL_law_1018 dL_law_1019 dL_law_1020 dL_law_1021 dL_law_1022 ?_
  refine g_callV hE (c_X4_film cI cS a m v w T C li ap va le (q 5) L P F sh kf hRQ.1 hV hW hL (xs (i + 1)) (xs (i + 2)) (xs (i + 3)) ) mk_X4_film mv_X4_film ml_L_131 dL_law_1023 (As := [.int (xs (i + 1)), .int (xs (i + 2)), .int (xs (i + 3))]) (rest := []) rfl rfl 0 rfl (show vwCl[4]? = some (RX4, TX4, 7) from rfl) (by decide) (by decide) (Nat.le_of_ble_eq_true rfl) hc hs [0, 1, 2, 3, 4, 5, 6, 7, 8, 9, 10, 11, 12, 13, 14, 15, 16, 17, 18, 19, 20, 21, 22, 23, 24, 25, 26, 27, 28, 29, 30, 31, 32, 33, 34, 35, 36, 37, 38, 39, 40, 41, 42, 43, 44] rfl (by decide) (fun u => Nat.le_of_ble_eq_true rfl) (ws' := fun u => lawW cI cS a b (pA m 8 u.2.2.2) v w T C li ap va le (q 5) L P F u.2.2.1 kf q) (fun u => rfl) (fun u hu => ?_)
  show Go E Q 4 cells slots 1026 [(0, .ref bx), (1, .ref (a 0)), (2, .ref (b 0)), (3, .int (nI i))] [.int u.2.1] (lawW cI cS a b (pA m 8 u.2.2.2) v w T C li ap va le (q 5) L P F u.2.2.1 kf q)
  refine g_aload_n hE dL_law_1026 2 rfl ?_
  refine g_arg hE hZ 1 rfl rfl rfl (by omega) hLx dL_law_1027 dL_law_1028 dL_law_1029 dL_law_1030 dL_law_1031 ?_
  refine g_arg hE hZ 2 rfl rfl rfl (by omega) hLx dL_law_1032 dL_law_1033 dL_law_1034 dL_law_1035 dL_law_1036 ?_
  refine g_arg hE hZ 3 rfl rfl rfl (by omega) hLx dL_law_1037 dL_law_1038 dL_law_1039 dL_law_1040 dL_law_1041 ?_
  refine g_callV hE (c_X5_film cI cS b q m hRQ sh hSQ (xs (i + 1)) (xs (i + 2)) (xs (i + 3)) u.1 hu.1) mk_X5_film mv_X5_film ml_L_134 dL_law_1042 (As := [.int (xs (i + 1)), .int (xs (i + 2)), .int (xs (i + 3))]) (rest := [.int u.2.1]) rfl rfl 45 rfl (show vwCl[5]? = some (RX5, TX5, 32) from rfl) (by decide) (by decide) (Nat.le_of_ble_eq_true rfl) hc hs [45, 46, 47, 48, 49, 50, 51, 52, 53, 54, 55, 56, 57, 58, 59, 60, 61, 62, 63] rfl (by decide) (fun u2 => Nat.le_of_ble_eq_true rfl) (ws' := fun u2 => lawW cI cS a b (pA m 8 u.2.2.2) v w T C li ap va le (q 5) L P F u.2.2.1 kf u2.2) (fun u2 => rfl) (fun u2 hu2 => ?_)
  show Go E Q 4 cells slots 1045 [(0, .ref bx), (1, .ref (a 0)), (2, .ref (b 0)), (3, .int (nI i))] [.int u2.1, .int u.2.1] (lawW cI cS a b (pA m 8 u.2.2.2) v w T C li ap va le (q 5) L P F u.2.2.1 kf u2.2)
  refine g_icmp_eq hE 1113 dL_law_1045 (by decide) (fun _ => ?_) (fun z => absurd ((congrArg Prod.fst hu.2).trans hu2.1.symm) z)
  exact kk _ _ _ _ _ _ _ _ _ _ _ _ _ _ _ _ (REL_os (RQ_8 (TF_RQ hu2.2.1 hRQ)) hV hW hL htp hBn (by rw [show u.2.2.1 = (fgFilm m n pl sh u.1 (xs (i + 2)) (xs (i + 3))).2 from congrArg Prod.snd hu.2]; exact hu2.2.2.2) hKQ hu2.2.2.1)
set_option maxHeartbeats 4000000 in
set_option maxRecDepth 100000 in
theorem law_copy {E : CX} {Q : State → Prop} {cI cS : ClassId} {bx Lx i cells slots : Nat} {xs : Nat → Int32} (hE : CxOk E cI cS RL cL_law 4 (some .boolean) 20 600000 7302250) (hZ : ScrOk E bx Lx xs) (hLx : Lx ≤ 3072) (hi : i + 6 ≤ Lx) (hc : cells ≤ 600000) (hs : slots ≤ 7302250) {a b : Nat → Nat} (kk : LGo E Q cells slots cI cS a b bx i) {m v w : MS} {T C : Nat → Int32} {li ap va le : Int32} {B : Nat → Int32} {L P : Nat} {F : Int32} {sh : SHS} {kf : Int32} {q : MS} (hREL : REL m v w B L sh kf q) : Go E Q 4 cells slots 1050 [(0, .ref bx), (1, .ref (a 0)), (2, .ref (b 0)), (3, .int (nI i))] [] (lawW cI cS a b m v w T C li ap va le B L P F sh kf q) := by
  obtain ⟨n, sv, pl, n1, sv1, pl1, n2, sv2, pl2, nw, sw, pw, hRQ, hV, hW, hL, hB5, htp, hBn, hSQ, hKQ⟩ := hREL
  subst hB5
  refine g_aload_n hE dL_law_1050 1 rfl ?_
  refine g_arg hE hZ 1 rfl rfl rfl (by omega) hLx dL_law_1051 dL_law_1052 dL_law_1053 dL_law_1054 dL_law_1055 ?_
  refine g_arg hE hZ 2 rfl rfl rfl (by omega) hLx dL_law_1056 dL_law_1057 dL_law_1058 dL_law_1059 dL_law_1060 ?_
  refine g_arg hE hZ 3 rfl rfl rfl (by omega) hLx dL_law_1061 dL_law_1062 dL_law_1063 dL_law_1064 dL_law_1065 ?_
  refine g_arg hE hZ 4 rfl rfl rfl (by omega) hLx dL_law_1066 dL_law_1067 dL_law_1068 dL_law_1069 dL_law_1070 ?_
  refine g_arg hE hZ 5 rfl rfl rfl (by omega) hLx dL_law_1071 dL_law_1072 dL_law_1073 dL_law_1074 dL_law_1075 ?_
  refine g_callV hE (c_X4_copy cI cS a m v w T C li ap va le (q 5) L P F sh kf hRQ.1 hV hW hL (xs (i + 1)) (xs (i + 2)) (xs (i + 3)) (xs (i + 4)) (xs (i + 5)) (fun k hk => (hSQ k hk).2.1)) mk_X4_copy mv_X4_copy ml_L_135 dL_law_1076 (As := [.int (xs (i + 1)), .int (xs (i + 2)), .int (xs (i + 3)), .int (xs (i + 4)), .int (xs (i + 5))]) (rest := []) rfl rfl 0 rfl (show vwCl[4]? = some (RX4, TX4, 7) from rfl) (by decide) (by decide) (Nat.le_of_ble_eq_true rfl) hc hs [0, 1, 2, 3, 4, 5, 6, 7, 8, 9, 10, 11, 12, 13, 14, 15, 16, 17, 18, 19, 20, 21, 22, 23, 24, 25, 26, 27, 28, 29, 30, 31, 32, 33, 34, 35, 36, 37, 38, 39, 40, 41, 42, 43, 44] rfl (by decide) (fun u => Nat.le_of_ble_eq_true rfl) (ws' := fun u => lawW cI cS a b m v w T C li ap va le (q 5) L P F u.2.2.2 kf q) (fun u => rfl) (fun u hu => ?_)
  show Go E Q 4 cells slots 1079 [(0, .ref bx), (1, .ref (a 0)), (2, .ref (b 0)), (3, .int (nI i))] [.int u.2.2.1] (lawW cI cS a b m v w T C li ap va le (q 5) L P F u.2.2.2 kf q)
  refine g_aload_n hE dL_law_1079 2 rfl ?_
  refine g_arg hE hZ 1 rfl rfl rfl (by omega) hLx dL_law_1080 dL_law_1081 dL_law_1082 dL_law_1083 dL_law_1084 ?_
  refine g_arg hE hZ 2 rfl rfl rfl (by omega) hLx dL_law_1085 dL_law_1086 dL_law_1087 dL_law_1088 dL_law_1089 ?_
  refine g_arg hE hZ 3 rfl rfl rfl (by omega) hLx dL_law_1090 dL_law_1091 dL_law_1092 dL_law_1093 dL_law_1094 ?_
  refine g_arg hE hZ 4 rfl rfl rfl (by omega) hLx dL_law_1095 dL_law_1096 dL_law_1097 dL_law_1098 dL_law_1099 ?_
  refine g_arg hE hZ 5 rfl rfl rfl (by omega) hLx dL_law_1100 dL_law_1101 dL_law_1102 dL_law_1103 dL_law_1104 ?_
  refine g_callV hE (c_X5_copy cI cS b q m hRQ sh hSQ (xs (i + 1)) (xs (i + 2)) (xs (i + 3)) (xs (i + 4)) (xs (i + 5)) u.1 u.2.1 hu.1 hu.2.1) mk_X5_copy mv_X5_copy ml_L_139 dL_law_1105 (As := [.int (xs (i + 1)), .int (xs (i + 2)), .int (xs (i + 3)), .int (xs (i + 4)), .int (xs (i + 5))]) (rest := [.int u.2.2.1]) rfl rfl 45 rfl (show vwCl[5]? = some (RX5, TX5, 32) from rfl) (by decide) (by decide) (Nat.le_of_ble_eq_true rfl) hc hs [45, 46, 47, 48, 49, 50, 51, 52, 53, 54, 55, 56, 57, 58, 59, 60, 61, 62, 63] rfl (by decide) (fun u2 => Nat.le_of_ble_eq_true rfl) (ws' := fun u2 => lawW cI cS a b m v w T C li ap va le (q 5) L P F u.2.2.2 kf u2.2) (fun u2 => rfl) (fun u2 hu2 => ?_)
  show Go E Q 4 cells slots 1108 [(0, .ref bx), (1, .ref (a 0)), (2, .ref (b 0)), (3, .int (nI i))] [.int u2.1, .int u.2.2.1] (lawW cI cS a b m v w T C li ap va le (q 5) L P F u.2.2.2 kf u2.2)
  refine g_icmp_eq hE 1113 dL_law_1108 (by decide) (fun _ => ?_) (fun z => absurd ((congrArg Prod.fst hu.2.2).trans hu2.1.symm) z)
  exact kk _ _ _ _ _ _ _ _ _ _ _ _ _ _ _ _ (REL_os (TF_RQ hu2.2.1 hRQ) hV hW hL htp hBn (by rw [show u.2.2.2 = (fgCopy sh u.1 u.2.1 (xs (i + 2)) (xs (i + 4)) (xs (i + 5))).2 from congrArg Prod.snd hu.2.2]; exact hu2.2.2.2) hKQ hu2.2.2.1)
