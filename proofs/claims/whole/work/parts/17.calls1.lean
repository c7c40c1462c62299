/-! the loft's calls: grains, sieves, counts, images, shares -/
abbrev MS : Type := Nat → Nat → Int32
def fgGrain (m : MS) (n : Nat) (x y z : Int32) : Int32 × MS := if 1 ≤ x ∧ x ≤ 60 then (if 0 ≤ y ∧ y ≤ 9999 then (if 0 ≤ z ∧ z ≤ 99 then (if m 9 0 < 6 then (nI n, addG m n x y z) else (-3, m)) else (-1, m)) else (-1, m)) else (-1, m)
def fgSet (m : MS) (x y z : Int32) : Int32 × MS := if 0 ≤ x ∧ x < m 9 0 then (if y = 0 then (if 1 ≤ z ∧ z ≤ 60 then (atv (m 0) 6 x, pA m 0 (putv (m 0) 6 x z)) else (-1, m)) else if y = 1 then (if 0 ≤ z ∧ z ≤ 9999 then (atv (m 1) 6 x, pA m 1 (putv (m 1) 6 x z)) else (-1, m)) else if y = 2 then (if 0 ≤ z ∧ z ≤ 99 then (atv (m 2) 6 x, pA m 2 (putv (m 2) 6 x z)) else (-1, m)) else (-1, m)) else (-1, m)
def fgSieve (m : MS) (sv : Nat) (x y z t : Int32) : Int32 × MS := if 0 ≤ x ∧ x ≤ 3 then (if 1 ≤ y ∧ y ≤ 60 then (if 1 ≤ z ∧ z ≤ 99999 then (if 0 ≤ t ∧ t ≤ 3 then (if m 9 1 < 8 then (nI sv, addV m sv x y z t) else (-3, m)) else (-1, m)) else (-1, m)) else (-1, m)) else (-1, m)
def fTold (m : MS) (x y : Int32) : Int32 := if 0 ≤ x ∧ x < m 9 1 then (if y = 0 then atv (m 3) 8 x else if y = 1 then atv (m 4) 8 x else if y = 2 then atv (m 5) 8 x else if y = 3 then atv (m 6) 8 x else -1) else -1
def fgMend (m : MS) (x y : Int32) : Int32 × MS := if 0 ≤ x ∧ x < m 9 1 then (if 1 ≤ y ∧ y ≤ 60 then (if atv (m 3) 8 x = 3 then (-2, m) else (atv (m 4) 8 x, pA m 4 (putv (m 4) 8 x y))) else (-1, m)) else (-1, m)
def fCount (m : MS) (n : Nat) (x : Int32) : Int32 := if x = 0 then m 9 1 else if x = 1 then m 9 0 else if x = 2 then m 9 2 else if x = 3 then m 9 3 else if x = 4 then aS (m 1) (ldS m n) n else -1
def fgRestore (m w : MS) (kf : Int32) : Int32 × MS := if kf = 0 then (-4, m) else (1, tkA m w)
def fShares (x y z t : Int32) : Int32 := if 1 ≤ x ∧ x ≤ 9999 then (if 1 ≤ y ∧ y ≤ 9999999 then (if 1 ≤ z ∧ z ≤ 999 then (if 1 ≤ t ∧ t ≤ 999 then (if z = t then -1 else if z - t = 0 then -4 else if (y - x * t) - (y - x * t) / (z - t) * (z - t) = 0 then (if 0 ≤ (y - x * t) / (z - t) ∧ (y - x * t) / (z - t) ≤ x then (y - x * t) / (z - t) else -4) else -4) else -1) else -1) else -1) else -1
set_option maxHeartbeats 4000000 in
set_option maxRecDepth 100000 in
theorem c_X0_takeGrains_s (cI cS : ClassId) (a b : Nat → Nat) (m v : Nat → Nat → Int32) : CT cI cS yX0_takeGrains cX0_takeGrains 2 none 1 [.ref (a 0), .ref (b 0)] (millW cI b v ++ (millW cI a m)) 0 0 (fun u : Unit => True) (fun u => none) (fun u => (millW cI b v ++ (millW cI a (tkG m v)))) := by
  refine ct_intro (by decide) (Nat.le_of_ble_eq_true rfl) (fun E Q hE hQ hI => ?_)
  have hE : CxOk E cI cS RX0 cX0_takeGrains 2 none 1 0 0 := hE
  show Go E Q 2 0 0 0 [(0, .ref (a 0)), (1, .ref (b 0))] [] (millW cI b v ++ (millW cI a m))
  refine g_aload_n hE dX0_takeGrains_0 0 rfl ?_
  refine g_aload_n hE dX0_takeGrains_1 1 rfl ?_
  refine g_get hE fl_X0_39 dX0_takeGrains_2 0 rfl rfl ?_
  refine g_put hE fl_X0_39 fp_0_0 dX0_takeGrains_5 10 rfl rfl rfl (Nat.le_of_ble_eq_true rfl) (millW cI b v ++ (millW cI a (pA m 9 (upd (m 9) 0 (v 9 0))))) (by rfl) ?_
  refine g_aload_n hE dX0_takeGrains_8 1 rfl ?_
  refine g_get hE fl_X0_9 dX0_takeGrains_9 0 rfl rfl ?_
  refine g_aload_n hE dX0_takeGrains_12 0 rfl ?_
  refine g_get hE fl_X0_9 dX0_takeGrains_13 10 rfl rfl ?_
  refine g_callSN hE (c_X4_copyAll cI cS (b 1) (a 1) 6 (v 0) (m 0) (by decide)) mk_X4_copyAll st_X4_copyAll nl_X0_57 dX0_takeGrains_16 (As := [.ref (b 1), .ref (a 1)]) (rest := []) rfl rfl (by decide) (by decide) (Nat.le_of_ble_eq_true rfl) (by decide) (by decide) [1, 11] rfl (by decide) (fun u => Nat.le_of_ble_eq_true rfl) (ws' := fun u => millW cI b v ++ (millW cI a (pA (pA m 9 (upd (m 9) 0 (v 9 0))) 0 (v 0)))) (fun u => rfl) (fun u hu => ?_)
  show Go E Q 2 0 0 19 [(0, .ref (a 0)), (1, .ref (b 0))] [] (millW cI b v ++ (millW cI a (pA (pA m 9 (upd (m 9) 0 (v 9 0))) 0 (v 0))))
  refine g_aload_n hE dX0_takeGrains_19 1 rfl ?_
  refine g_get hE fl_X0_15 dX0_takeGrains_20 0 rfl rfl ?_
  refine g_aload_n hE dX0_takeGrains_23 0 rfl ?_
  refine g_get hE fl_X0_15 dX0_takeGrains_24 10 rfl rfl ?_
  refine g_callSN hE (c_X4_copyAll cI cS (b 2) (a 2) 6 (v 1) (m 1) (by decide)) mk_X4_copyAll st_X4_copyAll nl_X0_57 dX0_takeGrains_27 (As := [.ref (b 2), .ref (a 2)]) (rest := []) rfl rfl (by decide) (by decide) (Nat.le_of_ble_eq_true rfl) (by decide) (by decide) [2, 12] rfl (by decide) (fun u => Nat.le_of_ble_eq_true rfl) (ws' := fun u => millW cI b v ++ (millW cI a (pA (pA (pA m 9 (upd (m 9) 0 (v 9 0))) 0 (v 0)) 1 (v 1)))) (fun u => rfl) (fun u hu => ?_)
  show Go E Q 2 0 0 30 [(0, .ref (a 0)), (1, .ref (b 0))] [] (millW cI b v ++ (millW cI a (pA (pA (pA m 9 (upd (m 9) 0 (v 9 0))) 0 (v 0)) 1 (v 1))))
  refine g_aload_n hE dX0_takeGrains_30 1 rfl ?_
  refine g_get hE fl_X0_18 dX0_takeGrains_31 0 rfl rfl ?_
  refine g_aload_n hE dX0_takeGrains_34 0 rfl ?_
  refine g_get hE fl_X0_18 dX0_takeGrains_35 10 rfl rfl ?_
  refine g_callSN hE (c_X4_copyAll cI cS (b 3) (a 3) 6 (v 2) (m 2) (by decide)) mk_X4_copyAll st_X4_copyAll nl_X0_57 dX0_takeGrains_38 (As := [.ref (b 3), .ref (a 3)]) (rest := []) rfl rfl (by decide) (by decide) (Nat.le_of_ble_eq_true rfl) (by decide) (by decide) [3, 13] rfl (by decide) (fun u => Nat.le_of_ble_eq_true rfl) (ws' := fun u => millW cI b v ++ (millW cI a (pA (pA (pA (pA m 9 (upd (m 9) 0 (v 9 0))) 0 (v 0)) 1 (v 1)) 2 (v 2)))) (fun u => rfl) (fun u hu => ?_)
  show Go E Q 2 0 0 41 [(0, .ref (a 0)), (1, .ref (b 0))] [] (millW cI b v ++ (millW cI a (pA (pA (pA (pA m 9 (upd (m 9) 0 (v 9 0))) 0 (v 0)) 1 (v 1)) 2 (v 2))))
  exact g_vret hE hQ dX0_takeGrains_41 () rfl rfl trivial
set_option maxHeartbeats 4000000 in
set_option maxRecDepth 100000 in
theorem c_X0_takeSieves_s (cI cS : ClassId) (a b : Nat → Nat) (m v : Nat → Nat → Int32) : CT cI cS yX0_takeSieves cX0_takeSieves 2 none 1 [.ref (a 0), .ref (b 0)] (millW cI b v ++ (millW cI a m)) 0 0 (fun u : Unit => True) (fun u => none) (fun u => (millW cI b v ++ (millW cI a (tkV m v)))) := by
  refine ct_intro (by decide) (Nat.le_of_ble_eq_true rfl) (fun E Q hE hQ hI => ?_)
  have hE : CxOk E cI cS RX0 cX0_takeSieves 2 none 1 0 0 := hE
  show Go E Q 2 0 0 0 [(0, .ref (a 0)), (1, .ref (b 0))] [] (millW cI b v ++ (millW cI a m))
  refine g_aload_n hE dX0_takeSieves_0 0 rfl ?_
  refine g_aload_n hE dX0_takeSieves_1 1 rfl ?_
  refine g_get hE fl_X0_43 dX0_takeSieves_2 0 rfl rfl ?_
  refine g_put hE fl_X0_43 fp_0_1 dX0_takeSieves_5 10 rfl rfl rfl (Nat.le_of_ble_eq_true rfl) (millW cI b v ++ (millW cI a (pA m 9 (upd (m 9) 1 (v 9 1))))) (by rfl) ?_
  refine g_aload_n hE dX0_takeSieves_8 1 rfl ?_
  refine g_get hE fl_X0_21 dX0_takeSieves_9 0 rfl rfl ?_
  refine g_aload_n hE dX0_takeSieves_12 0 rfl ?_
  refine g_get hE fl_X0_21 dX0_takeSieves_13 10 rfl rfl ?_
  refine g_callSN hE (c_X4_copyAll cI cS (b 4) (a 4) 8 (v 3) (m 3) (by decide)) mk_X4_copyAll st_X4_copyAll nl_X0_57 dX0_takeSieves_16 (As := [.ref (b 4), .ref (a 4)]) (rest := []) rfl rfl (by decide) (by decide) (Nat.le_of_ble_eq_true rfl) (by decide) (by decide) [4, 14] rfl (by decide) (fun u => Nat.le_of_ble_eq_true rfl) (ws' := fun u => millW cI b v ++ (millW cI a (pA (pA m 9 (upd (m 9) 1 (v 9 1))) 3 (v 3)))) (fun u => rfl) (fun u hu => ?_)
  show Go E Q 2 0 0 19 [(0, .ref (a 0)), (1, .ref (b 0))] [] (millW cI b v ++ (millW cI a (pA (pA m 9 (upd (m 9) 1 (v 9 1))) 3 (v 3))))
  refine g_aload_n hE dX0_takeSieves_19 1 rfl ?_
  refine g_get hE fl_X0_24 dX0_takeSieves_20 0 rfl rfl ?_
  refine g_aload_n hE dX0_takeSieves_23 0 rfl ?_
  refine g_get hE fl_X0_24 dX0_takeSieves_24 10 rfl rfl ?_
  refine g_callSN hE (c_X4_copyAll cI cS (b 5) (a 5) 8 (v 4) (m 4) (by decide)) mk_X4_copyAll st_X4_copyAll nl_X0_57 dX0_takeSieves_27 (As := [.ref (b 5), .ref (a 5)]) (rest := []) rfl rfl (by decide) (by decide) (Nat.le_of_ble_eq_true rfl) (by decide) (by decide) [5, 15] rfl (by decide) (fun u => Nat.le_of_ble_eq_true rfl) (ws' := fun u => millW cI b v ++ (millW cI a (pA (pA (pA m 9 (upd (m 9) 1 (v 9 1))) 3 (v 3)) 4 (v 4)))) (fun u => rfl) (fun u hu => ?_)
  show Go E Q 2 0 0 30 [(0, .ref (a 0)), (1, .ref (b 0))] [] (millW cI b v ++ (millW cI a (pA (pA (pA m 9 (upd (m 9) 1 (v 9 1))) 3 (v 3)) 4 (v 4))))
  refine g_aload_n hE dX0_takeSieves_30 1 rfl ?_
  refine g_get hE fl_X0_27 dX0_takeSieves_31 0 rfl rfl ?_
  refine g_aload_n hE dX0_takeSieves_34 0 rfl ?_
  refine g_get hE fl_X0_27 dX0_takeSieves_35 10 rfl rfl ?_
  refine g_callSN hE (c_X4_copyAll cI cS (b 6) (a 6) 8 (v 5) (m 5) (by decide)) mk_X4_copyAll st_X4_copyAll nl_X0_57 dX0_takeSieves_38 (As := [.ref (b 6), .ref (a 6)]) (rest := []) rfl rfl (by decide) (by decide) (Nat.le_of_ble_eq_true rfl) (by decide) (by decide) [6, 16] rfl (by decide) (fun u => Nat.le_of_ble_eq_true rfl) (ws' := fun u => millW cI b v ++ (millW cI a (pA (pA (pA (pA m 9 (upd (m 9) 1 (v 9 1))) 3 (v 3)) 4 (v 4)) 5 (v 5)))) (fun u => rfl) (fun u hu => ?_)
  show Go E Q 2 0 0 41 [(0, .ref (a 0)), (1, .ref (b 0))] [] (millW cI b v ++ (millW cI a (pA (pA (pA (pA m 9 (upd (m 9) 1 (v 9 1))) 3 (v 3)) 4 (v 4)) 5 (v 5))))
  refine g_aload_n hE dX0_takeSieves_41 1 rfl ?_
  refine g_get hE fl_X0_30 dX0_takeSieves_42 0 rfl rfl ?_
  refine g_aload_n hE dX0_takeSieves_45 0 rfl ?_
  refine g_get hE fl_X0_30 dX0_takeSieves_46 10 rfl rfl ?_
  refine g_callSN hE (c_X4_copyAll cI cS (b 7) (a 7) 8 (v 6) (m 6) (by decide)) mk_X4_copyAll st_X4_copyAll nl_X0_57 dX0_takeSieves_49 (As := [.ref (b 7), .ref (a 7)]) (rest := []) rfl rfl (by decide) (by decide) (Nat.le_of_ble_eq_true rfl) (by decide) (by decide) [7, 17] rfl (by decide) (fun u => Nat.le_of_ble_eq_true rfl) (ws' := fun u => millW cI b v ++ (millW cI a (pA (pA (pA (pA (pA m 9 (upd (m 9) 1 (v 9 1))) 3 (v 3)) 4 (v 4)) 5 (v 5)) 6 (v 6)))) (fun u => rfl) (fun u hu => ?_)
  show Go E Q 2 0 0 52 [(0, .ref (a 0)), (1, .ref (b 0))] [] (millW cI b v ++ (millW cI a (pA (pA (pA (pA (pA m 9 (upd (m 9) 1 (v 9 1))) 3 (v 3)) 4 (v 4)) 5 (v 5)) 6 (v 6))))
  exact g_vret hE hQ dX0_takeSieves_52 () rfl rfl trivial
set_option maxHeartbeats 4000000 in
set_option maxRecDepth 100000 in
theorem c_X0_takeRow_s (cI cS : ClassId) (a b : Nat → Nat) (m v : Nat → Nat → Int32) : CT cI cS yX0_takeRow cX0_takeRow 2 none 1 [.ref (a 0), .ref (b 0)] (millW cI b v ++ (millW cI a m)) 0 0 (fun u : Unit => True) (fun u => none) (fun u => (millW cI b v ++ (millW cI a (tkR m v)))) := by
  refine ct_intro (by decide) (Nat.le_of_ble_eq_true rfl) (fun E Q hE hQ hI => ?_)
  have hE : CxOk E cI cS RX0 cX0_takeRow 2 none 1 0 0 := hE
  show Go E Q 2 0 0 0 [(0, .ref (a 0)), (1, .ref (b 0))] [] (millW cI b v ++ (millW cI a m))
  refine g_aload_n hE dX0_takeRow_0 0 rfl ?_
  refine g_aload_n hE dX0_takeRow_1 1 rfl ?_
  refine g_get hE fl_X0_46 dX0_takeRow_2 0 rfl rfl ?_
  refine g_put hE fl_X0_46 fp_0_2 dX0_takeRow_5 10 rfl rfl rfl (Nat.le_of_ble_eq_true rfl) (millW cI b v ++ (millW cI a (pA m 9 (upd (m 9) 2 (v 9 2))))) (by rfl) ?_
  refine g_aload_n hE dX0_takeRow_8 1 rfl ?_
  refine g_get hE fl_X0_33 dX0_takeRow_9 0 rfl rfl ?_
  refine g_aload_n hE dX0_takeRow_12 0 rfl ?_
  refine g_get hE fl_X0_33 dX0_takeRow_13 10 rfl rfl ?_
  refine g_callSN hE (c_X4_copyAll cI cS (b 8) (a 8) 6 (v 7) (m 7) (by decide)) mk_X4_copyAll st_X4_copyAll nl_X0_57 dX0_takeRow_16 (As := [.ref (b 8), .ref (a 8)]) (rest := []) rfl rfl (by decide) (by decide) (Nat.le_of_ble_eq_true rfl) (by decide) (by decide) [8, 18] rfl (by decide) (fun u => Nat.le_of_ble_eq_true rfl) (ws' := fun u => millW cI b v ++ (millW cI a (pA (pA m 9 (upd (m 9) 2 (v 9 2))) 7 (v 7)))) (fun u => rfl) (fun u hu => ?_)
  show Go E Q 2 0 0 19 [(0, .ref (a 0)), (1, .ref (b 0))] [] (millW cI b v ++ (millW cI a (pA (pA m 9 (upd (m 9) 2 (v 9 2))) 7 (v 7))))
  exact g_vret hE hQ dX0_takeRow_19 () rfl rfl trivial
set_option maxHeartbeats 4000000 in
set_option maxRecDepth 100000 in
theorem c_X0_takeAll_s (cI cS : ClassId) (a b : Nat → Nat) (m v : Nat → Nat → Int32) : CT cI cS yX0_takeAll cX0_takeAll 2 none 2 [.ref (a 0), .ref (b 0)] (millW cI b v ++ (millW cI a m)) 0 0 (fun u : Unit => True) (fun u => none) (fun u => (millW cI b v ++ (millW cI a (tkA m v)))) := by
  refine ct_intro (by decide) (Nat.le_of_ble_eq_true rfl) (fun E Q hE hQ hI => ?_)
  have hE : CxOk E cI cS RX0 cX0_takeAll 2 none 2 0 0 := hE
  show Go E Q 2 0 0 0 [(0, .ref (a 0)), (1, .ref (b 0))] [] (millW cI b v ++ (millW cI a m))
  refine g_aload_n hE dX0_takeAll_0 0 rfl ?_
  refine g_aload_n hE dX0_takeAll_1 1 rfl ?_
  refine g_callV hE (c_X0_takeGrains_s cI cS a b m v) mk_X0_takeGrains mv_X0_takeGrains ml_X0_61 dX0_takeAll_2 (As := [.ref (b 0)]) (rest := []) rfl rfl 10 rfl (show vwCl[0]? = some (RX0, TX0, 13) from rfl) (by decide) (by decide) (Nat.le_of_ble_eq_true rfl) (by decide) (by decide) [0, 1, 2, 3, 4, 5, 6, 7, 8, 9, 10, 11, 12, 13, 14, 15, 16, 17, 18, 19] rfl (by decide) (fun u => Nat.le_of_ble_eq_true rfl) (ws' := fun u => millW cI b v ++ (millW cI a (tkG m v))) (fun u => rfl) (fun u hu => ?_)
  show Go E Q 2 0 0 5 [(0, .ref (a 0)), (1, .ref (b 0))] [] (millW cI b v ++ (millW cI a (tkG m v)))
  refine g_aload_n hE dX0_takeAll_5 0 rfl ?_
  refine g_aload_n hE dX0_takeAll_6 1 rfl ?_
  refine g_callV hE (c_X0_takeSieves_s cI cS a b (tkG m v) v) mk_X0_takeSieves mv_X0_takeSieves ml_X0_65 dX0_takeAll_7 (As := [.ref (b 0)]) (rest := []) rfl rfl 10 rfl (show vwCl[0]? = some (RX0, TX0, 13) from rfl) (by decide) (by decide) (Nat.le_of_ble_eq_true rfl) (by decide) (by decide) [0, 1, 2, 3, 4, 5, 6, 7, 8, 9, 10, 11, 12, 13, 14, 15, 16, 17, 18, 19] rfl (by decide) (fun u => Nat.le_of_ble_eq_true rfl) (ws' := fun u => millW cI b v ++ (millW cI a (tkV (tkG m v) v))) (fun u => rfl) (fun u hu => ?_)
  show Go E Q 2 0 0 10 [(0, .ref (a 0)), (1, .ref (b 0))] [] (millW cI b v ++ (millW cI a (tkV (tkG m v) v)))
  refine g_aload_n hE dX0_takeAll_10 0 rfl ?_
  refine g_aload_n hE dX0_takeAll_11 1 rfl ?_
  refine g_callV hE (c_X0_takeRow_s cI cS a b (tkV (tkG m v) v) v) mk_X0_takeRow mv_X0_takeRow ml_X0_68 dX0_takeAll_12 (As := [.ref (b 0)]) (rest := []) rfl rfl 10 rfl (show vwCl[0]? = some (RX0, TX0, 13) from rfl) (by decide) (by decide) (Nat.le_of_ble_eq_true rfl) (by decide) (by decide) [0, 1, 2, 3, 4, 5, 6, 7, 8, 9, 10, 11, 12, 13, 14, 15, 16, 17, 18, 19] rfl (by decide) (fun u => Nat.le_of_ble_eq_true rfl) (ws' := fun u => millW cI b v ++ (millW cI a (tkR (tkV (tkG m v) v) v))) (fun u => rfl) (fun u hu => ?_)
  show Go E Q 2 0 0 15 [(0, .ref (a 0)), (1, .ref (b 0))] [] (millW cI b v ++ (millW cI a (tkR (tkV (tkG m v) v) v)))
  refine g_aload_n hE dX0_takeAll_15 0 rfl ?_
  refine g_aload_n hE dX0_takeAll_16 1 rfl ?_
  refine g_get hE fl_X0_71 dX0_takeAll_17 0 rfl rfl ?_
  refine g_put hE fl_X0_71 fp_0_3 dX0_takeAll_20 10 rfl rfl rfl (Nat.le_of_ble_eq_true rfl) (millW cI b v ++ (millW cI a (pA (tkR (tkV (tkG m v) v) v) 9 (upd ((tkR (tkV (tkG m v) v) v) 9) 3 (v 9 3))))) (by rfl) ?_
  exact g_vret hE hQ dX0_takeAll_23 () rfl rfl trivial
set_option maxHeartbeats 4000000 in
set_option maxRecDepth 100000 in
theorem c_X4_grain (cI cS : ClassId) (a : Nat → Nat) (m v w : Nat → Nat → Int32) (T C : Nat → Int32) (li ap va le : Int32) (B : Nat → Int32) (L P : Nat) (F : Int32) (sh : Nat → Nat → Nat → Int32) (kf : Int32) {n sv pl n1 sv1 pl1 n2 sv2 pl2 : Nat} (hM : MW m n sv pl) (hV : MW v n1 sv1 pl1) (hW : MW w n2 sv2 pl2) (hL : L ≤ 120) (x y z : Int32) : CT cI cS yX4_grain cX4_grain 4 (some .int) 2 [.ref (a 0), .int x, .int y, .int z] (loftW cI cS a m v w (seS T C li ap va le) (tpS B L P F) sh kf) 0 0 (fun u : Int32 × (Nat → Nat → Int32) => (u.1, u.2) = fgGrain m n x y z) (fun u => some (.int u.1)) (fun u => (loftW cI cS a u.2 v w (seS T C li ap va le) (tpS B L P F) sh kf)) := by
  refine ct_intro (by decide) (Nat.le_of_ble_eq_true rfl) (fun E Q hE hQ hI => ?_)
  have hE : CxOk E cI cS RX4 cX4_grain 4 (some .int) 2 0 0 := hE
  show Go E Q 4 0 0 0 [(0, .ref (a 0)), (1, .int x), (2, .int y), (3, .int z)] [] (loftW cI cS a m v w (seS T C li ap va le) (tpS B L P F) sh kf)
  have hn := hM.1
  have hn6 := hM.2.1
  have hsv := hM.2.2.1
  have hsv8 := hM.2.2.2.1
  have hpl := hM.2.2.2.2.1
  have hpl6 := hM.2.2.2.2.2
  have hn1 := hV.1
  have hn16 := hV.2.1
  have hsv1 := hV.2.2.1
  have hsv18 := hV.2.2.2.1
  have hpl1 := hV.2.2.2.2.1
  have hpl16 := hV.2.2.2.2.2
  refine g_iload_n hE dX4_grain_0 1 rfl ?_
  refine g_iconst hE dX4_grain_1 1 (by decide) ?_
  refine g_bipush hE dX4_grain_2 60 (by decide) ?_
  refine g_callS hE (c_X4_within cI cS x 1 60) mk_X4_within st_X4_within ml_X4_47 dX4_grain_4 (As := [.int x, .int 1, .int 60]) (rest := []) rfl rfl (by decide) (by decide) (Nat.le_of_ble_eq_true rfl) (by decide) (by decide) [] rfl (by decide) (fun u => Nat.le_of_ble_eq_true rfl) (ws' := fun u => loftW cI cS a m v w (seS T C li ap va le) (tpS B L P F) sh kf) (fun u => rfl) (fun u hu => ?_)
  obtain ⟨r_1, rfl⟩ : ∃ z, z = u := ⟨_, rfl⟩
  have h2 : r_1 = if 1 ≤ x ∧ x ≤ 60 then 1 else 0 := hu
  by_cases c3 : 1 ≤ x ∧ x ≤ 60
  · rw [if_pos c3] at h2
    subst h2
    show Go E Q 4 0 0 7 [(0, .ref (a 0)), (1, .int x), (2, .int y), (3, .int z)] [.int 1] (loftW cI cS a m v w (seS T C li ap va le) (tpS B L P F) sh kf)
    refine g_if_eq hE 31 dX4_grain_7 (by decide) (fun c4 => absurd c4 (by decide)) (fun c4 => ?_)
    refine g_iload_n hE dX4_grain_10 2 rfl ?_
    refine g_iconst hE dX4_grain_11 0 (by decide) ?_
    refine g_sipush hE dX4_grain_12 9999 (by decide) ?_
    refine g_callS hE (c_X4_within cI cS y 0 9999) mk_X4_within st_X4_within ml_X4_47 dX4_grain_15 (As := [.int y, .int 0, .int 9999]) (rest := []) rfl rfl (by decide) (by decide) (Nat.le_of_ble_eq_true rfl) (by decide) (by decide) [] rfl (by decide) (fun u => Nat.le_of_ble_eq_true rfl) (ws' := fun u => loftW cI cS a m v w (seS T C li ap va le) (tpS B L P F) sh kf) (fun u => rfl) (fun u hu => ?_)
    obtain ⟨r_5, rfl⟩ : ∃ z, z = u := ⟨_, rfl⟩
    have h6 : r_5 = if 0 ≤ y ∧ y ≤ 9999 then 1 else 0 := hu
    by_cases c7 : 0 ≤ y ∧ y ≤ 9999
    · rw [if_pos c7] at h6
      subst h6
      show Go E Q 4 0 0 18 [(0, .ref (a 0)), (1, .int x), (2, .int y), (3, .int z)] [.int 1] (loftW cI cS a m v w (seS T C li ap va le) (tpS B L P F) sh kf)
      refine g_if_eq hE 31 dX4_grain_18 (by decide) (fun c8 => absurd c8 (by decide)) (fun c8 => ?_)
      refine g_iload_n hE dX4_grain_21 3 rfl ?_
      refine g_iconst hE dX4_grain_22 0 (by decide) ?_
      refine g_bipush hE dX4_grain_23 99 (by decide) ?_
      refine g_callS hE (c_X4_within cI cS z 0 99) mk_X4_within st_X4_within ml_X4_47 dX4_grain_25 (As := [.int z, .int 0, .int 99]) (rest := []) rfl rfl (by decide) (by decide) (Nat.le_of_ble_eq_true rfl) (by decide) (by decide) [] rfl (by decide) (fun u => Nat.le_of_ble_eq_true rfl) (ws' := fun u => loftW cI cS a m v w (seS T C li ap va le) (tpS B L P F) sh kf) (fun u => rfl) (fun u hu => ?_)
      obtain ⟨r_9, rfl⟩ : ∃ z, z = u := ⟨_, rfl⟩
      have h10 : r_9 = if 0 ≤ z ∧ z ≤ 99 then 1 else 0 := hu
      by_cases c11 : 0 ≤ z ∧ z ≤ 99
      · rw [if_pos c11] at h10
        subst h10
        show Go E Q 4 0 0 28 [(0, .ref (a 0)), (1, .int x), (2, .int y), (3, .int z)] [.int 1] (loftW cI cS a m v w (seS T C li ap va le) (tpS B L P F) sh kf)
        refine g_if_ne hE 33 dX4_grain_28 (by decide) (fun c12 => ?_) (fun c12 => absurd c12 (by decide))
        refine g_aload_n hE dX4_grain_33 0 rfl ?_
        refine g_get hE fl_X4_10 dX4_grain_34 0 rfl rfl ?_
        refine g_get hE fl_X4_51 dX4_grain_37 1 rfl rfl ?_
        refine g_bipush hE dX4_grain_40 6 (by decide) ?_
        refine g_icmp_lt hE 50 dX4_grain_42 (by decide) (fun c13 => ?_) (fun c13 => ?_)
        · have kc13 := nat_lt_t (show (m 9 0) = nI n from hn) (show 6 = nI 6 from rfl) (by omega) (by omega) c13
          refine g_aload_n hE dX4_grain_50 0 rfl ?_
          refine g_get hE fl_X4_10 dX4_grain_51 0 rfl rfl ?_
          refine g_iload_n hE dX4_grain_54 1 rfl ?_
          refine g_iload_n hE dX4_grain_55 2 rfl ?_
          refine g_iload_n hE dX4_grain_56 3 rfl ?_
          refine g_callV hE (c_X0_addGrain cI cS (fun i => a (i + 1)) m (by first | assumption | exact mw_of (by assumption)) x y z (by omega)) mk_X0_addGrain mv_X0_addGrain ml_X4_55 dX4_grain_57 (As := [.int x, .int y, .int z]) (rest := []) rfl rfl 1 rfl (show vwCl[0]? = some (RX0, TX0, 13) from rfl) (by decide) (by decide) (Nat.le_of_ble_eq_true rfl) (by decide) (by decide) [1, 2, 3, 4, 5, 6, 7, 8, 9, 10] rfl (by decide) (fun u => Nat.le_of_ble_eq_true rfl) (ws' := fun u => loftW cI cS a (addG m n x y z) v w (seS T C li ap va le) (tpS B L P F) sh kf) (fun u => rfl) (fun u hu => ?_)
          obtain ⟨r_14, rfl⟩ : ∃ z, z = u := ⟨_, rfl⟩
          have h15 : r_14 = (nI n) := hu
          subst h15
          show Go E Q 4 0 0 60 [(0, .ref (a 0)), (1, .int x), (2, .int y), (3, .int z)] [.int (nI n)] (loftW cI cS a (addG m n x y z) v w (seS T C li ap va le) (tpS B L P F) sh kf)
          exact g_iret hE hQ dX4_grain_60 rfl ((nI n), (addG m n x y z)) rfl rfl (by rw [fgGrain, if_pos c3, if_pos c7, if_pos c11, if_pos c13])
        · have kc13 := nat_lt_f (show (m 9 0) = nI n from hn) (show 6 = nI 6 from rfl) (by omega) (by omega) c13
          refine g_bipush hE dX4_grain_45 (-3) (by decide) ?_
          refine g_goto hE 60 dX4_grain_47 (by decide) ?_
          exact g_iret hE hQ dX4_grain_60 rfl ((-3), m) rfl rfl (by rw [fgGrain, if_pos c3, if_pos c7, if_pos c11, if_neg c13])
      · rw [if_neg c11] at h10
        subst h10
        show Go E Q 4 0 0 28 [(0, .ref (a 0)), (1, .int x), (2, .int y), (3, .int z)] [.int 0] (loftW cI cS a m v w (seS T C li ap va le) (tpS B L P F) sh kf)
        refine g_if_ne hE 33 dX4_grain_28 (by decide) (fun c16 => absurd (by decide) c16) (fun c16 => ?_)
        refine g_iconst hE dX4_grain_31 (-1) (by decide) ?_
        exact g_iret hE hQ dX4_grain_32 rfl ((-1), m) rfl rfl (by rw [fgGrain, if_pos c3, if_pos c7, if_neg c11])
    · rw [if_neg c7] at h6
      subst h6
      show Go E Q 4 0 0 18 [(0, .ref (a 0)), (1, .int x), (2, .int y), (3, .int z)] [.int 0] (loftW cI cS a m v w (seS T C li ap va le) (tpS B L P F) sh kf)
      refine g_if_eq hE 31 dX4_grain_18 (by decide) (fun c17 => ?_) (fun c17 => absurd (by decide) c17)
      refine g_iconst hE dX4_grain_31 (-1) (by decide) ?_
      exact g_iret hE hQ dX4_grain_32 rfl ((-1), m) rfl rfl (by rw [fgGrain, if_pos c3, if_neg c7])
  · rw [if_neg c3] at h2
    subst h2
    show Go E Q 4 0 0 7 [(0, .ref (a 0)), (1, .int x), (2, .int y), (3, .int z)] [.int 0] (loftW cI cS a m v w (seS T C li ap va le) (tpS B L P F) sh kf)
    refine g_if_eq hE 31 dX4_grain_7 (by decide) (fun c18 => ?_) (fun c18 => absurd (by decide) c18)
    refine g_iconst hE dX4_grain_31 (-1) (by decide) ?_
    exact g_iret hE hQ dX4_grain_32 rfl ((-1), m) rfl rfl (by rw [fgGrain, if_neg c3])
set_option maxHeartbeats 4000000 in
set_option maxRecDepth 100000 in
theorem c_X4_set (cI cS : ClassId) (a : Nat → Nat) (m v w : Nat → Nat → Int32) (T C : Nat → Int32) (li ap va le : Int32) (B : Nat → Int32) (L P : Nat) (F : Int32) (sh : Nat → Nat → Nat → Int32) (kf : Int32) {n sv pl n1 sv1 pl1 n2 sv2 pl2 : Nat} (hM : MW m n sv pl) (hV : MW v n1 sv1 pl1) (hW : MW w n2 sv2 pl2) (hL : L ≤ 120) (x y z : Int32) : CT cI cS yX4_set cX4_set 4 (some .int) 2 [.ref (a 0), .int x, .int y, .int z] (loftW cI cS a m v w (seS T C li ap va le) (tpS B L P F) sh kf) 0 0 (fun u : Int32 × (Nat → Nat → Int32) => (u.1, u.2) = fgSet m x y z) (fun u => some (.int u.1)) (fun u => (loftW cI cS a u.2 v w (seS T C li ap va le) (tpS B L P F) sh kf)) := by
  refine ct_intro (by decide) (Nat.le_of_ble_eq_true rfl) (fun E Q hE hQ hI => ?_)
  have hE : CxOk E cI cS RX4 cX4_set 4 (some .int) 2 0 0 := hE
  show Go E Q 4 0 0 0 [(0, .ref (a 0)), (1, .int x), (2, .int y), (3, .int z)] [] (loftW cI cS a m v w (seS T C li ap va le) (tpS B L P F) sh kf)
  have hn := hM.1
  have hn6 := hM.2.1
  have hsv := hM.2.2.1
  have hsv8 := hM.2.2.2.1
  have hpl := hM.2.2.2.2.1
  have hpl6 := hM.2.2.2.2.2
  have hn1 := hV.1
  have hn16 := hV.2.1
  have hsv1 := hV.2.2.1
  have hsv18 := hV.2.2.2.1
  have hpl1 := hV.2.2.2.2.1
  have hpl16 := hV.2.2.2.2.2
  refine g_aload_n hE dX4_set_0 0 rfl ?_
  refine g_get hE fl_X4_10 dX4_set_1 0 rfl rfl ?_
  refine g_iload_n hE dX4_set_4 1 rfl ?_
  refine g_callV hE (c_X0_hasGrain cI cS (fun i => a (i + 1)) m (by first | assumption | exact mw_of (by assumption)) x) mk_X0_hasGrain mv_X0_hasGrain ml_X4_59 dX4_set_5 (As := [.int x]) (rest := []) rfl rfl 1 rfl (show vwCl[0]? = some (RX0, TX0, 13) from rfl) (by decide) (by decide) (Nat.le_of_ble_eq_true rfl) (by decide) (by decide) [1, 2, 3, 4, 5, 6, 7, 8, 9, 10] rfl (by decide) (fun u => Nat.le_of_ble_eq_true rfl) (ws' := fun u => loftW cI cS a m v w (seS T C li ap va le) (tpS B L P F) sh kf) (fun u => rfl) (fun u hu => ?_)
  obtain ⟨r_1, rfl⟩ : ∃ z, z = u := ⟨_, rfl⟩
  have h2 : r_1 = if 0 ≤ x ∧ x < m 9 0 then 1 else 0 := hu
  by_cases c3 : 0 ≤ x ∧ x < m 9 0
  · rw [if_pos c3] at h2
    subst h2
    show Go E Q 4 0 0 8 [(0, .ref (a 0)), (1, .int x), (2, .int y), (3, .int z)] [.int 1] (loftW cI cS a m v w (seS T C li ap va le) (tpS B L P F) sh kf)
    refine g_if_ne hE 13 dX4_set_8 (by decide) (fun c4 => ?_) (fun c4 => absurd c4 (by decide))
    refine g_iload_n hE dX4_set_13 2 rfl ?_
    refine g_sw hE dX4_set_14 122 (fun j => [40, 67, 95].getD j 0) (by decide) 3 (by decide) (by intro j hj; rcases (show j = 0 ∨ j = 1 ∨ j = 2 by omega) with rfl | rfl | rfl <;> exact ⟨_, rfl, by decide⟩) (fun c5 => ?_) (fun j hj c5 => ?_)
    · refine g_iconst hE dX4_set_122 (-1) (by decide) ?_
      exact g_iret hE hQ dX4_set_123 rfl ((-1), m) rfl rfl (by rw [fgSet, if_pos c3, if_neg (by intro q; rw [q] at c5; revert c5; decide), if_neg (by intro q; rw [q] at c5; revert c5; decide), if_neg (by intro q; rw [q] at c5; revert c5; decide)])
    · rcases (show j = 0 ∨ j = 1 ∨ j = 2 by omega) with rfl | rfl | rfl
      · have e6 : y = 0 := Int32.toInt_inj.mp (c5.trans (by decide))
        show Go E Q 4 0 0 40 [(0, .ref (a 0)), (1, .int x), (2, .int y), (3, .int z)] [] (loftW cI cS a m v w (seS T C li ap va le) (tpS B L P F) sh kf)
        refine g_iload_n hE dX4_set_40 3 rfl ?_
        refine g_iconst hE dX4_set_41 1 (by decide) ?_
        refine g_bipush hE dX4_set_42 60 (by decide) ?_
        refine g_callS hE (c_X4_within cI cS z 1 60) mk_X4_within st_X4_within ml_X4_47 dX4_set_44 (As := [.int z, .int 1, .int 60]) (rest := []) rfl rfl (by decide) (by decide) (Nat.le_of_ble_eq_true rfl) (by decide) (by decide) [] rfl (by decide) (fun u => Nat.le_of_ble_eq_true rfl) (ws' := fun u => loftW cI cS a m v w (seS T C li ap va le) (tpS B L P F) sh kf) (fun u => rfl) (fun u hu => ?_)
        obtain ⟨r_7, rfl⟩ : ∃ z, z = u := ⟨_, rfl⟩
        have h8 : r_7 = if 1 ≤ z ∧ z ≤ 60 then 1 else 0 := hu
        by_cases c9 : 1 ≤ z ∧ z ≤ 60
        · rw [if_pos c9] at h8
          subst h8
          show Go E Q 4 0 0 47 [(0, .ref (a 0)), (1, .int x), (2, .int y), (3, .int z)] [.int 1] (loftW cI cS a m v w (seS T C li ap va le) (tpS B L P F) sh kf)
          refine g_if_eq hE 65 dX4_set_47 (by decide) (fun c10 => absurd c10 (by decide)) (fun c10 => ?_)
          refine g_aload_n hE dX4_set_50 0 rfl ?_
          refine g_get hE fl_X4_10 dX4_set_51 0 rfl rfl ?_
          refine g_get hE fl_X4_63 dX4_set_54 1 rfl rfl ?_
          refine g_iload_n hE dX4_set_57 1 rfl ?_
          refine g_iload_n hE dX4_set_58 3 rfl ?_
          refine g_callS hE (c_X4_exchange cI cS (a 2) 6 (m 0) x z (by decide)) mk_X4_exchange st_X4_exchange ml_X4_67 dX4_set_59 (As := [.ref (a 2), .int x, .int z]) (rest := []) rfl rfl (by decide) (by decide) (Nat.le_of_ble_eq_true rfl) (by decide) (by decide) [2] rfl (by decide) (fun u => Nat.le_of_ble_eq_true rfl) (ws' := fun u => loftW cI cS a (pA m 0 u.2) v w (seS T C li ap va le) (tpS B L P F) sh kf) (fun u => rfl) (fun u hu => ?_)
          obtain ⟨r_11, f_12⟩ := u
          have h13 : r_11 = atv (m 0) 6 x ∧ f_12 = putv (m 0) 6 x z := hu
          have h14 : f_12 = (putv (m 0) 6 x z) := h13.2
          subst h14
          have h15 : r_11 = (atv (m 0) 6 x) := h13.1
          subst h15
          show Go E Q 4 0 0 62 [(0, .ref (a 0)), (1, .int x), (2, .int y), (3, .int z)] [.int (atv (m 0) 6 x)] (loftW cI cS a (pA m 0 (putv (m 0) 6 x z)) v w (seS T C li ap va le) (tpS B L P F) sh kf)
          refine g_goto hE 66 dX4_set_62 (by decide) ?_
          exact g_iret hE hQ dX4_set_66 rfl ((atv (m 0) 6 x), (pA m 0 (putv (m 0) 6 x z))) rfl rfl (by rw [fgSet, if_pos c3, if_pos e6, if_pos c9])
        · rw [if_neg c9] at h8
          subst h8
          show Go E Q 4 0 0 47 [(0, .ref (a 0)), (1, .int x), (2, .int y), (3, .int z)] [.int 0] (loftW cI cS a m v w (seS T C li ap va le) (tpS B L P F) sh kf)
          refine g_if_eq hE 65 dX4_set_47 (by decide) (fun c16 => ?_) (fun c16 => absurd (by decide) c16)
          refine g_iconst hE dX4_set_65 (-1) (by decide) ?_
          exact g_iret hE hQ dX4_set_66 rfl ((-1), m) rfl rfl (by rw [fgSet, if_pos c3, if_pos e6, if_neg c9])
      · have e17 : y = 1 := Int32.toInt_inj.mp (c5.trans (by decide))
        show Go E Q 4 0 0 67 [(0, .ref (a 0)), (1, .int x), (2, .int y), (3, .int z)] [] (loftW cI cS a m v w (seS T C li ap va le) (tpS B L P F) sh kf)
        refine g_iload_n hE dX4_set_67 3 rfl ?_
        refine g_iconst hE dX4_set_68 0 (by decide) ?_
        refine g_sipush hE dX4_set_69 9999 (by decide) ?_
        refine g_callS hE (c_X4_within cI cS z 0 9999) mk_X4_within st_X4_within ml_X4_47 dX4_set_72 (As := [.int z, .int 0, .int 9999]) (rest := []) rfl rfl (by decide) (by decide) (Nat.le_of_ble_eq_true rfl) (by decide) (by decide) [] rfl (by decide) (fun u => Nat.le_of_ble_eq_true rfl) (ws' := fun u => loftW cI cS a m v w (seS T C li ap va le) (tpS B L P F) sh kf) (fun u => rfl) (fun u hu => ?_)
        obtain ⟨r_18, rfl⟩ : ∃ z, z = u := ⟨_, rfl⟩
        have h19 : r_18 = if 0 ≤ z ∧ z ≤ 9999 then 1 else 0 := hu
        by_cases c20 : 0 ≤ z ∧ z ≤ 9999
        · rw [if_pos c20] at h19
          subst h19
          show Go E Q 4 0 0 75 [(0, .ref (a 0)), (1, .int x), (2, .int y), (3, .int z)] [.int 1] (loftW cI cS a m v w (seS T C li ap va le) (tpS B L P F) sh kf)
          refine g_if_eq hE 93 dX4_set_75 (by decide) (fun c21 => absurd c21 (by decide)) (fun c21 => ?_)
          refine g_aload_n hE dX4_set_78 0 rfl ?_
          refine g_get hE fl_X4_10 dX4_set_79 0 rfl rfl ?_
          refine g_get hE fl_X4_71 dX4_set_82 1 rfl rfl ?_
          refine g_iload_n hE dX4_set_85 1 rfl ?_
          refine g_iload_n hE dX4_set_86 3 rfl ?_
          refine g_callS hE (c_X4_exchange cI cS (a 3) 6 (m 1) x z (by decide)) mk_X4_exchange st_X4_exchange ml_X4_67 dX4_set_87 (As := [.ref (a 3), .int x, .int z]) (rest := []) rfl rfl (by decide) (by decide) (Nat.le_of_ble_eq_true rfl) (by decide) (by decide) [3] rfl (by decide) (fun u => Nat.le_of_ble_eq_true rfl) (ws' := fun u => loftW cI cS a (pA m 1 u.2) v w (seS T C li ap va le) (tpS B L P F) sh kf) (fun u => rfl) (fun u hu => ?_)
          obtain ⟨r_22, f_23⟩ := u
          have h24 : r_22 = atv (m 1) 6 x ∧ f_23 = putv (m 1) 6 x z := hu
          have h25 : f_23 = (putv (m 1) 6 x z) := h24.2
          subst h25
          have h26 : r_22 = (atv (m 1) 6 x) := h24.1
          subst h26
          show Go E Q 4 0 0 90 [(0, .ref (a 0)), (1, .int x), (2, .int y), (3, .int z)] [.int (atv (m 1) 6 x)] (loftW cI cS a (pA m 1 (putv (m 1) 6 x z)) v w (seS T C li ap va le) (tpS B L P F) sh kf)
          refine g_goto hE 94 dX4_set_90 (by decide) ?_
          exact g_iret hE hQ dX4_set_94 rfl ((atv (m 1) 6 x), (pA m 1 (putv (m 1) 6 x z))) rfl rfl (by rw [fgSet, if_pos c3, if_neg (show ¬ y = 0 by rw [e17]; decide), if_pos e17, if_pos c20])
        · rw [if_neg c20] at h19
          subst h19
          show Go E Q 4 0 0 75 [(0, .ref (a 0)), (1, .int x), (2, .int y), (3, .int z)] [.int 0] (loftW cI cS a m v w (seS T C li ap va le) (tpS B L P F) sh kf)
          refine g_if_eq hE 93 dX4_set_75 (by decide) (fun c27 => ?_) (fun c27 => absurd (by decide) c27)
          refine g_iconst hE dX4_set_93 (-1) (by decide) ?_
          exact g_iret hE hQ dX4_set_94 rfl ((-1), m) rfl rfl (by rw [fgSet, if_pos c3, if_neg (show ¬ y = 0 by rw [e17]; decide), if_pos e17, if_neg c20])
      · have e28 : y = 2 := Int32.toInt_inj.mp (c5.trans (by decide))
        show Go E Q 4 0 0 95 [(0, .ref (a 0)), (1, .int x), (2, .int y), (3, .int z)] [] (loftW cI cS a m v w (seS T C li ap va le) (tpS B L P F) sh kf)
        refine g_iload_n hE dX4_set_95 3 rfl ?_
        refine g_iconst hE dX4_set_96 0 (by decide) ?_
        refine g_bipush hE dX4_set_97 99 (by decide) ?_
        refine g_callS hE (c_X4_within cI cS z 0 99) mk_X4_within st_X4_within ml_X4_47 dX4_set_99 (As := [.int z, .int 0, .int 99]) (rest := []) rfl rfl (by decide) (by decide) (Nat.le_of_ble_eq_true rfl) (by decide) (by decide) [] rfl (by decide) (fun u => Nat.le_of_ble_eq_true rfl) (ws' := fun u => loftW cI cS a m v w (seS T C li ap va le) (tpS B L P F) sh kf) (fun u => rfl) (fun u hu => ?_)
        obtain ⟨r_29, rfl⟩ : ∃ z, z = u := ⟨_, rfl⟩
        have h30 : r_29 = if 0 ≤ z ∧ z ≤ 99 then 1 else 0 := hu
        by_cases c31 : 0 ≤ z ∧ z ≤ 99
        · rw [if_pos c31] at h30
          subst h30
          show Go E Q 4 0 0 102 [(0, .ref (a 0)), (1, .int x), (2, .int y), (3, .int z)] [.int 1] (loftW cI cS a m v w (seS T C li ap va le) (tpS B L P F) sh kf)
          refine g_if_eq hE 120 dX4_set_102 (by decide) (fun c32 => absurd c32 (by decide)) (fun c32 => ?_)
          refine g_aload_n hE dX4_set_105 0 rfl ?_
          refine g_get hE fl_X4_10 dX4_set_106 0 rfl rfl ?_
          refine g_get hE fl_X4_74 dX4_set_109 1 rfl rfl ?_
          refine g_iload_n hE dX4_set_112 1 rfl ?_
          refine g_iload_n hE dX4_set_113 3 rfl ?_
          refine g_callS hE (c_X4_exchange cI cS (a 4) 6 (m 2) x z (by decide)) mk_X4_exchange st_X4_exchange ml_X4_67 dX4_set_114 (As := [.ref (a 4), .int x, .int z]) (rest := []) rfl rfl (by decide) (by decide) (Nat.le_of_ble_eq_true rfl) (by decide) (by decide) [4] rfl (by decide) (fun u => Nat.le_of_ble_eq_true rfl) (ws' := fun u => loftW cI cS a (pA m 2 u.2) v w (seS T C li ap va le) (tpS B L P F) sh kf) (fun u => rfl) (fun u hu => ?_)
          obtain ⟨r_33, f_34⟩ := u
          have h35 : r_33 = atv (m 2) 6 x ∧ f_34 = putv (m 2) 6 x z := hu
          have h36 : f_34 = (putv (m 2) 6 x z) := h35.2
          subst h36
          have h37 : r_33 = (atv (m 2) 6 x) := h35.1
          subst h37
          show Go E Q 4 0 0 117 [(0, .ref (a 0)), (1, .int x), (2, .int y), (3, .int z)] [.int (atv (m 2) 6 x)] (loftW cI cS a (pA m 2 (putv (m 2) 6 x z)) v w (seS T C li ap va le) (tpS B L P F) sh kf)
          refine g_goto hE 121 dX4_set_117 (by decide) ?_
          exact g_iret hE hQ dX4_set_121 rfl ((atv (m 2) 6 x), (pA m 2 (putv (m 2) 6 x z))) rfl rfl (by rw [fgSet, if_pos c3, if_neg (show ¬ y = 0 by rw [e28]; decide), if_neg (show ¬ y = 1 by rw [e28]; decide), if_pos e28, if_pos c31])
        · rw [if_neg c31] at h30
          subst h30
          show Go E Q 4 0 0 102 [(0, .ref (a 0)), (1, .int x), (2, .int y), (3, .int z)] [.int 0] (loftW cI cS a m v w (seS T C li ap va le) (tpS B L P F) sh kf)
          refine g_if_eq hE 120 dX4_set_102 (by decide) (fun c38 => ?_) (fun c38 => absurd (by decide) c38)
          refine g_iconst hE dX4_set_120 (-1) (by decide) ?_
          exact g_iret hE hQ dX4_set_121 rfl ((-1), m) rfl rfl (by rw [fgSet, if_pos c3, if_neg (show ¬ y = 0 by rw [e28]; decide), if_neg (show ¬ y = 1 by rw [e28]; decide), if_pos e28, if_neg c31])
  · rw [if_neg c3] at h2
    subst h2
    show Go E Q 4 0 0 8 [(0, .ref (a 0)), (1, .int x), (2, .int y), (3, .int z)] [.int 0] (loftW cI cS a m v w (seS T C li ap va le) (tpS B L P F) sh kf)
    refine g_if_ne hE 13 dX4_set_8 (by decide) (fun c39 => absurd (by decide) c39) (fun c39 => ?_)
    refine g_iconst hE dX4_set_11 (-1) (by decide) ?_
    exact g_iret hE hQ dX4_set_12 rfl ((-1), m) rfl rfl (by rw [fgSet, if_neg c3])
set_option maxHeartbeats 4000000 in
set_option maxRecDepth 100000 in
theorem c_X4_sieve (cI cS : ClassId) (a : Nat → Nat) (m v w : Nat → Nat → Int32) (T C : Nat → Int32) (li ap va le : Int32) (B : Nat → Int32) (L P : Nat) (F : Int32) (sh : Nat → Nat → Nat → Int32) (kf : Int32) {n sv pl n1 sv1 pl1 n2 sv2 pl2 : Nat} (hM : MW m n sv pl) (hV : MW v n1 sv1 pl1) (hW : MW w n2 sv2 pl2) (hL : L ≤ 120) (x y z t : Int32) : CT cI cS yX4_sieve cX4_sieve 5 (some .int) 2 [.ref (a 0), .int x, .int y, .int z, .int t] (loftW cI cS a m v w (seS T C li ap va le) (tpS B L P F) sh kf) 0 0 (fun u : Int32 × (Nat → Nat → Int32) => (u.1, u.2) = fgSieve m sv x y z t) (fun u => some (.int u.1)) (fun u => (loftW cI cS a u.2 v w (seS T C li ap va le) (tpS B L P F) sh kf)) := by
  refine ct_intro (by decide) (Nat.le_of_ble_eq_true rfl) (fun E Q hE hQ hI => ?_)
  have hE : CxOk E cI cS RX4 cX4_sieve 5 (some .int) 2 0 0 := hE
  show Go E Q 5 0 0 0 [(0, .ref (a 0)), (1, .int x), (2, .int y), (3, .int z), (4, .int t)] [] (loftW cI cS a m v w (seS T C li ap va le) (tpS B L P F) sh kf)
  have hn := hM.1
  have hn6 := hM.2.1
  have hsv := hM.2.2.1
  have hsv8 := hM.2.2.2.1
  have hpl := hM.2.2.2.2.1
  have hpl6 := hM.2.2.2.2.2
  have hn1 := hV.1
  have hn16 := hV.2.1
  have hsv1 := hV.2.2.1
  have hsv18 := hV.2.2.2.1
  have hpl1 := hV.2.2.2.2.1
  have hpl16 := hV.2.2.2.2.2
  refine g_iload_n hE dX4_sieve_0 1 rfl ?_
  refine g_iconst hE dX4_sieve_1 0 (by decide) ?_
  refine g_iconst hE dX4_sieve_2 3 (by decide) ?_
  refine g_callS hE (c_X4_within cI cS x 0 3) mk_X4_within st_X4_within ml_X4_47 dX4_sieve_3 (As := [.int x, .int 0, .int 3]) (rest := []) rfl rfl (by decide) (by decide) (Nat.le_of_ble_eq_true rfl) (by decide) (by decide) [] rfl (by decide) (fun u => Nat.le_of_ble_eq_true rfl) (ws' := fun u => loftW cI cS a m v w (seS T C li ap va le) (tpS B L P F) sh kf) (fun u => rfl) (fun u hu => ?_)
  obtain ⟨r_1, rfl⟩ : ∃ z, z = u := ⟨_, rfl⟩
  have h2 : r_1 = if 0 ≤ x ∧ x ≤ 3 then 1 else 0 := hu
  by_cases c3 : 0 ≤ x ∧ x ≤ 3
  · rw [if_pos c3] at h2
    subst h2
    show Go E Q 5 0 0 6 [(0, .ref (a 0)), (1, .int x), (2, .int y), (3, .int z), (4, .int t)] [.int 1] (loftW cI cS a m v w (seS T C li ap va le) (tpS B L P F) sh kf)
    refine g_if_eq hE 39 dX4_sieve_6 (by decide) (fun c4 => absurd c4 (by decide)) (fun c4 => ?_)
    refine g_iload_n hE dX4_sieve_9 2 rfl ?_
    refine g_iconst hE dX4_sieve_10 1 (by decide) ?_
    refine g_bipush hE dX4_sieve_11 60 (by decide) ?_
    refine g_callS hE (c_X4_within cI cS y 1 60) mk_X4_within st_X4_within ml_X4_47 dX4_sieve_13 (As := [.int y, .int 1, .int 60]) (rest := []) rfl rfl (by decide) (by decide) (Nat.le_of_ble_eq_true rfl) (by decide) (by decide) [] rfl (by decide) (fun u => Nat.le_of_ble_eq_true rfl) (ws' := fun u => loftW cI cS a m v w (seS T C li ap va le) (tpS B L P F) sh kf) (fun u => rfl) (fun u hu => ?_)
    obtain ⟨r_5, rfl⟩ : ∃ z, z = u := ⟨_, rfl⟩
    have h6 : r_5 = if 1 ≤ y ∧ y ≤ 60 then 1 else 0 := hu
    by_cases c7 : 1 ≤ y ∧ y ≤ 60
    · rw [if_pos c7] at h6
      subst h6
      show Go E Q 5 0 0 16 [(0, .ref (a 0)), (1, .int x), (2, .int y), (3, .int z), (4, .int t)] [.int 1] (loftW cI cS a m v w (seS T C li ap va le) (tpS B L P F) sh kf)
      refine g_if_eq hE 39 dX4_sieve_16 (by decide) (fun c8 => absurd c8 (by decide)) (fun c8 => ?_)
      refine g_iload_n hE dX4_sieve_19 3 rfl ?_
      refine g_iconst hE dX4_sieve_20 1 (by decide) ?_
      refine g_ldc hE dX4_sieve_21 ck_X4_77 ?_
      refine g_callS hE (c_X4_within cI cS z 1 99999) mk_X4_within st_X4_within ml_X4_47 dX4_sieve_23 (As := [.int z, .int 1, .int 99999]) (rest := []) rfl rfl (by decide) (by decide) (Nat.le_of_ble_eq_true rfl) (by decide) (by decide) [] rfl (by decide) (fun u => Nat.le_of_ble_eq_true rfl) (ws' := fun u => loftW cI cS a m v w (seS T C li ap va le) (tpS B L P F) sh kf) (fun u => rfl) (fun u hu => ?_)
      obtain ⟨r_9, rfl⟩ : ∃ z, z = u := ⟨_, rfl⟩
      have h10 : r_9 = if 1 ≤ z ∧ z ≤ 99999 then 1 else 0 := hu
      by_cases c11 : 1 ≤ z ∧ z ≤ 99999
      · rw [if_pos c11] at h10
        subst h10
        show Go E Q 5 0 0 26 [(0, .ref (a 0)), (1, .int x), (2, .int y), (3, .int z), (4, .int t)] [.int 1] (loftW cI cS a m v w (seS T C li ap va le) (tpS B L P F) sh kf)
        refine g_if_eq hE 39 dX4_sieve_26 (by decide) (fun c12 => absurd c12 (by decide)) (fun c12 => ?_)
        refine g_iload hE dX4_sieve_29 4 rfl ?_
        refine g_iconst hE dX4_sieve_31 0 (by decide) ?_
        refine g_iconst hE dX4_sieve_32 3 (by decide) ?_
        refine g_callS hE (c_X4_within cI cS t 0 3) mk_X4_within st_X4_within ml_X4_47 dX4_sieve_33 (As := [.int t, .int 0, .int 3]) (rest := []) rfl rfl (by decide) (by decide) (Nat.le_of_ble_eq_true rfl) (by decide) (by decide) [] rfl (by decide) (fun u => Nat.le_of_ble_eq_true rfl) (ws' := fun u => loftW cI cS a m v w (seS T C li ap va le) (tpS B L P F) sh kf) (fun u => rfl) (fun u hu => ?_)
        obtain ⟨r_13, rfl⟩ : ∃ z, z = u := ⟨_, rfl⟩
        have h14 : r_13 = if 0 ≤ t ∧ t ≤ 3 then 1 else 0 := hu
        by_cases c15 : 0 ≤ t ∧ t ≤ 3
        · rw [if_pos c15] at h14
          subst h14
          show Go E Q 5 0 0 36 [(0, .ref (a 0)), (1, .int x), (2, .int y), (3, .int z), (4, .int t)] [.int 1] (loftW cI cS a m v w (seS T C li ap va le) (tpS B L P F) sh kf)
          refine g_if_ne hE 41 dX4_sieve_36 (by decide) (fun c16 => ?_) (fun c16 => absurd c16 (by decide))
          refine g_aload_n hE dX4_sieve_41 0 rfl ?_
          refine g_get hE fl_X4_10 dX4_sieve_42 0 rfl rfl ?_
          refine g_get hE fl_X4_78 dX4_sieve_45 1 rfl rfl ?_
          refine g_bipush hE dX4_sieve_48 8 (by decide) ?_
          refine g_icmp_lt hE 58 dX4_sieve_50 (by decide) (fun c17 => ?_) (fun c17 => ?_)
          · have kc17 := nat_lt_t (show (m 9 1) = nI sv from hsv) (show 8 = nI 8 from rfl) (by omega) (by omega) c17
            refine g_aload_n hE dX4_sieve_58 0 rfl ?_
            refine g_get hE fl_X4_10 dX4_sieve_59 0 rfl rfl ?_
            refine g_iload_n hE dX4_sieve_62 1 rfl ?_
            refine g_iload_n hE dX4_sieve_63 2 rfl ?_
            refine g_iload_n hE dX4_sieve_64 3 rfl ?_
            refine g_iload hE dX4_sieve_65 4 rfl ?_
            refine g_callV hE (c_X0_addSieve cI cS (fun i => a (i + 1)) m (by first | assumption | exact mw_of (by assumption)) x y z t (by omega)) mk_X0_addSieve mv_X0_addSieve ml_X4_81 dX4_sieve_67 (As := [.int x, .int y, .int z, .int t]) (rest := []) rfl rfl 1 rfl (show vwCl[0]? = some (RX0, TX0, 13) from rfl) (by decide) (by decide) (Nat.le_of_ble_eq_true rfl) (by decide) (by decide) [1, 2, 3, 4, 5, 6, 7, 8, 9, 10] rfl (by decide) (fun u => Nat.le_of_ble_eq_true rfl) (ws' := fun u => loftW cI cS a (addV m sv x y z t) v w (seS T C li ap va le) (tpS B L P F) sh kf) (fun u => rfl) (fun u hu => ?_)
            obtain ⟨r_18, rfl⟩ : ∃ z, z = u := ⟨_, rfl⟩
            have h19 : r_18 = (nI sv) := hu
            subst h19
            show Go E Q 5 0 0 70 [(0, .ref (a 0)), (1, .int x), (2, .int y), (3, .int z), (4, .int t)] [.int (nI sv)] (loftW cI cS a (addV m sv x y z t) v w (seS T C li ap va le) (tpS B L P F) sh kf)
            exact g_iret hE hQ dX4_sieve_70 rfl ((nI sv), (addV m sv x y z t)) rfl rfl (by rw [fgSieve, if_pos c3, if_pos c7, if_pos c11, if_pos c15, if_pos c17])
          · have kc17 := nat_lt_f (show (m 9 1) = nI sv from hsv) (show 8 = nI 8 from rfl) (by omega) (by omega) c17
            refine g_bipush hE dX4_sieve_53 (-3) (by decide) ?_
            refine g_goto hE 70 dX4_sieve_55 (by decide) ?_
            exact g_iret hE hQ dX4_sieve_70 rfl ((-3), m) rfl rfl (by rw [fgSieve, if_pos c3, if_pos c7, if_pos c11, if_pos c15, if_neg c17])
        · rw [if_neg c15] at h14
          subst h14
          show Go E Q 5 0 0 36 [(0, .ref (a 0)), (1, .int x), (2, .int y), (3, .int z), (4, .int t)] [.int 0] (loftW cI cS a m v w (seS T C li ap va le) (tpS B L P F) sh kf)
          refine g_if_ne hE 41 dX4_sieve_36 (by decide) (fun c20 => absurd (by decide) c20) (fun c20 => ?_)
          refine g_iconst hE dX4_sieve_39 (-1) (by decide) ?_
          exact g_iret hE hQ dX4_sieve_40 rfl ((-1), m) rfl rfl (by rw [fgSieve, if_pos c3, if_pos c7, if_pos c11, if_neg c15])
      · rw [if_neg c11] at h10
        subst h10
        show Go E Q 5 0 0 26 [(0, .ref (a 0)), (1, .int x), (2, .int y), (3, .int z), (4, .int t)] [.int 0] (loftW cI cS a m v w (seS T C li ap va le) (tpS B L P F) sh kf)
        refine g_if_eq hE 39 dX4_sieve_26 (by decide) (fun c21 => ?_) (fun c21 => absurd (by decide) c21)
        refine g_iconst hE dX4_sieve_39 (-1) (by decide) ?_
        exact g_iret hE hQ dX4_sieve_40 rfl ((-1), m) rfl rfl (by rw [fgSieve, if_pos c3, if_pos c7, if_neg c11])
    · rw [if_neg c7] at h6
      subst h6
      show Go E Q 5 0 0 16 [(0, .ref (a 0)), (1, .int x), (2, .int y), (3, .int z), (4, .int t)] [.int 0] (loftW cI cS a m v w (seS T C li ap va le) (tpS B L P F) sh kf)
      refine g_if_eq hE 39 dX4_sieve_16 (by decide) (fun c22 => ?_) (fun c22 => absurd (by decide) c22)
      refine g_iconst hE dX4_sieve_39 (-1) (by decide) ?_
      exact g_iret hE hQ dX4_sieve_40 rfl ((-1), m) rfl rfl (by rw [fgSieve, if_pos c3, if_neg c7])
  · rw [if_neg c3] at h2
    subst h2
    show Go E Q 5 0 0 6 [(0, .ref (a 0)), (1, .int x), (2, .int y), (3, .int z), (4, .int t)] [.int 0] (loftW cI cS a m v w (seS T C li ap va le) (tpS B L P F) sh kf)
    refine g_if_eq hE 39 dX4_sieve_6 (by decide) (fun c23 => ?_) (fun c23 => absurd (by decide) c23)
    refine g_iconst hE dX4_sieve_39 (-1) (by decide) ?_
    exact g_iret hE hQ dX4_sieve_40 rfl ((-1), m) rfl rfl (by rw [fgSieve, if_neg c3])
set_option maxHeartbeats 4000000 in
set_option maxRecDepth 100000 in
theorem c_X4_told (cI cS : ClassId) (a : Nat → Nat) (m v w : Nat → Nat → Int32) (T C : Nat → Int32) (li ap va le : Int32) (B : Nat → Int32) (L P : Nat) (F : Int32) (sh : Nat → Nat → Nat → Int32) (kf : Int32) {n sv pl n1 sv1 pl1 n2 sv2 pl2 : Nat} (hM : MW m n sv pl) (hV : MW v n1 sv1 pl1) (hW : MW w n2 sv2 pl2) (hL : L ≤ 120) (x y : Int32) : CT cI cS yX4_told cX4_told 3 (some .int) 2 [.ref (a 0), .int x, .int y] (loftW cI cS a m v w (seS T C li ap va le) (tpS B L P F) sh kf) 0 0 (fun u : Int32 => u = fTold m x y) (fun u => some (.int u)) (fun u => (loftW cI cS a m v w (seS T C li ap va le) (tpS B L P F) sh kf)) := by
  refine ct_intro (by decide) (Nat.le_of_ble_eq_true rfl) (fun E Q hE hQ hI => ?_)
  have hE : CxOk E cI cS RX4 cX4_told 3 (some .int) 2 0 0 := hE
  show Go E Q 3 0 0 0 [(0, .ref (a 0)), (1, .int x), (2, .int y)] [] (loftW cI cS a m v w (seS T C li ap va le) (tpS B L P F) sh kf)
  have hn := hM.1
  have hn6 := hM.2.1
  have hsv := hM.2.2.1
  have hsv8 := hM.2.2.2.1
  have hpl := hM.2.2.2.2.1
  have hpl6 := hM.2.2.2.2.2
  have hn1 := hV.1
  have hn16 := hV.2.1
  have hsv1 := hV.2.2.1
  have hsv18 := hV.2.2.2.1
  have hpl1 := hV.2.2.2.2.1
  have hpl16 := hV.2.2.2.2.2
  refine g_aload_n hE dX4_told_0 0 rfl ?_
  refine g_get hE fl_X4_10 dX4_told_1 0 rfl rfl ?_
  refine g_iload_n hE dX4_told_4 1 rfl ?_
  refine g_callV hE (c_X0_hasSieve cI cS (fun i => a (i + 1)) m (by first | assumption | exact mw_of (by assumption)) x) mk_X0_hasSieve mv_X0_hasSieve ml_X4_85 dX4_told_5 (As := [.int x]) (rest := []) rfl rfl 1 rfl (show vwCl[0]? = some (RX0, TX0, 13) from rfl) (by decide) (by decide) (Nat.le_of_ble_eq_true rfl) (by decide) (by decide) [1, 2, 3, 4, 5, 6, 7, 8, 9, 10] rfl (by decide) (fun u => Nat.le_of_ble_eq_true rfl) (ws' := fun u => loftW cI cS a m v w (seS T C li ap va le) (tpS B L P F) sh kf) (fun u => rfl) (fun u hu => ?_)
  obtain ⟨r_1, rfl⟩ : ∃ z, z = u := ⟨_, rfl⟩
  have h2 : r_1 = if 0 ≤ x ∧ x < m 9 1 then 1 else 0 := hu
  by_cases c3 : 0 ≤ x ∧ x < m 9 1
  · rw [if_pos c3] at h2
    subst h2
    show Go E Q 3 0 0 8 [(0, .ref (a 0)), (1, .int x), (2, .int y)] [.int 1] (loftW cI cS a m v w (seS T C li ap va le) (tpS B L P F) sh kf)
    refine g_if_ne hE 13 dX4_told_8 (by decide) (fun c4 => ?_) (fun c4 => absurd c4 (by decide))
    refine g_iload_n hE dX4_told_13 2 rfl ?_
    refine g_sw hE dX4_told_14 92 (fun j => [44, 56, 68, 80].getD j 0) (by decide) 4 (by decide) (by intro j hj; rcases (show j = 0 ∨ j = 1 ∨ j = 2 ∨ j = 3 by omega) with rfl | rfl | rfl | rfl <;> exact ⟨_, rfl, by decide⟩) (fun c5 => ?_) (fun j hj c5 => ?_)
    · refine g_iconst hE dX4_told_92 (-1) (by decide) ?_
      exact g_iret hE hQ dX4_told_93 rfl (-1) rfl rfl (by rw [fTold, if_pos c3, if_neg (by intro q; rw [q] at c5; revert c5; decide), if_neg (by intro q; rw [q] at c5; revert c5; decide), if_neg (by intro q; rw [q] at c5; revert c5; decide), if_neg (by intro q; rw [q] at c5; revert c5; decide)])
    · rcases (show j = 0 ∨ j = 1 ∨ j = 2 ∨ j = 3 by omega) with rfl | rfl | rfl | rfl
      · have e6 : y = 0 := Int32.toInt_inj.mp (c5.trans (by decide))
        show Go E Q 3 0 0 44 [(0, .ref (a 0)), (1, .int x), (2, .int y)] [] (loftW cI cS a m v w (seS T C li ap va le) (tpS B L P F) sh kf)
        refine g_aload_n hE dX4_told_44 0 rfl ?_
        refine g_get hE fl_X4_10 dX4_told_45 0 rfl rfl ?_
        refine g_get hE fl_X4_88 dX4_told_48 1 rfl rfl ?_
        refine g_iload_n hE dX4_told_51 1 rfl ?_
        refine g_callS hE (c_X4_at cI cS (a 5) 8 (m 3) x (by decide)) mk_X4_at st_X4_at ml_X4_91 dX4_told_52 (As := [.ref (a 5), .int x]) (rest := []) rfl rfl (by decide) (by decide) (Nat.le_of_ble_eq_true rfl) (by decide) (by decide) [5] rfl (by decide) (fun u => Nat.le_of_ble_eq_true rfl) (ws' := fun u => loftW cI cS a m v w (seS T C li ap va le) (tpS B L P F) sh kf) (fun u => rfl) (fun u hu => ?_)
        obtain ⟨r_7, rfl⟩ : ∃ z, z = u := ⟨_, rfl⟩
        have h8 : r_7 = (atv (m 3) 8 x) := hu
        subst h8
        show Go E Q 3 0 0 55 [(0, .ref (a 0)), (1, .int x), (2, .int y)] [.int (atv (m 3) 8 x)] (loftW cI cS a m v w (seS T C li ap va le) (tpS B L P F) sh kf)
        exact g_iret hE hQ dX4_told_55 rfl (atv (m 3) 8 x) rfl rfl (by rw [fTold, if_pos c3, if_pos e6])
      · have e9 : y = 1 := Int32.toInt_inj.mp (c5.trans (by decide))
        show Go E Q 3 0 0 56 [(0, .ref (a 0)), (1, .int x), (2, .int y)] [] (loftW cI cS a m v w (seS T C li ap va le) (tpS B L P F) sh kf)
        refine g_aload_n hE dX4_told_56 0 rfl ?_
        refine g_get hE fl_X4_10 dX4_told_57 0 rfl rfl ?_
        refine g_get hE fl_X4_95 dX4_told_60 1 rfl rfl ?_
        refine g_iload_n hE dX4_told_63 1 rfl ?_
        refine g_callS hE (c_X4_at cI cS (a 6) 8 (m 4) x (by decide)) mk_X4_at st_X4_at ml_X4_91 dX4_told_64 (As := [.ref (a 6), .int x]) (rest := []) rfl rfl (by decide) (by decide) (Nat.le_of_ble_eq_true rfl) (by decide) (by decide) [6] rfl (by decide) (fun u => Nat.le_of_ble_eq_true rfl) (ws' := fun u => loftW cI cS a m v w (seS T C li ap va le) (tpS B L P F) sh kf) (fun u => rfl) (fun u hu => ?_)
        obtain ⟨r_10, rfl⟩ : ∃ z, z = u := ⟨_, rfl⟩
        have h11 : r_10 = (atv (m 4) 8 x) := hu
        subst h11
        show Go E Q 3 0 0 67 [(0, .ref (a 0)), (1, .int x), (2, .int y)] [.int (atv (m 4) 8 x)] (loftW cI cS a m v w (seS T C li ap va le) (tpS B L P F) sh kf)
        exact g_iret hE hQ dX4_told_67 rfl (atv (m 4) 8 x) rfl rfl (by rw [fTold, if_pos c3, if_neg (show ¬ y = 0 by rw [e9]; decide), if_pos e9])
      · have e12 : y = 2 := Int32.toInt_inj.mp (c5.trans (by decide))
        show Go E Q 3 0 0 68 [(0, .ref (a 0)), (1, .int x), (2, .int y)] [] (loftW cI cS a m v w (seS T C li ap va le) (tpS B L P F) sh kf)
        refine g_aload_n hE dX4_told_68 0 rfl ?_
        refine g_get hE fl_X4_10 dX4_told_69 0 rfl rfl ?_
        refine g_get hE fl_X4_98 dX4_told_72 1 rfl rfl ?_
        refine g_iload_n hE dX4_told_75 1 rfl ?_
        refine g_callS hE (c_X4_at cI cS (a 7) 8 (m 5) x (by decide)) mk_X4_at st_X4_at ml_X4_91 dX4_told_76 (As := [.ref (a 7), .int x]) (rest := []) rfl rfl (by decide) (by decide) (Nat.le_of_ble_eq_true rfl) (by decide) (by decide) [7] rfl (by decide) (fun u => Nat.le_of_ble_eq_true rfl) (ws' := fun u => loftW cI cS a m v w (seS T C li ap va le) (tpS B L P F) sh kf) (fun u => rfl) (fun u hu => ?_)
        obtain ⟨r_13, rfl⟩ : ∃ z, z = u := ⟨_, rfl⟩
        have h14 : r_13 = (atv (m 5) 8 x) := hu
        subst h14
        show Go E Q 3 0 0 79 [(0, .ref (a 0)), (1, .int x), (2, .int y)] [.int (atv (m 5) 8 x)] (loftW cI cS a m v w (seS T C li ap va le) (tpS B L P F) sh kf)
        exact g_iret hE hQ dX4_told_79 rfl (atv (m 5) 8 x) rfl rfl (by rw [fTold, if_pos c3, if_neg (show ¬ y = 0 by rw [e12]; decide), if_neg (show ¬ y = 1 by rw [e12]; decide), if_pos e12])
      · have e15 : y = 3 := Int32.toInt_inj.mp (c5.trans (by decide))
        show Go E Q 3 0 0 80 [(0, .ref (a 0)), (1, .int x), (2, .int y)] [] (loftW cI cS a m v w (seS T C li ap va le) (tpS B L P F) sh kf)
        refine g_aload_n hE dX4_told_80 0 rfl ?_
        refine g_get hE fl_X4_10 dX4_told_81 0 rfl rfl ?_
        refine g_get hE fl_X4_101 dX4_told_84 1 rfl rfl ?_
        refine g_iload_n hE dX4_told_87 1 rfl ?_
        refine g_callS hE (c_X4_at cI cS (a 8) 8 (m 6) x (by decide)) mk_X4_at st_X4_at ml_X4_91 dX4_told_88 (As := [.ref (a 8), .int x]) (rest := []) rfl rfl (by decide) (by decide) (Nat.le_of_ble_eq_true rfl) (by decide) (by decide) [8] rfl (by decide) (fun u => Nat.le_of_ble_eq_true rfl) (ws' := fun u => loftW cI cS a m v w (seS T C li ap va le) (tpS B L P F) sh kf) (fun u => rfl) (fun u hu => ?_)
        obtain ⟨r_16, rfl⟩ : ∃ z, z = u := ⟨_, rfl⟩
        have h17 : r_16 = (atv (m 6) 8 x) := hu
        subst h17
        show Go E Q 3 0 0 91 [(0, .ref (a 0)), (1, .int x), (2, .int y)] [.int (atv (m 6) 8 x)] (loftW cI cS a m v w (seS T C li ap va le) (tpS B L P F) sh kf)
        exact g_iret hE hQ dX4_told_91 rfl (atv (m 6) 8 x) rfl rfl (by rw [fTold, if_pos c3, if_neg (show ¬ y = 0 by rw [e15]; decide), if_neg (show ¬ y = 1 by rw [e15]; decide), if_neg (show ¬ y = 2 by rw [e15]; decide), if_pos e15])
  · rw [if_neg c3] at h2
    subst h2
    show Go E Q 3 0 0 8 [(0, .ref (a 0)), (1, .int x), (2, .int y)] [.int 0] (loftW cI cS a m v w (seS T C li ap va le) (tpS B L P F) sh kf)
    refine g_if_ne hE 13 dX4_told_8 (by decide) (fun c18 => absurd (by decide) c18) (fun c18 => ?_)
    refine g_iconst hE dX4_told_11 (-1) (by decide) ?_
    exact g_iret hE hQ dX4_told_12 rfl (-1) rfl rfl (by rw [fTold, if_neg c3])
set_option maxHeartbeats 4000000 in
set_option maxRecDepth 100000 in
theorem c_X4_mend (cI cS : ClassId) (a : Nat → Nat) (m v w : Nat → Nat → Int32) (T C : Nat → Int32) (li ap va le : Int32) (B : Nat → Int32) (L P : Nat) (F : Int32) (sh : Nat → Nat → Nat → Int32) (kf : Int32) {n sv pl n1 sv1 pl1 n2 sv2 pl2 : Nat} (hM : MW m n sv pl) (hV : MW v n1 sv1 pl1) (hW : MW w n2 sv2 pl2) (hL : L ≤ 120) (x y : Int32) : CT cI cS yX4_mend cX4_mend 3 (some .int) 2 [.ref (a 0), .int x, .int y] (loftW cI cS a m v w (seS T C li ap va le) (tpS B L P F) sh kf) 0 0 (fun u : Int32 × (Nat → Nat → Int32) => (u.1, u.2) = fgMend m x y) (fun u => some (.int u.1)) (fun u => (loftW cI cS a u.2 v w (seS T C li ap va le) (tpS B L P F) sh kf)) := by
  refine ct_intro (by decide) (Nat.le_of_ble_eq_true rfl) (fun E Q hE hQ hI => ?_)
  have hE : CxOk E cI cS RX4 cX4_mend 3 (some .int) 2 0 0 := hE
  show Go E Q 3 0 0 0 [(0, .ref (a 0)), (1, .int x), (2, .int y)] [] (loftW cI cS a m v w (seS T C li ap va le) (tpS B L P F) sh kf)
  have hn := hM.1
  have hn6 := hM.2.1
  have hsv := hM.2.2.1
  have hsv8 := hM.2.2.2.1
  have hpl := hM.2.2.2.2.1
  have hpl6 := hM.2.2.2.2.2
  have hn1 := hV.1
  have hn16 := hV.2.1
  have hsv1 := hV.2.2.1
  have hsv18 := hV.2.2.2.1
  have hpl1 := hV.2.2.2.2.1
  have hpl16 := hV.2.2.2.2.2
  refine g_aload_n hE dX4_mend_0 0 rfl ?_
  refine g_get hE fl_X4_10 dX4_mend_1 0 rfl rfl ?_
  refine g_iload_n hE dX4_mend_4 1 rfl ?_
  refine g_callV hE (c_X0_hasSieve cI cS (fun i => a (i + 1)) m (by first | assumption | exact mw_of (by assumption)) x) mk_X0_hasSieve mv_X0_hasSieve ml_X4_85 dX4_mend_5 (As := [.int x]) (rest := []) rfl rfl 1 rfl (show vwCl[0]? = some (RX0, TX0, 13) from rfl) (by decide) (by decide) (Nat.le_of_ble_eq_true rfl) (by decide) (by decide) [1, 2, 3, 4, 5, 6, 7, 8, 9, 10] rfl (by decide) (fun u => Nat.le_of_ble_eq_true rfl) (ws' := fun u => loftW cI cS a m v w (seS T C li ap va le) (tpS B L P F) sh kf) (fun u => rfl) (fun u hu => ?_)
  obtain ⟨r_1, rfl⟩ : ∃ z, z = u := ⟨_, rfl⟩
  have h2 : r_1 = if 0 ≤ x ∧ x < m 9 1 then 1 else 0 := hu
  by_cases c3 : 0 ≤ x ∧ x < m 9 1
  · rw [if_pos c3] at h2
    subst h2
    show Go E Q 3 0 0 8 [(0, .ref (a 0)), (1, .int x), (2, .int y)] [.int 1] (loftW cI cS a m v w (seS T C li ap va le) (tpS B L P F) sh kf)
    refine g_if_eq hE 21 dX4_mend_8 (by decide) (fun c4 => absurd c4 (by decide)) (fun c4 => ?_)
    refine g_iload_n hE dX4_mend_11 2 rfl ?_
    refine g_iconst hE dX4_mend_12 1 (by decide) ?_
    refine g_bipush hE dX4_mend_13 60 (by decide) ?_
    refine g_callS hE (c_X4_within cI cS y 1 60) mk_X4_within st_X4_within ml_X4_47 dX4_mend_15 (As := [.int y, .int 1, .int 60]) (rest := []) rfl rfl (by decide) (by decide) (Nat.le_of_ble_eq_true rfl) (by decide) (by decide) [] rfl (by decide) (fun u => Nat.le_of_ble_eq_true rfl) (ws' := fun u => loftW cI cS a m v w (seS T C li ap va le) (tpS B L P F) sh kf) (fun u => rfl) (fun u hu => ?_)
    obtain ⟨r_5, rfl⟩ : ∃ z, z = u := ⟨_, rfl⟩
    have h6 : r_5 = if 1 ≤ y ∧ y ≤ 60 then 1 else 0 := hu
    by_cases c7 : 1 ≤ y ∧ y ≤ 60
    · rw [if_pos c7] at h6
      subst h6
      show Go E Q 3 0 0 18 [(0, .ref (a 0)), (1, .int x), (2, .int y)] [.int 1] (loftW cI cS a m v w (seS T C li ap va le) (tpS B L P F) sh kf)
      refine g_if_ne hE 23 dX4_mend_18 (by decide) (fun c8 => ?_) (fun c8 => absurd c8 (by decide))
      refine g_aload_n hE dX4_mend_23 0 rfl ?_
      refine g_get hE fl_X4_10 dX4_mend_24 0 rfl rfl ?_
      refine g_get hE fl_X4_88 dX4_mend_27 1 rfl rfl ?_
      refine g_iload_n hE dX4_mend_30 1 rfl ?_
      refine g_callS hE (c_X4_at cI cS (a 5) 8 (m 3) x (by decide)) mk_X4_at st_X4_at ml_X4_91 dX4_mend_31 (As := [.ref (a 5), .int x]) (rest := []) rfl rfl (by decide) (by decide) (Nat.le_of_ble_eq_true rfl) (by decide) (by decide) [5] rfl (by decide) (fun u => Nat.le_of_ble_eq_true rfl) (ws' := fun u => loftW cI cS a m v w (seS T C li ap va le) (tpS B L P F) sh kf) (fun u => rfl) (fun u hu => ?_)
      obtain ⟨r_9, rfl⟩ : ∃ z, z = u := ⟨_, rfl⟩
      have h10 : r_9 = (atv (m 3) 8 x) := hu
      subst h10
      show Go E Q 3 0 0 34 [(0, .ref (a 0)), (1, .int x), (2, .int y)] [.int (atv (m 3) 8 x)] (loftW cI cS a m v w (seS T C li ap va le) (tpS B L P F) sh kf)
      refine g_iconst hE dX4_mend_34 3 (by decide) ?_
      refine g_icmp_ne hE 43 dX4_mend_35 (by decide) (fun c11 => ?_) (fun c11 => ?_)
      · refine g_aload_n hE dX4_mend_43 0 rfl ?_
        refine g_get hE fl_X4_10 dX4_mend_44 0 rfl rfl ?_
        refine g_get hE fl_X4_95 dX4_mend_47 1 rfl rfl ?_
        refine g_iload_n hE dX4_mend_50 1 rfl ?_
        refine g_iload_n hE dX4_mend_51 2 rfl ?_
        refine g_callS hE (c_X4_exchange cI cS (a 6) 8 (m 4) x y (by decide)) mk_X4_exchange st_X4_exchange ml_X4_67 dX4_mend_52 (As := [.ref (a 6), .int x, .int y]) (rest := []) rfl rfl (by decide) (by decide) (Nat.le_of_ble_eq_true rfl) (by decide) (by decide) [6] rfl (by decide) (fun u => Nat.le_of_ble_eq_true rfl) (ws' := fun u => loftW cI cS a (pA m 4 u.2) v w (seS T C li ap va le) (tpS B L P F) sh kf) (fun u => rfl) (fun u hu => ?_)
        obtain ⟨r_12, f_13⟩ := u
        have h14 : r_12 = atv (m 4) 8 x ∧ f_13 = putv (m 4) 8 x y := hu
        have h15 : f_13 = (putv (m 4) 8 x y) := h14.2
        subst h15
        have h16 : r_12 = (atv (m 4) 8 x) := h14.1
        subst h16
        show Go E Q 3 0 0 55 [(0, .ref (a 0)), (1, .int x), (2, .int y)] [.int (atv (m 4) 8 x)] (loftW cI cS a (pA m 4 (putv (m 4) 8 x y)) v w (seS T C li ap va le) (tpS B L P F) sh kf)
        exact g_iret hE hQ dX4_mend_55 rfl ((atv (m 4) 8 x), (pA m 4 (putv (m 4) 8 x y))) rfl rfl (by rw [fgMend, if_pos c3, if_pos c7, if_neg c11])
      · refine g_bipush hE dX4_mend_38 (-2) (by decide) ?_
        refine g_goto hE 55 dX4_mend_40 (by decide) ?_
        exact g_iret hE hQ dX4_mend_55 rfl ((-2), m) rfl rfl (by rw [fgMend, if_pos c3, if_pos c7, if_pos c11])
    · rw [if_neg c7] at h6
      subst h6
      show Go E Q 3 0 0 18 [(0, .ref (a 0)), (1, .int x), (2, .int y)] [.int 0] (loftW cI cS a m v w (seS T C li ap va le) (tpS B L P F) sh kf)
      refine g_if_ne hE 23 dX4_mend_18 (by decide) (fun c17 => absurd (by decide) c17) (fun c17 => ?_)
      refine g_iconst hE dX4_mend_21 (-1) (by decide) ?_
      exact g_iret hE hQ dX4_mend_22 rfl ((-1), m) rfl rfl (by rw [fgMend, if_pos c3, if_neg c7])
  · rw [if_neg c3] at h2
    subst h2
    show Go E Q 3 0 0 8 [(0, .ref (a 0)), (1, .int x), (2, .int y)] [.int 0] (loftW cI cS a m v w (seS T C li ap va le) (tpS B L P F) sh kf)
    refine g_if_eq hE 21 dX4_mend_8 (by decide) (fun c18 => ?_) (fun c18 => absurd (by decide) c18)
    refine g_iconst hE dX4_mend_21 (-1) (by decide) ?_
    exact g_iret hE hQ dX4_mend_22 rfl ((-1), m) rfl rfl (by rw [fgMend, if_neg c3])
set_option maxHeartbeats 4000000 in
set_option maxRecDepth 100000 in
theorem c_X4_count (cI cS : ClassId) (a : Nat → Nat) (m v w : Nat → Nat → Int32) (T C : Nat → Int32) (li ap va le : Int32) (B : Nat → Int32) (L P : Nat) (F : Int32) (sh : Nat → Nat → Nat → Int32) (kf : Int32) {n sv pl n1 sv1 pl1 n2 sv2 pl2 : Nat} (hM : MW m n sv pl) (hV : MW v n1 sv1 pl1) (hW : MW w n2 sv2 pl2) (hL : L ≤ 120) (x : Int32) : CT cI cS yX4_count cX4_count 2 (some .int) 2 [.ref (a 0), .int x] (loftW cI cS a m v w (seS T C li ap va le) (tpS B L P F) sh kf) 0 0 (fun u : Int32 => u = fCount m n x) (fun u => some (.int u)) (fun u => (loftW cI cS a m v w (seS T C li ap va le) (tpS B L P F) sh kf)) := by
  refine ct_intro (by decide) (Nat.le_of_ble_eq_true rfl) (fun E Q hE hQ hI => ?_)
  have hE : CxOk E cI cS RX4 cX4_count 2 (some .int) 2 0 0 := hE
  show Go E Q 2 0 0 0 [(0, .ref (a 0)), (1, .int x)] [] (loftW cI cS a m v w (seS T C li ap va le) (tpS B L P F) sh kf)
  have hn := hM.1
  have hn6 := hM.2.1
  have hsv := hM.2.2.1
  have hsv8 := hM.2.2.2.1
  have hpl := hM.2.2.2.2.1
  have hpl6 := hM.2.2.2.2.2
  have hn1 := hV.1
  have hn16 := hV.2.1
  have hsv1 := hV.2.2.1
  have hsv18 := hV.2.2.2.1
  have hpl1 := hV.2.2.2.2.1
  have hpl16 := hV.2.2.2.2.2
  refine g_iload_n hE dX4_count_0 1 rfl ?_
  refine g_sw hE dX4_count_1 83 (fun j => [36, 44, 52, 60, 68].getD j 0) (by decide) 5 (by decide) (by intro j hj; rcases (show j = 0 ∨ j = 1 ∨ j = 2 ∨ j = 3 ∨ j = 4 by omega) with rfl | rfl | rfl | rfl | rfl <;> exact ⟨_, rfl, by decide⟩) (fun c1 => ?_) (fun j hj c1 => ?_)
  · refine g_iconst hE dX4_count_83 (-1) (by decide) ?_
    exact g_iret hE hQ dX4_count_84 rfl (-1) rfl rfl (by rw [fCount, if_neg (by intro q; rw [q] at c1; revert c1; decide), if_neg (by intro q; rw [q] at c1; revert c1; decide), if_neg (by intro q; rw [q] at c1; revert c1; decide), if_neg (by intro q; rw [q] at c1; revert c1; decide), if_neg (by intro q; rw [q] at c1; revert c1; decide)])
  · rcases (show j = 0 ∨ j = 1 ∨ j = 2 ∨ j = 3 ∨ j = 4 by omega) with rfl | rfl | rfl | rfl | rfl
    · have e2 : x = 0 := Int32.toInt_inj.mp (c1.trans (by decide))
      show Go E Q 2 0 0 36 [(0, .ref (a 0)), (1, .int x)] [] (loftW cI cS a m v w (seS T C li ap va le) (tpS B L P F) sh kf)
      refine g_aload_n hE dX4_count_36 0 rfl ?_
      refine g_get hE fl_X4_10 dX4_count_37 0 rfl rfl ?_
      refine g_get hE fl_X4_78 dX4_count_40 1 rfl rfl ?_
      exact g_iret hE hQ dX4_count_43 rfl (m 9 1) rfl rfl (by rw [fCount, if_pos e2])
    · have e3 : x = 1 := Int32.toInt_inj.mp (c1.trans (by decide))
      show Go E Q 2 0 0 44 [(0, .ref (a 0)), (1, .int x)] [] (loftW cI cS a m v w (seS T C li ap va le) (tpS B L P F) sh kf)
      refine g_aload_n hE dX4_count_44 0 rfl ?_
      refine g_get hE fl_X4_10 dX4_count_45 0 rfl rfl ?_
      refine g_get hE fl_X4_51 dX4_count_48 1 rfl rfl ?_
      exact g_iret hE hQ dX4_count_51 rfl (m 9 0) rfl rfl (by rw [fCount, if_neg (show ¬ x = 0 by rw [e3]; decide), if_pos e3])
    · have e4 : x = 2 := Int32.toInt_inj.mp (c1.trans (by decide))
      show Go E Q 2 0 0 52 [(0, .ref (a 0)), (1, .int x)] [] (loftW cI cS a m v w (seS T C li ap va le) (tpS B L P F) sh kf)
      refine g_aload_n hE dX4_count_52 0 rfl ?_
      refine g_get hE fl_X4_10 dX4_count_53 0 rfl rfl ?_
      refine g_get hE fl_X4_125 dX4_count_56 1 rfl rfl ?_
      exact g_iret hE hQ dX4_count_59 rfl (m 9 2) rfl rfl (by rw [fCount, if_neg (show ¬ x = 0 by rw [e4]; decide), if_neg (show ¬ x = 1 by rw [e4]; decide), if_pos e4])
    · have e5 : x = 3 := Int32.toInt_inj.mp (c1.trans (by decide))
      show Go E Q 2 0 0 60 [(0, .ref (a 0)), (1, .int x)] [] (loftW cI cS a m v w (seS T C li ap va le) (tpS B L P F) sh kf)
      refine g_aload_n hE dX4_count_60 0 rfl ?_
      refine g_get hE fl_X4_10 dX4_count_61 0 rfl rfl ?_
      refine g_get hE fl_X4_145 dX4_count_64 1 rfl rfl ?_
      exact g_iret hE hQ dX4_count_67 rfl (m 9 3) rfl rfl (by rw [fCount, if_neg (show ¬ x = 0 by rw [e5]; decide), if_neg (show ¬ x = 1 by rw [e5]; decide), if_neg (show ¬ x = 2 by rw [e5]; decide), if_pos e5])
    · have e6 : x = 4 := Int32.toInt_inj.mp (c1.trans (by decide))
      show Go E Q 2 0 0 68 [(0, .ref (a 0)), (1, .int x)] [] (loftW cI cS a m v w (seS T C li ap va le) (tpS B L P F) sh kf)
      refine g_aload_n hE dX4_count_68 0 rfl ?_
      refine g_get hE fl_X4_10 dX4_count_69 0 rfl rfl ?_
      refine g_aload_n hE dX4_count_72 0 rfl ?_
      refine g_get hE fl_X4_10 dX4_count_73 0 rfl rfl ?_
      refine g_callV hE (c_X0_load cI cS (fun i => a (i + 1)) m (by first | assumption | exact mw_of (by assumption))) mk_X0_load mv_X0_load ml_X4_148 dX4_count_76 (As := []) (rest := [.ref (a 1)]) rfl rfl 1 rfl (show vwCl[0]? = some (RX0, TX0, 13) from rfl) (by decide) (by decide) (Nat.le_of_ble_eq_true rfl) (by decide) (by decide) [1, 2, 3, 4, 5, 6, 7, 8, 9, 10] rfl (by decide) (fun u => Nat.le_of_ble_eq_true rfl) (ws' := fun u => loftW cI cS a m v w (seS T C li ap va le) (tpS B L P F) sh kf) (fun u => rfl) (fun u hu => ?_)
      obtain ⟨r_7, rfl⟩ : ∃ z, z = u := ⟨_, rfl⟩
      have h8 : r_7 = (nI (ldS m n)) := hu
      subst h8
      show Go E Q 2 0 0 79 [(0, .ref (a 0)), (1, .int x)] [.int (nI (ldS m n)), .ref (a 1)] (loftW cI cS a m v w (seS T C li ap va le) (tpS B L P F) sh kf)
      refine g_callV hE (c_X0_amountOf cI cS (fun i => a (i + 1)) m (by first | assumption | exact mw_of (by assumption)) (nI (ldS m n)) (ldS m n) (show (nI (ldS m n)) = nI (ldS m n) from rfl) (by first | assumption | exact bs_lt64 _ (by assumption) | exact fallS_lt (by assumption) (by assumption) | exact nd_lt (by assumption) (by assumption) | exact nd_lt (by assumption) (fallS_lt (by assumption) (by assumption)) | exact nd_lt (by assumption) (bs_lt64 _ (by assumption)) | exact and_lt (by assumption) (by assumption) | exact hpS_lt (by assumption) | decide)) mk_X0_amountOf mv_X0_amountOf ml_X4_152 dX4_count_79 (As := [.int (nI (ldS m n))]) (rest := []) rfl rfl 1 rfl (show vwCl[0]? = some (RX0, TX0, 13) from rfl) (by decide) (by decide) (Nat.le_of_ble_eq_true rfl) (by decide) (by decide) [1, 2, 3, 4, 5, 6, 7, 8, 9, 10] rfl (by decide) (fun u => Nat.le_of_ble_eq_true rfl) (ws' := fun u => loftW cI cS a m v w (seS T C li ap va le) (tpS B L P F) sh kf) (fun u => rfl) (fun u hu => ?_)
      obtain ⟨r_9, rfl⟩ : ∃ z, z = u := ⟨_, rfl⟩
      have h10 : r_9 = (aS (m 1) (ldS m n) n) := hu
      subst h10
      show Go E Q 2 0 0 82 [(0, .ref (a 0)), (1, .int x)] [.int (aS (m 1) (ldS m n) n)] (loftW cI cS a m v w (seS T C li ap va le) (tpS B L P F) sh kf)
      exact g_iret hE hQ dX4_count_82 rfl (aS (m 1) (ldS m n) n) rfl rfl (by rw [fCount, if_neg (show ¬ x = 0 by rw [e6]; decide), if_neg (show ¬ x = 1 by rw [e6]; decide), if_neg (show ¬ x = 2 by rw [e6]; decide), if_neg (show ¬ x = 3 by rw [e6]; decide), if_pos e6])
set_option maxHeartbeats 4000000 in
set_option maxRecDepth 100000 in
theorem c_X4_image (cI cS : ClassId) (a : Nat → Nat) (m v w : Nat → Nat → Int32) (T C : Nat → Int32) (li ap va le : Int32) (B : Nat → Int32) (L P : Nat) (F : Int32) (sh : Nat → Nat → Nat → Int32) (kf : Int32) {n sv pl n1 sv1 pl1 n2 sv2 pl2 : Nat} (hM : MW m n sv pl) (hV : MW v n1 sv1 pl1) (hW : MW w n2 sv2 pl2) (hL : L ≤ 120) : CT cI cS yX4_image cX4_image 1 (some .int) 3 [.ref (a 0)] (loftW cI cS a m v w (seS T C li ap va le) (tpS B L P F) sh kf) 0 0 (fun u : Int32 => u = 1) (fun u => some (.int u)) (fun u => (loftW cI cS a m v (tkA w m) (seS T C li ap va le) (tpS B L P F) sh 1)) := by
  refine ct_intro (by decide) (Nat.le_of_ble_eq_true rfl) (fun E Q hE hQ hI => ?_)
  have hE : CxOk E cI cS RX4 cX4_image 1 (some .int) 3 0 0 := hE
  show Go E Q 1 0 0 0 [(0, .ref (a 0))] [] (loftW cI cS a m v w (seS T C li ap va le) (tpS B L P F) sh kf)
  have hn := hM.1
  have hn6 := hM.2.1
  have hsv := hM.2.2.1
  have hsv8 := hM.2.2.2.1
  have hpl := hM.2.2.2.2.1
  have hpl6 := hM.2.2.2.2.2
  have hn1 := hV.1
  have hn16 := hV.2.1
  have hsv1 := hV.2.2.1
  have hsv18 := hV.2.2.2.1
  have hpl1 := hV.2.2.2.2.1
  have hpl16 := hV.2.2.2.2.2
  refine g_aload_n hE dX4_image_0 0 rfl ?_
  refine g_get hE fl_X4_19 dX4_image_1 0 rfl rfl ?_
  refine g_aload_n hE dX4_image_4 0 rfl ?_
  refine g_get hE fl_X4_10 dX4_image_5 0 rfl rfl ?_
  refine g_callV hE (c_X0_takeAll_s cI cS (fun i => a (i + 21)) (fun i => a (i + 1)) w m) mk_X0_takeAll mv_X0_takeAll ml_X4_187 dX4_image_8 (As := [.ref (a 1)]) (rest := []) rfl rfl 21 rfl (show vwCl[0]? = some (RX0, TX0, 13) from rfl) (by decide) (by decide) (Nat.le_of_ble_eq_true rfl) (by decide) (by decide) [1, 2, 3, 4, 5, 6, 7, 8, 9, 10, 21, 22, 23, 24, 25, 26, 27, 28, 29, 30] rfl (by decide) (fun u => Nat.le_of_ble_eq_true rfl) (ws' := fun u => loftW cI cS a m v (tkA w m) (seS T C li ap va le) (tpS B L P F) sh kf) (fun u => rfl) (fun u hu => ?_)
  show Go E Q 1 0 0 11 [(0, .ref (a 0))] [] (loftW cI cS a m v (tkA w m) (seS T C li ap va le) (tpS B L P F) sh kf)
  refine g_aload_n hE dX4_image_11 0 rfl ?_
  refine g_iconst hE dX4_image_12 1 (by decide) ?_
  refine g_put hE fl_X4_22 fp_4_3 dX4_image_13 0 rfl (by first | rfl | decide) (by first | rfl | decide) (Nat.le_of_ble_eq_true rfl) (loftW cI cS a m v (tkA w m) (seS T C li ap va le) (tpS B L P F) sh 1) (by rfl) ?_
  refine g_iconst hE dX4_image_16 1 (by decide) ?_
  exact g_iret hE hQ dX4_image_17 rfl 1 rfl rfl rfl
set_option maxHeartbeats 4000000 in
set_option maxRecDepth 100000 in
theorem c_X4_restore (cI cS : ClassId) (a : Nat → Nat) (m v w : Nat → Nat → Int32) (T C : Nat → Int32) (li ap va le : Int32) (B : Nat → Int32) (L P : Nat) (F : Int32) (sh : Nat → Nat → Nat → Int32) (kf : Int32) {n sv pl n1 sv1 pl1 n2 sv2 pl2 : Nat} (hM : MW m n sv pl) (hV : MW v n1 sv1 pl1) (hW : MW w n2 sv2 pl2) (hL : L ≤ 120) : CT cI cS yX4_restore cX4_restore 1 (some .int) 3 [.ref (a 0)] (loftW cI cS a m v w (seS T C li ap va le) (tpS B L P F) sh kf) 0 0 (fun u : Int32 × (Nat → Nat → Int32) => (u.1, u.2) = fgRestore m w kf) (fun u => some (.int u.1)) (fun u => (loftW cI cS a u.2 v w (seS T C li ap va le) (tpS B L P F) sh kf)) := by
  refine ct_intro (by decide) (Nat.le_of_ble_eq_true rfl) (fun E Q hE hQ hI => ?_)
  have hE : CxOk E cI cS RX4 cX4_restore 1 (some .int) 3 0 0 := hE
  show Go E Q 1 0 0 0 [(0, .ref (a 0))] [] (loftW cI cS a m v w (seS T C li ap va le) (tpS B L P F) sh kf)
  have hn := hM.1
  have hn6 := hM.2.1
  have hsv := hM.2.2.1
  have hsv8 := hM.2.2.2.1
  have hpl := hM.2.2.2.2.1
  have hpl6 := hM.2.2.2.2.2
  have hn1 := hV.1
  have hn16 := hV.2.1
  have hsv1 := hV.2.2.1
  have hsv18 := hV.2.2.2.1
  have hpl1 := hV.2.2.2.2.1
  have hpl16 := hV.2.2.2.2.2
  refine g_aload_n hE dX4_restore_0 0 rfl ?_
  refine g_get hE fl_X4_22 dX4_restore_1 0 rfl rfl ?_
  refine g_if_ne hE 10 dX4_restore_4 (by decide) (fun c1 => ?_) (fun c1 => ?_)
  · refine g_aload_n hE dX4_restore_10 0 rfl ?_
    refine g_get hE fl_X4_10 dX4_restore_11 0 rfl rfl ?_
    refine g_aload_n hE dX4_restore_14 0 rfl ?_
    refine g_get hE fl_X4_19 dX4_restore_15 0 rfl rfl ?_
    refine g_callV hE (c_X0_takeAll cI cS (fun i => a (i + 1)) (fun i => a (i + 21)) m w) mk_X0_takeAll mv_X0_takeAll ml_X4_187 dX4_restore_18 (As := [.ref (a 21)]) (rest := []) rfl rfl 1 rfl (show vwCl[0]? = some (RX0, TX0, 13) from rfl) (by decide) (by decide) (Nat.le_of_ble_eq_true rfl) (by decide) (by decide) [1, 2, 3, 4, 5, 6, 7, 8, 9, 10, 21, 22, 23, 24, 25, 26, 27, 28, 29, 30] rfl (by decide) (fun u => Nat.le_of_ble_eq_true rfl) (ws' := fun u => loftW cI cS a (tkA m w) v w (seS T C li ap va le) (tpS B L P F) sh kf) (fun u => rfl) (fun u hu => ?_)
    show Go E Q 1 0 0 21 [(0, .ref (a 0))] [] (loftW cI cS a (tkA m w) v w (seS T C li ap va le) (tpS B L P F) sh kf)
    refine g_iconst hE dX4_restore_21 1 (by decide) ?_
    exact g_iret hE hQ dX4_restore_22 rfl (1, (tkA m w)) rfl rfl (by rw [fgRestore, if_neg c1])
  · refine g_bipush hE dX4_restore_7 (-4) (by decide) ?_
    exact g_iret hE hQ dX4_restore_9 rfl ((-4), m) rfl rfl (by rw [fgRestore, if_pos c1])
set_option maxHeartbeats 4000000 in
set_option maxRecDepth 100000 in
theorem c_X4_shares (cI cS : ClassId) (a : Nat → Nat) (m v w : Nat → Nat → Int32) (T C : Nat → Int32) (li ap va le : Int32) (B : Nat → Int32) (L P : Nat) (F : Int32) (sh : Nat → Nat → Nat → Int32) (kf : Int32) {n sv pl n1 sv1 pl1 n2 sv2 pl2 : Nat} (hM : MW m n sv pl) (hV : MW v n1 sv1 pl1) (hW : MW w n2 sv2 pl2) (hL : L ≤ 120) (x y z t : Int32) : CT cI cS yX4_shares cX4_shares 8 (some .int) 1 [.ref (a 0), .int x, .int y, .int z, .int t] (loftW cI cS a m v w (seS T C li ap va le) (tpS B L P F) sh kf) 0 0 (fun u : Int32 => u = fShares x y z t) (fun u => some (.int u)) (fun u => (loftW cI cS a m v w (seS T C li ap va le) (tpS B L P F) sh kf)) := by
  refine ct_intro (by decide) (Nat.le_of_ble_eq_true rfl) (fun E Q hE hQ hI => ?_)
  have hE : CxOk E cI cS RX4 cX4_shares 8 (some .int) 1 0 0 := hE
  show Go E Q 8 0 0 0 [(0, .ref (a 0)), (1, .int x), (2, .int y), (3, .int z), (4, .int t)] [] (loftW cI cS a m v w (seS T C li ap va le) (tpS B L P F) sh kf)
  have hn := hM.1
  have hn6 := hM.2.1
  have hsv := hM.2.2.1
  have hsv8 := hM.2.2.2.1
  have hpl := hM.2.2.2.2.1
  have hpl6 := hM.2.2.2.2.2
  have hn1 := hV.1
  have hn16 := hV.2.1
  have hsv1 := hV.2.2.1
  have hsv18 := hV.2.2.2.1
  have hpl1 := hV.2.2.2.2.1
  have hpl16 := hV.2.2.2.2.2
  refine g_iload_n hE dX4_shares_0 1 rfl ?_
  refine g_iconst hE dX4_shares_1 1 (by decide) ?_
  refine g_sipush hE dX4_shares_2 9999 (by decide) ?_
  refine g_callS hE (c_X4_within cI cS x 1 9999) mk_X4_within st_X4_within ml_X4_47 dX4_shares_5 (As := [.int x, .int 1, .int 9999]) (rest := []) rfl rfl (by decide) (by decide) (Nat.le_of_ble_eq_true rfl) (by decide) (by decide) [] rfl (by decide) (fun u => Nat.le_of_ble_eq_true rfl) (ws' := fun u => loftW cI cS a m v w (seS T C li ap va le) (tpS B L P F) sh kf) (fun u => rfl) (fun u hu => ?_)
  obtain ⟨r_1, rfl⟩ : ∃ z, z = u := ⟨_, rfl⟩
  have h2 : r_1 = if 1 ≤ x ∧ x ≤ 9999 then 1 else 0 := hu
  by_cases c3 : 1 ≤ x ∧ x ≤ 9999
  · rw [if_pos c3] at h2
    subst h2
    show Go E Q 8 0 0 8 [(0, .ref (a 0)), (1, .int x), (2, .int y), (3, .int z), (4, .int t)] [.int 1] (loftW cI cS a m v w (seS T C li ap va le) (tpS B L P F) sh kf)
    refine g_if_eq hE 50 dX4_shares_8 (by decide) (fun c4 => absurd c4 (by decide)) (fun c4 => ?_)
    refine g_iload_n hE dX4_shares_11 2 rfl ?_
    refine g_iconst hE dX4_shares_12 1 (by decide) ?_
    refine g_ldc hE dX4_shares_13 ck_X4_220 ?_
    refine g_callS hE (c_X4_within cI cS y 1 9999999) mk_X4_within st_X4_within ml_X4_47 dX4_shares_15 (As := [.int y, .int 1, .int 9999999]) (rest := []) rfl rfl (by decide) (by decide) (Nat.le_of_ble_eq_true rfl) (by decide) (by decide) [] rfl (by decide) (fun u => Nat.le_of_ble_eq_true rfl) (ws' := fun u => loftW cI cS a m v w (seS T C li ap va le) (tpS B L P F) sh kf) (fun u => rfl) (fun u hu => ?_)
    obtain ⟨r_5, rfl⟩ : ∃ z, z = u := ⟨_, rfl⟩
    have h6 : r_5 = if 1 ≤ y ∧ y ≤ 9999999 then 1 else 0 := hu
    by_cases c7 : 1 ≤ y ∧ y ≤ 9999999
    · rw [if_pos c7] at h6
      subst h6
      show Go E Q 8 0 0 18 [(0, .ref (a 0)), (1, .int x), (2, .int y), (3, .int z), (4, .int t)] [.int 1] (loftW cI cS a m v w (seS T C li ap va le) (tpS B L P F) sh kf)
      refine g_if_eq hE 50 dX4_shares_18 (by decide) (fun c8 => absurd c8 (by decide)) (fun c8 => ?_)
      refine g_iload_n hE dX4_shares_21 3 rfl ?_
      refine g_iconst hE dX4_shares_22 1 (by decide) ?_
      refine g_sipush hE dX4_shares_23 999 (by decide) ?_
      refine g_callS hE (c_X4_within cI cS z 1 999) mk_X4_within st_X4_within ml_X4_47 dX4_shares_26 (As := [.int z, .int 1, .int 999]) (rest := []) rfl rfl (by decide) (by decide) (Nat.le_of_ble_eq_true rfl) (by decide) (by decide) [] rfl (by decide) (fun u => Nat.le_of_ble_eq_true rfl) (ws' := fun u => loftW cI cS a m v w (seS T C li ap va le) (tpS B L P F) sh kf) (fun u => rfl) (fun u hu => ?_)
      obtain ⟨r_9, rfl⟩ : ∃ z, z = u := ⟨_, rfl⟩
      have h10 : r_9 = if 1 ≤ z ∧ z ≤ 999 then 1 else 0 := hu
      by_cases c11 : 1 ≤ z ∧ z ≤ 999
      · rw [if_pos c11] at h10
        subst h10
        show Go E Q 8 0 0 29 [(0, .ref (a 0)), (1, .int x), (2, .int y), (3, .int z), (4, .int t)] [.int 1] (loftW cI cS a m v w (seS T C li ap va le) (tpS B L P F) sh kf)
        refine g_if_eq hE 50 dX4_shares_29 (by decide) (fun c12 => absurd c12 (by decide)) (fun c12 => ?_)
        refine g_iload hE dX4_shares_32 4 rfl ?_
        refine g_iconst hE dX4_shares_34 1 (by decide) ?_
        refine g_sipush hE dX4_shares_35 999 (by decide) ?_
        refine g_callS hE (c_X4_within cI cS t 1 999) mk_X4_within st_X4_within ml_X4_47 dX4_shares_38 (As := [.int t, .int 1, .int 999]) (rest := []) rfl rfl (by decide) (by decide) (Nat.le_of_ble_eq_true rfl) (by decide) (by decide) [] rfl (by decide) (fun u => Nat.le_of_ble_eq_true rfl) (ws' := fun u => loftW cI cS a m v w (seS T C li ap va le) (tpS B L P F) sh kf) (fun u => rfl) (fun u hu => ?_)
        obtain ⟨r_13, rfl⟩ : ∃ z, z = u := ⟨_, rfl⟩
        have h14 : r_13 = if 1 ≤ t ∧ t ≤ 999 then 1 else 0 := hu
        by_cases c15 : 1 ≤ t ∧ t ≤ 999
        · rw [if_pos c15] at h14
          subst h14
          show Go E Q 8 0 0 41 [(0, .ref (a 0)), (1, .int x), (2, .int y), (3, .int z), (4, .int t)] [.int 1] (loftW cI cS a m v w (seS T C li ap va le) (tpS B L P F) sh kf)
          refine g_if_eq hE 50 dX4_shares_41 (by decide) (fun c16 => absurd c16 (by decide)) (fun c16 => ?_)
          refine g_iload_n hE dX4_shares_44 3 rfl ?_
          refine g_iload hE dX4_shares_45 4 rfl ?_
          refine g_icmp_ne hE 52 dX4_shares_47 (by decide) (fun c17 => ?_) (fun c17 => ?_)
          · refine g_iload_n hE dX4_shares_52 3 rfl ?_
            refine g_iload hE dX4_shares_53 4 rfl ?_
            refine g_isub hE dX4_shares_55 ?_
            refine g_istore hE dX4_shares_56 [(5, .int (z - t)), (0, .ref (a 0)), (1, .int x), (2, .int y), (3, .int z), (4, .int t)] (by decide) rfl ?_
            refine g_iload_n hE dX4_shares_58 3 rfl ?_
            refine g_iload_n hE dX4_shares_59 2 rfl ?_
            refine g_iload hE dX4_shares_60 5 rfl ?_
            refine g_imul hE dX4_shares_62 ?_
            refine g_isub hE dX4_shares_63 ?_
            refine g_istore hE dX4_shares_64 [(6, .int (y - (x * t))), (5, .int (z - t)), (0, .ref (a 0)), (1, .int x), (2, .int y), (3, .int z), (4, .int t)] (by decide) rfl ?_
            refine g_iload hE dX4_shares_66 1 rfl ?_
            refine g_if_eq hE 79 dX4_shares_68 (by decide) (fun c18 => ?_) (fun c18 => ?_)
            · refine g_bipush hE dX4_shares_79 (-4) (by decide) ?_
              exact g_iret hE hQ dX4_shares_81 rfl (-4) rfl rfl (by rw [fShares, if_pos c3, if_pos c7, if_pos c11, if_pos c15, if_neg c17, if_pos c18])
            · refine g_iload hE dX4_shares_71 0 rfl ?_
              refine g_iload hE dX4_shares_73 1 rfl ?_
              refine g_irem hE dX4_shares_75 (by assumption) ?_
              refine g_if_eq hE 82 dX4_shares_76 (by decide) (fun c19 => ?_) (fun c19 => ?_)
              · refine g_iload hE dX4_shares_82 0 rfl ?_
                refine g_iload hE dX4_shares_84 1 rfl ?_
                refine g_idiv hE dX4_shares_86 (by assumption) ?_
                refine g_istore hE dX4_shares_87 [(7, .int ((y - (x * t)) / (z - t))), (6, .int (y - (x * t))), (5, .int (z - t)), (0, .ref (a 0)), (1, .int x), (2, .int y), (3, .int z), (4, .int t)] (by decide) rfl ?_
                refine g_iload hE dX4_shares_89 0 rfl ?_
                refine g_iconst hE dX4_shares_91 0 (by decide) ?_
                refine g_iload_n hE dX4_shares_92 4 rfl ?_
                refine g_callS hE (c_X4_within cI cS ((y - (x * t)) / (z - t)) 0 x) mk_X4_within st_X4_within ml_X4_47 dX4_shares_93 (As := [.int ((y - (x * t)) / (z - t)), .int 0, .int x]) (rest := []) rfl rfl (by decide) (by decide) (Nat.le_of_ble_eq_true rfl) (by decide) (by decide) [] rfl (by decide) (fun u => Nat.le_of_ble_eq_true rfl) (ws' := fun u => loftW cI cS a m v w (seS T C li ap va le) (tpS B L P F) sh kf) (fun u => rfl) (fun u hu => ?_)
                obtain ⟨r_20, rfl⟩ : ∃ z, z = u := ⟨_, rfl⟩
                have h21 : r_20 = if 0 ≤ ((y - (x * t)) / (z - t)) ∧ ((y - (x * t)) / (z - t)) ≤ x then 1 else 0 := hu
                by_cases c22 : 0 ≤ ((y - (x * t)) / (z - t)) ∧ ((y - (x * t)) / (z - t)) ≤ x
                · rw [if_pos c22] at h21
                  subst h21
                  show Go E Q 8 0 0 96 [(7, .int ((y - (x * t)) / (z - t))), (6, .int (y - (x * t))), (5, .int (z - t)), (0, .ref (a 0)), (1, .int x), (2, .int y), (3, .int z), (4, .int t)] [.int 1] (loftW cI cS a m v w (seS T C li ap va le) (tpS B L P F) sh kf)
                  refine g_if_eq hE 104 dX4_shares_96 (by decide) (fun c23 => absurd c23 (by decide)) (fun c23 => ?_)
                  refine g_iload hE dX4_shares_99 0 rfl ?_
                  refine g_goto hE 106 dX4_shares_101 (by decide) ?_
                  exact g_iret hE hQ dX4_shares_106 rfl ((y - (x * t)) / (z - t)) rfl rfl (by rw [fShares, if_pos c3, if_pos c7, if_pos c11, if_pos c15, if_neg c17, if_neg c18, if_pos c19, if_pos c22])
                · rw [if_neg c22] at h21
                  subst h21
                  show Go E Q 8 0 0 96 [(7, .int ((y - (x * t)) / (z - t))), (6, .int (y - (x * t))), (5, .int (z - t)), (0, .ref (a 0)), (1, .int x), (2, .int y), (3, .int z), (4, .int t)] [.int 0] (loftW cI cS a m v w (seS T C li ap va le) (tpS B L P F) sh kf)
                  refine g_if_eq hE 104 dX4_shares_96 (by decide) (fun c24 => ?_) (fun c24 => absurd (by decide) c24)
                  refine g_bipush hE dX4_shares_104 (-4) (by decide) ?_
                  exact g_iret hE hQ dX4_shares_106 rfl (-4) rfl rfl (by rw [fShares, if_pos c3, if_pos c7, if_pos c11, if_pos c15, if_neg c17, if_neg c18, if_pos c19, if_neg c22])
              · refine g_bipush hE dX4_shares_79 (-4) (by decide) ?_
                exact g_iret hE hQ dX4_shares_81 rfl (-4) rfl rfl (by rw [fShares, if_pos c3, if_pos c7, if_pos c11, if_pos c15, if_neg c17, if_neg c18, if_neg c19])
          · refine g_iconst hE dX4_shares_50 (-1) (by decide) ?_
            exact g_iret hE hQ dX4_shares_51 rfl (-1) rfl rfl (by rw [fShares, if_pos c3, if_pos c7, if_pos c11, if_pos c15, if_pos c17])
        · rw [if_neg c15] at h14
          subst h14
          show Go E Q 8 0 0 41 [(0, .ref (a 0)), (1, .int x), (2, .int y), (3, .int z), (4, .int t)] [.int 0] (loftW cI cS a m v w (seS T C li ap va le) (tpS B L P F) sh kf)
          refine g_if_eq hE 50 dX4_shares_41 (by decide) (fun c25 => ?_) (fun c25 => absurd (by decide) c25)
          refine g_iconst hE dX4_shares_50 (-1) (by decide) ?_
          exact g_iret hE hQ dX4_shares_51 rfl (-1) rfl rfl (by rw [fShares, if_pos c3, if_pos c7, if_pos c11, if_neg c15])
      · rw [if_neg c11] at h10
        subst h10
        show Go E Q 8 0 0 29 [(0, .ref (a 0)), (1, .int x), (2, .int y), (3, .int z), (4, .int t)] [.int 0] (loftW cI cS a m v w (seS T C li ap va le) (tpS B L P F) sh kf)
        refine g_if_eq hE 50 dX4_shares_29 (by decide) (fun c26 => ?_) (fun c26 => absurd (by decide) c26)
        refine g_iconst hE dX4_shares_50 (-1) (by decide) ?_
        exact g_iret hE hQ dX4_shares_51 rfl (-1) rfl rfl (by rw [fShares, if_pos c3, if_pos c7, if_neg c11])
    · rw [if_neg c7] at h6
      subst h6
      show Go E Q 8 0 0 18 [(0, .ref (a 0)), (1, .int x), (2, .int y), (3, .int z), (4, .int t)] [.int 0] (loftW cI cS a m v w (seS T C li ap va le) (tpS B L P F) sh kf)
      refine g_if_eq hE 50 dX4_shares_18 (by decide) (fun c27 => ?_) (fun c27 => absurd (by decide) c27)
      refine g_iconst hE dX4_shares_50 (-1) (by decide) ?_
      exact g_iret hE hQ dX4_shares_51 rfl (-1) rfl rfl (by rw [fShares, if_pos c3, if_neg c7])
  · rw [if_neg c3] at h2
    subst h2
    show Go E Q 8 0 0 8 [(0, .ref (a 0)), (1, .int x), (2, .int y), (3, .int z), (4, .int t)] [.int 0] (loftW cI cS a m v w (seS T C li ap va le) (tpS B L P F) sh kf)
    refine g_if_eq hE 50 dX4_shares_8 (by decide) (fun c28 => ?_) (fun c28 => absurd (by decide) c28)
    refine g_iconst hE dX4_shares_50 (-1) (by decide) ?_
    exact g_iret hE hQ dX4_shares_51 rfl (-1) rfl rfl (by rw [fShares, if_neg c3])
