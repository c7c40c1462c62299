/-! the tape: lofts -/
def opV (B : Nat → Int32) (L P : Nat) (c : Int32) (f : Nat → Int32) (d : Int32) : Int32 := if bt B L (sk B L P) = c then f (sk B L P + 1) else d
def opP (B : Nat → Int32) (L P : Nat) (c : Int32) (f : Nat → Nat) : Nat := if bt B L (sk B L P) = c then f (sk B L P + 1) else sk B L P
def opF (B : Nat → Int32) (L P : Nat) (c : Int32) (f : Nat → Int32) (d : Int32) : Int32 := if bt B L (sk B L P) = c then f (sk B L P + 1) else d
def moV (B : Nat → Int32) (L P : Nat) (G : Int32) (k most : Nat) : Int32 := if G < 0 ∧ k < most then (if bt B L (sk B L P) = 44 then 1 else 0) else 0
def moP (B : Nat → Int32) (L P : Nat) (G : Int32) (k most : Nat) : Nat := if G < 0 ∧ k < most then (if bt B L (sk B L P) = 44 then sk B L P + 1 else sk B L P) else P
theorem kdP_le {B : Nat → Int32} {L P : Nat} (h : P ≤ L) : kdP B L P ≤ L := by
  unfold kdP
  split
  · exact sk_le h
  · rename_i h2
    refine bt_lt (B := B) (c := bt B L (sk B L P)) ?_ rfl
    intro z
    exact h2 (by unfold kdV; rw [z]; decide)
theorem nuR_le {B : Nat → Int32} {L : Nat} : ∀ (f q : Nat) (acc : Int32), q ≤ L → (nuR B L f q acc).2 ≤ L
  | 0, q, acc, h => h
  | f + 1, q, acc, h => by
    rw [nuR]
    split
    · rename_i h2
      exact nuR_le f _ _ h2.1
    · exact h
theorem nuP_le {B : Nat → Int32} {L P : Nat} (h : P ≤ L) : nuP B L P ≤ L := by
  unfold nuP
  split
  · exact nuR_le _ _ _ (sk_le h)
  · exact sk_le h
theorem dgP_le {B : Nat → Int32} {L P : Nat} {mo : Int32} (h : P ≤ L) : dgP B L P mo ≤ L := by
  unfold dgP
  split
  · rename_i h2
    refine bt_lt (B := B) (c := bt B L (sk B L P)) ?_ rfl
    intro z
    rw [z] at h2
    exact absurd h2.1 (by decide)
  · exact sk_le h
theorem mw_z1 {v : Nat → Nat → Int32} {n sv pl : Nat} (h : MW v n sv pl) : MW (pA v 9 (upd (v 9) 1 0)) n 0 pl := ⟨h.1, h.2.1, rfl, by decide, h.2.2.2.2.1, h.2.2.2.2.2⟩
theorem mw_z0 {v : Nat → Nat → Int32} {n sv pl : Nat} (h : MW v n sv pl) : MW (pA v 9 (upd (v 9) 0 0)) 0 sv pl := ⟨rfl, by decide, h.2.2.1, h.2.2.2.1, h.2.2.2.2.1, h.2.2.2.2.2⟩
theorem mw_z2 {v : Nat → Nat → Int32} {n sv pl : Nat} (h : MW v n sv pl) : MW (pA v 9 (upd (v 9) 2 0)) n sv 0 := ⟨h.1, h.2.1, h.2.2.1, h.2.2.2.1, rfl, by decide⟩
theorem mw_addV {v : Nat → Nat → Int32} {n sv pl : Nat} {x y z w : Int32} (h : MW v n sv pl) (hlt : sv < 8) : MW (addV v sv x y z w) n (sv + 1) pl := ⟨h.1, h.2.1, rfl, hlt, h.2.2.2.2.1, h.2.2.2.2.2⟩
theorem mw_addG {v : Nat → Nat → Int32} {n sv pl : Nat} {x y z : Int32} (h : MW v n sv pl) (hlt : n < 6) : MW (addG v n x y z) (n + 1) sv pl := ⟨rfl, hlt, h.2.2.1, h.2.2.2.1, h.2.2.2.2.1, h.2.2.2.2.2⟩
theorem mw_addP {v : Nat → Nat → Int32} {n sv pl : Nat} {x : Int32} (h : MW v n sv pl) (hlt : pl < 6) : MW (addP v pl x) n sv (pl + 1) := ⟨h.1, h.2.1, h.2.2.1, h.2.2.2.1, rfl, hlt⟩
/-- a loft's sieves, one behind the other: the place, the fault, the mill -/
def rlS (B : Nat → Int32) (L : Nat) : Nat → Int32 → Nat → Nat → Int32 → (Nat → Nat → Int32) → Nat × Int32 × (Nat → Nat → Int32)
  | 0, _, _, q, G, vv => (q, G, vv)
  | f + 1, mo, j, q, G, vv => if mo = 0 then (q, G, vv) else
    rlS B L f (moV B L (opP B L (opP B L (nuP B L (kdP B L q)) 104 (nuP B L)) 119 (fun p => dgP B L p 3)) (opF B L (opP B L (nuP B L (kdP B L q)) 104 (nuP B L)) 119 (fun p => dgF B L p (opF B L (nuP B L (kdP B L q)) 104 (fun p => nuF B L p (nuF B L (kdP B L q) (kdF B L q G) 1 60) 1 99999) (nuF B L (kdP B L q) (kdF B L q G) 1 60)) 3) (opF B L (nuP B L (kdP B L q)) 104 (fun p => nuF B L p (nuF B L (kdP B L q) (kdF B L q G) 1 60) 1 99999) (nuF B L (kdP B L q) (kdF B L q G) 1 60))) (j + 1) 8) (j + 1)
      (moP B L (opP B L (opP B L (nuP B L (kdP B L q)) 104 (nuP B L)) 119 (fun p => dgP B L p 3)) (opF B L (opP B L (nuP B L (kdP B L q)) 104 (nuP B L)) 119 (fun p => dgF B L p (opF B L (nuP B L (kdP B L q)) 104 (fun p => nuF B L p (nuF B L (kdP B L q) (kdF B L q G) 1 60) 1 99999) (nuF B L (kdP B L q) (kdF B L q G) 1 60)) 3) (opF B L (nuP B L (kdP B L q)) 104 (fun p => nuF B L p (nuF B L (kdP B L q) (kdF B L q G) 1 60) 1 99999) (nuF B L (kdP B L q) (kdF B L q G) 1 60))) (j + 1) 8)
      (opF B L (opP B L (nuP B L (kdP B L q)) 104 (nuP B L)) 119 (fun p => dgF B L p (opF B L (nuP B L (kdP B L q)) 104 (fun p => nuF B L p (nuF B L (kdP B L q) (kdF B L q G) 1 60) 1 99999) (nuF B L (kdP B L q) (kdF B L q G) 1 60)) 3) (opF B L (nuP B L (kdP B L q)) 104 (fun p => nuF B L p (nuF B L (kdP B L q) (kdF B L q G) 1 60) 1 99999) (nuF B L (kdP B L q) (kdF B L q G) 1 60)))
      (addV vv j (kdV B L q) (nuV B L (kdP B L q)) (opV B L (nuP B L (kdP B L q)) 104 (nuV B L) 99999) (opV B L (opP B L (nuP B L (kdP B L q)) 104 (nuP B L)) 119 (fun p => dgV B L p 3) 0))
theorem rl_0 {B : Nat → Int32} {L f j q : Nat} {mo G : Int32} {vv : Nat → Nat → Int32} (h : mo = 0) : rlS B L f mo j q G vv = (q, G, vv) := by
  cases f with
  | zero => rfl
  | succ f => rw [rlS, if_pos h]
theorem rl_s {B : Nat → Int32} {L j q P3 P4 Pm : Nat} {mo G z3 G3 w4 G4 mo2 : Int32} {vv : Nat → Nat → Int32} (hj : j < 8) (hm : ¬ mo = 0) (hz3 : z3 = opV B L (nuP B L (kdP B L q)) 104 (nuV B L) 99999) (hP3 : P3 = opP B L (nuP B L (kdP B L q)) 104 (nuP B L)) (hG3 : G3 = opF B L (nuP B L (kdP B L q)) 104 (fun p => nuF B L p (nuF B L (kdP B L q) (kdF B L q G) 1 60) 1 99999) (nuF B L (kdP B L q) (kdF B L q G) 1 60))
    (hw4 : w4 = opV B L P3 119 (fun p => dgV B L p 3) 0) (hP4 : P4 = opP B L P3 119 (fun p => dgP B L p 3)) (hG4 : G4 = opF B L P3 119 (fun p => dgF B L p G3 3) G3) (hmo : mo2 = moV B L P4 G4 (j + 1) 8) (hPm : Pm = moP B L P4 G4 (j + 1) 8) :
    rlS B L (8 - j) mo j q G vv = rlS B L (8 - (j + 1)) mo2 (j + 1) Pm G4 (addV vv j (kdV B L q) (nuV B L (kdP B L q)) z3 w4) := by
  subst hz3; subst hP3; subst hG3; subst hw4; subst hP4; subst hG4; subst hmo; subst hPm
  rw [show 8 - j = (8 - (j + 1)) + 1 by omega, rlS, if_neg hm]
set_option maxHeartbeats 4000000 in
set_option maxRecDepth 100000 in
theorem c_X3_readLoft (cI cS : ClassId) (b a : Nat → Nat) (v : Nat → Nat → Int32) (B : Nat → Int32) (L P : Nat) (F : Int32) {n sv pl : Nat} (hV : MW v n sv pl) (hL : L ≤ 120) : CT cI cS yX3_readLoft cX3_readLoft 8 none 5 [.ref (a 0), .ref (b 0)] (millW cI b v ++ (tapeW cI a (tpS B L P F))) 0 0 (fun u : Unit => ∃ j, j ≤ 8 ∧ MW (rlS B L 8 1 0 0 (-1) (pA v 9 (upd (v 9) 1 0))).2.2 n j pl) (fun u => none) (fun u => (millW cI b ((rlS B L 8 1 0 0 (-1) (pA v 9 (upd (v 9) 1 0))).2.2) ++ (tapeW cI a (tpS B 0 (sk B L (rlS B L 8 1 0 0 (-1) (pA v 9 (upd (v 9) 1 0))).1) (enF B L (rlS B L 8 1 0 0 (-1) (pA v 9 (upd (v 9) 1 0))).1 (rlS B L 8 1 0 0 (-1) (pA v 9 (upd (v 9) 1 0))).2.1))))) := by
  refine ct_intro (by decide) (Nat.le_of_ble_eq_true rfl) (fun E Q hE hQ hI => ?_)
  have hE : CxOk E cI cS RX3 cX3_readLoft 8 none 5 0 0 := hE
  show Go E Q 8 0 0 0 [(0, .ref (a 0)), (1, .ref (b 0))] [] (millW cI b v ++ (tapeW cI a (tpS B L P F)))
  have hn := hV.1
  have hn6 := hV.2.1
  have hsv := hV.2.2.1
  have hsv8 := hV.2.2.2.1
  have hpl := hV.2.2.2.2.1
  have hpl6 := hV.2.2.2.2.2
  refine g_aload_n hE dX3_readLoft_0 0 rfl ?_
  refine g_callV hE (c_X3_begin cI cS a B L P F hL) mk_X3_begin mv_X3_begin ml_X3_23 dX3_readLoft_1 (As := []) (rest := []) rfl rfl 10 rfl (show vwCl[3]? = some (RX3, TX3, 4) from rfl) (by decide) (by decide) (Nat.le_of_ble_eq_true rfl) (by decide) (by decide) [10, 11] rfl (by decide) (fun u => Nat.le_of_ble_eq_true rfl) (ws' := fun u => millW cI b v ++ (tapeW cI a (tpS B L 0 (-1)))) (fun u => rfl) (fun u hu => ?_)
  show Go E Q 8 0 0 4 [(0, .ref (a 0)), (1, .ref (b 0))] [] (millW cI b v ++ (tapeW cI a (tpS B L 0 (-1))))
  refine g_aload_n hE dX3_readLoft_4 1 rfl ?_
  refine g_iconst hE dX3_readLoft_5 0 (by decide) ?_
  refine g_put hE fl_X3_26 fp_0_1 dX3_readLoft_6 0 rfl rfl rfl (Nat.le_of_ble_eq_true rfl) (millW cI b (pA v 9 (upd (v 9) 1 0)) ++ (tapeW cI a (tpS B L 0 (-1)))) (by rfl) ?_
  refine g_iconst hE dX3_readLoft_9 1 (by decide) ?_
  refine g_istore_n hE dX3_readLoft_10 [(2, .int 1), (0, .ref (a 0)), (1, .ref (b 0))] rfl (by decide) rfl ?_
  refine g_iconst hE dX3_readLoft_11 1 (by decide) ?_
  refine g_istore_n hE dX3_readLoft_12 [(3, .int 1), (2, .int 1), (0, .ref (a 0)), (1, .ref (b 0))] rfl (by decide) rfl ?_
  have L13 : ∀ (n_13 : Nat) (mo : Int32) (j : Nat) (q : Nat) (G : Int32) (vv : Nat → Nat → Int32), (j ≤ 8) → (q ≤ L) → (MW vv n j pl) → ((rlS B L 8 1 0 0 (-1) (pA v 9 (upd (v 9) 1 0))) = rlS B L (8 - j) mo j q G vv) → (9 - j < n_13) → Go E Q 8 0 0 13 [(0, .ref (a 0)), (1, .ref (b 0)), (2, .int mo), (3, .int (nI (j + 1)))] [] (millW cI b vv ++ (tapeW cI a (tpS B L q G))) := by
    intro n_13
    induction n_13 with
    | zero => intro mo j q G vv hj hq hVV hs hm_13; exact absurd hm_13 (Nat.not_lt_zero _)
    | succ n_13 ih_13 =>
      intro mo j q G vv hj hq hVV hs hm_13
      refine g_iload_n hE dX3_readLoft_13 2 rfl ?_
      refine g_if_eq hE 128 dX3_readLoft_14 (by decide) (fun c2 => ?_) (fun c2 => ?_)
      · refine g_aload_n hE dX3_readLoft_128 0 rfl ?_
        refine g_callV hE (c_X3_end cI cS a B L q G hL hq) mk_X3_end mv_X3_end ml_X3_55 dX3_readLoft_129 (As := []) (rest := []) rfl rfl 10 rfl (show vwCl[3]? = some (RX3, TX3, 4) from rfl) (by decide) (by decide) (Nat.le_of_ble_eq_true rfl) (by decide) (by decide) [10, 11] rfl (by decide) (fun u => Nat.le_of_ble_eq_true rfl) (ws' := fun u => millW cI b vv ++ (tapeW cI a (tpS B 0 (sk B L q) (enF B L q G)))) (fun u => rfl) (fun u hu => ?_)
        show Go E Q 8 0 0 132 [(0, .ref (a 0)), (1, .ref (b 0)), (2, .int mo), (3, .int (nI (j + 1)))] [] (millW cI b vv ++ (tapeW cI a (tpS B 0 (sk B L q) (enF B L q G))))
        have hk : (rlS B L 8 1 0 0 (-1) (pA v 9 (upd (v 9) 1 0))) = (q, G, vv) := hs.trans (by first | (rw [show 8 - j = 0 by omega]; rfl) | exact rl_0 (by assumption))
        refine g_world (millW cI b (rlS B L 8 1 0 0 (-1) (pA v 9 (upd (v 9) 1 0))).2.2 ++ tapeW cI a (tpS B 0 (sk B L (rlS B L 8 1 0 0 (-1) (pA v 9 (upd (v 9) 1 0))).1) (enF B L (rlS B L 8 1 0 0 (-1) (pA v 9 (upd (v 9) 1 0))).1 (rlS B L 8 1 0 0 (-1) (pA v 9 (upd (v 9) 1 0))).2.1))) (by rw [hk]) ?_
        exact g_vret hE hQ dX3_readLoft_132 () rfl rfl ⟨j, hj, by rw [hk]; exact hVV⟩
      · refine g_iload_n hE dX3_readLoft_17 3 rfl ?_
        refine g_bipush hE dX3_readLoft_18 8 (by decide) ?_
        refine g_icmp_gt hE 128 dX3_readLoft_20 (by decide) (fun c4 => ?_) (fun c4 => ?_)
        · have kc4 := nat_lt_t (show 8 = nI 8 from rfl) (show (nI (j + 1)) = nI (j + 1) from rfl) (by omega) (by omega) c4
          refine g_aload_n hE dX3_readLoft_128 0 rfl ?_
          refine g_callV hE (c_X3_end cI cS a B L q G hL hq) mk_X3_end mv_X3_end ml_X3_55 dX3_readLoft_129 (As := []) (rest := []) rfl rfl 10 rfl (show vwCl[3]? = some (RX3, TX3, 4) from rfl) (by decide) (by decide) (Nat.le_of_ble_eq_true rfl) (by decide) (by decide) [10, 11] rfl (by decide) (fun u => Nat.le_of_ble_eq_true rfl) (ws' := fun u => millW cI b vv ++ (tapeW cI a (tpS B 0 (sk B L q) (enF B L q G)))) (fun u => rfl) (fun u hu => ?_)
          show Go E Q 8 0 0 132 [(0, .ref (a 0)), (1, .ref (b 0)), (2, .int mo), (3, .int (nI (j + 1)))] [] (millW cI b vv ++ (tapeW cI a (tpS B 0 (sk B L q) (enF B L q G))))
          have hk : (rlS B L 8 1 0 0 (-1) (pA v 9 (upd (v 9) 1 0))) = (q, G, vv) := hs.trans (by first | (rw [show 8 - j = 0 by omega]; rfl) | exact rl_0 (by assumption))
          refine g_world (millW cI b (rlS B L 8 1 0 0 (-1) (pA v 9 (upd (v 9) 1 0))).2.2 ++ tapeW cI a (tpS B 0 (sk B L (rlS B L 8 1 0 0 (-1) (pA v 9 (upd (v 9) 1 0))).1) (enF B L (rlS B L 8 1 0 0 (-1) (pA v 9 (upd (v 9) 1 0))).1 (rlS B L 8 1 0 0 (-1) (pA v 9 (upd (v 9) 1 0))).2.1))) (by rw [hk]) ?_
          exact g_vret hE hQ dX3_readLoft_132 () rfl rfl ⟨j, hj, by rw [hk]; exact hVV⟩
        · have kc4 := nat_lt_f (show 8 = nI 8 from rfl) (show (nI (j + 1)) = nI (j + 1) from rfl) (by omega) (by omega) c4
          refine g_aload_n hE dX3_readLoft_23 0 rfl ?_
          refine g_callV hE (c_X3_readKind cI cS a B L q G hL hq) mk_X3_readKind mv_X3_readKind ml_X3_31 dX3_readLoft_24 (As := []) (rest := []) rfl rfl 10 rfl (show vwCl[3]? = some (RX3, TX3, 4) from rfl) (by decide) (by decide) (Nat.le_of_ble_eq_true rfl) (by decide) (by decide) [10, 11] rfl (by decide) (fun u => Nat.le_of_ble_eq_true rfl) (ws' := fun u => millW cI b vv ++ (tapeW cI a (tpS B L (kdP B L q) (kdF B L q G)))) (fun u => rfl) (fun u hu => ?_)
          obtain ⟨r_6, rfl⟩ : ∃ z, z = u := ⟨_, rfl⟩
          have h7 : r_6 = (kdV B L q) := hu
          subst h7
          show Go E Q 8 0 0 27 [(0, .ref (a 0)), (1, .ref (b 0)), (2, .int mo), (3, .int (nI (j + 1)))] [.int (kdV B L q)] (millW cI b vv ++ (tapeW cI a (tpS B L (kdP B L q) (kdF B L q G))))
          refine g_istore hE dX3_readLoft_27 [(4, .int (kdV B L q)), (0, .ref (a 0)), (1, .ref (b 0)), (2, .int mo), (3, .int (nI (j + 1)))] (by decide) rfl ?_
          refine g_aload_n hE dX3_readLoft_29 1 rfl ?_
          refine g_iconst hE dX3_readLoft_30 1 (by decide) ?_
          refine g_bipush hE dX3_readLoft_31 60 (by decide) ?_
          refine g_callV hE (c_X3_readNumber cI cS a B L (kdP B L q) (kdF B L q G) hL (kdP_le hq) 1 60) mk_X3_readNumber mv_X3_readNumber ml_X3_35 dX3_readLoft_33 (As := [.int 1, .int 60]) (rest := []) rfl rfl 10 rfl (show vwCl[3]? = some (RX3, TX3, 4) from rfl) (by decide) (by decide) (Nat.le_of_ble_eq_true rfl) (by decide) (by decide) [10, 11] rfl (by decide) (fun u => Nat.le_of_ble_eq_true rfl) (ws' := fun u => millW cI b vv ++ (tapeW cI a (tpS B L (nuP B L (kdP B L q)) (nuF B L (kdP B L q) (kdF B L q G) 1 60)))) (fun u => rfl) (fun u hu => ?_)
          obtain ⟨r_8, rfl⟩ : ∃ z, z = u := ⟨_, rfl⟩
          have h9 : r_8 = (nuV B L (kdP B L q)) := hu
          subst h9
          show Go E Q 8 0 0 36 [(4, .int (kdV B L q)), (0, .ref (a 0)), (1, .ref (b 0)), (2, .int mo), (3, .int (nI (j + 1)))] [.int (nuV B L (kdP B L q))] (millW cI b vv ++ (tapeW cI a (tpS B L (nuP B L (kdP B L q)) (nuF B L (kdP B L q) (kdF B L q G) 1 60))))
          refine g_istore hE dX3_readLoft_36 [(5, .int (nuV B L (kdP B L q))), (4, .int (kdV B L q)), (0, .ref (a 0)), (1, .ref (b 0)), (2, .int mo), (3, .int (nI (j + 1)))] (by decide) rfl ?_
          have L59 : ∀ (z3 : Int32) (P3 : Nat) (G3 : Int32), (P3 ≤ L) → (z3 = opV B L (nuP B L (kdP B L q)) 104 (nuV B L) 99999) → (P3 = opP B L (nuP B L (kdP B L q)) 104 (nuP B L)) → (G3 = opF B L (nuP B L (kdP B L q)) 104 (fun p => nuF B L p (nuF B L (kdP B L q) (kdF B L q G) 1 60) 1 99999) (nuF B L (kdP B L q) (kdF B L q G) 1 60)) → Go E Q 8 0 0 59 [(0, .ref (a 0)), (1, .ref (b 0)), (2, .int mo), (3, .int (nI (j + 1))), (4, .int (kdV B L q)), (5, .int (nuV B L (kdP B L q)))] [.int z3] (millW cI b vv ++ (tapeW cI a (tpS B L P3 G3))) := by
            intro z3 P3 G3 hP3L hz3 hP3 hG3
            refine g_istore hE dX3_readLoft_59 [(6, .int z3), (0, .ref (a 0)), (1, .ref (b 0)), (2, .int mo), (3, .int (nI (j + 1))), (4, .int (kdV B L q)), (5, .int (nuV B L (kdP B L q)))] (by decide) rfl ?_
            have L79 : ∀ (w4 : Int32) (P4 : Nat) (G4 : Int32), (P4 ≤ L) → (w4 = opV B L P3 119 (fun p => dgV B L p 3) 0) → (P4 = opP B L P3 119 (fun p => dgP B L p 3)) → (G4 = opF B L P3 119 (fun p => dgF B L p G3 3) G3) → Go E Q 8 0 0 79 [(0, .ref (a 0)), (1, .ref (b 0)), (2, .int mo), (3, .int (nI (j + 1))), (4, .int (kdV B L q)), (5, .int (nuV B L (kdP B L q))), (6, .int z3)] [.int w4] (millW cI b vv ++ (tapeW cI a (tpS B L P4 G4))) := by
              intro w4 P4 G4 hP4L hw4 hP4 hG4
              refine g_istore hE dX3_readLoft_79 [(7, .int w4), (0, .ref (a 0)), (1, .ref (b 0)), (2, .int mo), (3, .int (nI (j + 1))), (4, .int (kdV B L q)), (5, .int (nuV B L (kdP B L q))), (6, .int z3)] (by decide) rfl ?_
              refine g_aload_n hE dX3_readLoft_81 2 rfl ?_
              refine g_iload hE dX3_readLoft_82 5 rfl ?_
              refine g_iload hE dX3_readLoft_84 6 rfl ?_
              refine g_iload hE dX3_readLoft_86 7 rfl ?_
              refine g_iload hE dX3_readLoft_88 0 rfl ?_
              refine g_callV hE (c_X0_addSieve cI cS b vv (by first | assumption | exact mw_of (by assumption)) (kdV B L q) (nuV B L (kdP B L q)) z3 w4 (by omega)) mk_X0_addSieve mv_X0_addSieve ml_X3_48 dX3_readLoft_90 (As := [.int (kdV B L q), .int (nuV B L (kdP B L q)), .int z3, .int w4]) (rest := []) rfl rfl 0 rfl (show vwCl[0]? = some (RX0, TX0, 13) from rfl) (by decide) (by decide) (Nat.le_of_ble_eq_true rfl) (by decide) (by decide) [0, 1, 2, 3, 4, 5, 6, 7, 8, 9] rfl (by decide) (fun u => Nat.le_of_ble_eq_true rfl) (ws' := fun u => millW cI b (addV vv j (kdV B L q) (nuV B L (kdP B L q)) z3 w4) ++ (tapeW cI a (tpS B L P4 G4))) (fun u => rfl) (fun u hu => ?_)
              obtain ⟨r_10, rfl⟩ : ∃ z, z = u := ⟨_, rfl⟩
              have h11 : r_10 = (nI j) := hu
              subst h11
              show Go E Q 8 0 0 93 [(7, .int w4), (0, .ref (a 0)), (1, .ref (b 0)), (2, .int mo), (3, .int (nI (j + 1))), (4, .int (kdV B L q)), (5, .int (nuV B L (kdP B L q))), (6, .int z3)] [.int (nI j)] (millW cI b (addV vv j (kdV B L q) (nuV B L (kdP B L q)) z3 w4) ++ (tapeW cI a (tpS B L P4 G4)))
              refine g_pop hE dX3_readLoft_93 rfl ?_
              have L121 : ∀ (mo2 : Int32) (Pm : Nat), (Pm ≤ L) → (mo2 = moV B L P4 G4 (j + 1) 8) → (Pm = moP B L P4 G4 (j + 1) 8) → Go E Q 8 0 0 121 [(0, .ref (a 0)), (1, .ref (b 0)), (2, .int mo), (3, .int (nI (j + 1))), (4, .int (kdV B L q)), (5, .int (nuV B L (kdP B L q))), (6, .int z3), (7, .int w4)] [.int mo2] (millW cI b (addV vv j (kdV B L q) (nuV B L (kdP B L q)) z3 w4) ++ (tapeW cI a (tpS B L Pm G4))) := by
                intro mo2 Pm hPm hmo hPmo
                refine g_istore_n hE dX3_readLoft_121 [(2, .int mo2), (0, .ref (a 0)), (1, .ref (b 0)), (3, .int (nI (j + 1))), (4, .int (kdV B L q)), (5, .int (nuV B L (kdP B L q))), (6, .int z3), (7, .int w4)] rfl (by decide) rfl ?_
                refine g_iinc hE dX3_readLoft_122 3 (nI ((j + 1) + 1)) [(3, .int (nI ((j + 1) + 1))), (2, .int mo2), (0, .ref (a 0)), (1, .ref (b 0)), (4, .int (kdV B L q)), (5, .int (nuV B L (kdP B L q))), (6, .int z3), (7, .int w4)] rfl (nI_1 _) (by decide) rfl ?_
                refine g_goto hE 13 dX3_readLoft_125 (by decide) ?_
                refine g_locals [2, 3, 1, 0] [(0, .ref (a 0)), (1, .ref (b 0)), (2, .int mo2), (3, .int (nI ((j + 1) + 1)))] rfl ?_
                exact ih_13 mo2 (j + 1) Pm G4 (addV vv j (kdV B L q) (nuV B L (kdP B L q)) z3 w4) (by omega) hPm (mw_addV hVV (by omega)) (hs.trans (rl_s (by omega) (by assumption) hz3 hP3 hG3 hw4 hP4 hG4 hmo hPmo)) (by omega)
              refine g_aload_n hE dX3_readLoft_94 1 rfl ?_
              refine g_get hE fl_X3_52 dX3_readLoft_95 10 rfl rfl ?_
              refine g_if_ge hE 120 dX3_readLoft_98 (by decide) (fun c12 => ?_) (fun c12 => ?_)
              · refine g_iconst hE dX3_readLoft_120 0 (by decide) ?_
                refine g_locals [1, 2, 3, 4, 5, 6, 7, 0] [(0, .ref (a 0)), (1, .ref (b 0)), (2, .int mo), (3, .int (nI (j + 1))), (4, .int (kdV B L q)), (5, .int (nuV B L (kdP B L q))), (6, .int z3), (7, .int w4)] rfl ?_
                exact L121 0 P4 hP4L (by rw [moV, if_neg (fun z => absurd z.1 (Int32.not_lt.mpr c12))]) (by rw [moP, if_neg (fun z => absurd z.1 (Int32.not_lt.mpr c12))])
              · refine g_iload_n hE dX3_readLoft_101 4 rfl ?_
                refine g_bipush hE dX3_readLoft_102 8 (by decide) ?_
                refine g_icmp_ge hE 120 dX3_readLoft_104 (by decide) (fun c13 => ?_) (fun c13 => ?_)
                · have kc13 := nat_le_t (show 8 = nI 8 from rfl) (show (nI (j + 1)) = nI (j + 1) from rfl) (by omega) (by omega) c13
                  refine g_iconst hE dX3_readLoft_120 0 (by decide) ?_
                  refine g_locals [1, 2, 3, 4, 5, 6, 7, 0] [(0, .ref (a 0)), (1, .ref (b 0)), (2, .int mo), (3, .int (nI (j + 1))), (4, .int (kdV B L q)), (5, .int (nuV B L (kdP B L q))), (6, .int z3), (7, .int w4)] rfl ?_
                  exact L121 0 P4 hP4L (by rw [moV, if_neg (fun z => absurd z.2 (by omega))]) (by rw [moP, if_neg (fun z => absurd z.2 (by omega))])
                · have kc13 := nat_le_f (show 8 = nI 8 from rfl) (show (nI (j + 1)) = nI (j + 1) from rfl) (by omega) (by omega) c13
                  refine g_aload_n hE dX3_readLoft_107 1 rfl ?_
                  refine g_bipush hE dX3_readLoft_108 44 (by decide) ?_
                  refine g_callV hE (c_X3_passes cI cS a B L P4 G4 hL hP4L 44) mk_X3_passes mv_X3_passes ml_X3_39 dX3_readLoft_110 (As := [.int 44]) (rest := []) rfl rfl 10 rfl (show vwCl[3]? = some (RX3, TX3, 4) from rfl) (by decide) (by decide) (Nat.le_of_ble_eq_true rfl) (by decide) (by decide) [10, 11] rfl (by decide) (fun u => Nat.le_of_ble_eq_true rfl) (ws' := fun u => millW cI b (addV vv j (kdV B L q) (nuV B L (kdP B L q)) z3 w4) ++ (tapeW cI a (tpS B L (psP B L P4 44) G4))) (fun u => rfl) (fun u hu => ?_)
                  obtain ⟨r_14, rfl⟩ : ∃ z, z = u := ⟨_, rfl⟩
                  have h15 : r_14 = if bt B L (sk B L P4) = 44 then 1 else 0 := hu
                  by_cases c16 : bt B L (sk B L P4) = 44
                  · rw [if_pos c16] at h15
                    subst h15
                    refine g_world (millW cI b (addV vv j (kdV B L q) (nuV B L (kdP B L q)) z3 w4) ++ (tapeW cI a (tpS B L ((sk B L P4) + 1) G4))) (by rw [psP_y rfl c16]) ?_
                    show Go E Q 8 0 0 113 [(7, .int w4), (0, .ref (a 0)), (1, .ref (b 0)), (2, .int mo), (3, .int (nI (j + 1))), (4, .int (kdV B L q)), (5, .int (nuV B L (kdP B L q))), (6, .int z3)] [.int 1] (millW cI b (addV vv j (kdV B L q) (nuV B L (kdP B L q)) z3 w4) ++ (tapeW cI a (tpS B L ((sk B L P4) + 1) G4)))
                    refine g_if_eq hE 120 dX3_readLoft_113 (by decide) (fun c17 => absurd c17 (by decide)) (fun c17 => ?_)
                    refine g_iconst hE dX3_readLoft_116 1 (by decide) ?_
                    refine g_goto hE 121 dX3_readLoft_117 (by decide) ?_
                    refine g_locals [1, 2, 3, 4, 5, 6, 7, 0] [(0, .ref (a 0)), (1, .ref (b 0)), (2, .int mo), (3, .int (nI (j + 1))), (4, .int (kdV B L q)), (5, .int (nuV B L (kdP B L q))), (6, .int z3), (7, .int w4)] rfl ?_
                    exact L121 1 ((sk B L P4) + 1) (sk_lt_of hP4L (c := 44) (by decide) c16) (by rw [moV, if_pos ⟨(Int32.not_le.mp c12), by omega⟩, if_pos c16]) (by rw [moP, if_pos ⟨(Int32.not_le.mp c12), by omega⟩, if_pos c16])
                  · rw [if_neg c16] at h15
                    subst h15
                    refine g_world (millW cI b (addV vv j (kdV B L q) (nuV B L (kdP B L q)) z3 w4) ++ (tapeW cI a (tpS B L (sk B L P4) G4))) (by rw [psP_n rfl c16]) ?_
                    show Go E Q 8 0 0 113 [(7, .int w4), (0, .ref (a 0)), (1, .ref (b 0)), (2, .int mo), (3, .int (nI (j + 1))), (4, .int (kdV B L q)), (5, .int (nuV B L (kdP B L q))), (6, .int z3)] [.int 0] (millW cI b (addV vv j (kdV B L q) (nuV B L (kdP B L q)) z3 w4) ++ (tapeW cI a (tpS B L (sk B L P4) G4)))
                    refine g_if_eq hE 120 dX3_readLoft_113 (by decide) (fun c18 => ?_) (fun c18 => absurd (by decide) c18)
                    refine g_iconst hE dX3_readLoft_120 0 (by decide) ?_
                    refine g_locals [1, 2, 3, 4, 5, 6, 7, 0] [(0, .ref (a 0)), (1, .ref (b 0)), (2, .int mo), (3, .int (nI (j + 1))), (4, .int (kdV B L q)), (5, .int (nuV B L (kdP B L q))), (6, .int z3), (7, .int w4)] rfl ?_
                    exact L121 0 (sk B L P4) (sk_le hP4L) (by rw [moV, if_pos ⟨(Int32.not_le.mp c12), by omega⟩, if_neg c16]) (by rw [moP, if_pos ⟨(Int32.not_le.mp c12), by omega⟩, if_neg c16])
            refine g_aload_n hE dX3_readLoft_61 1 rfl ?_
            refine g_bipush hE dX3_readLoft_62 119 (by decide) ?_
            refine g_callV hE (c_X3_passes cI cS a B L P3 G3 hL hP3L 119) mk_X3_passes mv_X3_passes ml_X3_39 dX3_readLoft_64 (As := [.int 119]) (rest := []) rfl rfl 10 rfl (show vwCl[3]? = some (RX3, TX3, 4) from rfl) (by decide) (by decide) (Nat.le_of_ble_eq_true rfl) (by decide) (by decide) [10, 11] rfl (by decide) (fun u => Nat.le_of_ble_eq_true rfl) (ws' := fun u => millW cI b vv ++ (tapeW cI a (tpS B L (psP B L P3 119) G3))) (fun u => rfl) (fun u hu => ?_)
            obtain ⟨r_19, rfl⟩ : ∃ z, z = u := ⟨_, rfl⟩
            have h20 : r_19 = if bt B L (sk B L P3) = 119 then 1 else 0 := hu
            by_cases c21 : bt B L (sk B L P3) = 119
            · rw [if_pos c21] at h20
              subst h20
              refine g_world (millW cI b vv ++ (tapeW cI a (tpS B L ((sk B L P3) + 1) G3))) (by rw [psP_y rfl c21]) ?_
              show Go E Q 8 0 0 67 [(6, .int z3), (0, .ref (a 0)), (1, .ref (b 0)), (2, .int mo), (3, .int (nI (j + 1))), (4, .int (kdV B L q)), (5, .int (nuV B L (kdP B L q)))] [.int 1] (millW cI b vv ++ (tapeW cI a (tpS B L ((sk B L P3) + 1) G3)))
              refine g_if_eq hE 78 dX3_readLoft_67 (by decide) (fun c22 => absurd c22 (by decide)) (fun c22 => ?_)
              refine g_aload_n hE dX3_readLoft_70 1 rfl ?_
              refine g_iconst hE dX3_readLoft_71 3 (by decide) ?_
              refine g_callV hE (c_X3_readDigit cI cS a B L ((sk B L P3) + 1) G3 hL (sk_lt_of hP3L (c := 119) (by decide) c21) 3) mk_X3_readDigit mv_X3_readDigit ml_X3_44 dX3_readLoft_72 (As := [.int 3]) (rest := []) rfl rfl 10 rfl (show vwCl[3]? = some (RX3, TX3, 4) from rfl) (by decide) (by decide) (Nat.le_of_ble_eq_true rfl) (by decide) (by decide) [10, 11] rfl (by decide) (fun u => Nat.le_of_ble_eq_true rfl) (ws' := fun u => millW cI b vv ++ (tapeW cI a (tpS B L (dgP B L ((sk B L P3) + 1) 3) (dgF B L ((sk B L P3) + 1) G3 3)))) (fun u => rfl) (fun u hu => ?_)
              obtain ⟨r_23, rfl⟩ : ∃ z, z = u := ⟨_, rfl⟩
              have h24 : r_23 = (dgV B L ((sk B L P3) + 1) 3) := hu
              subst h24
              show Go E Q 8 0 0 75 [(6, .int z3), (0, .ref (a 0)), (1, .ref (b 0)), (2, .int mo), (3, .int (nI (j + 1))), (4, .int (kdV B L q)), (5, .int (nuV B L (kdP B L q)))] [.int (dgV B L ((sk B L P3) + 1) 3)] (millW cI b vv ++ (tapeW cI a (tpS B L (dgP B L ((sk B L P3) + 1) 3) (dgF B L ((sk B L P3) + 1) G3 3))))
              refine g_goto hE 79 dX3_readLoft_75 (by decide) ?_
              refine g_locals [1, 2, 3, 4, 5, 6, 0] [(0, .ref (a 0)), (1, .ref (b 0)), (2, .int mo), (3, .int (nI (j + 1))), (4, .int (kdV B L q)), (5, .int (nuV B L (kdP B L q))), (6, .int z3)] rfl ?_
              exact L79 (dgV B L ((sk B L P3) + 1) 3) (dgP B L ((sk B L P3) + 1) 3) (dgF B L ((sk B L P3) + 1) G3 3) (dgP_le (sk_lt_of hP3L (c := 119) (by decide) c21)) (by rw [opV, if_pos c21]) (by rw [opP, if_pos c21]) (by rw [opF, if_pos c21])
            · rw [if_neg c21] at h20
              subst h20
              refine g_world (millW cI b vv ++ (tapeW cI a (tpS B L (sk B L P3) G3))) (by rw [psP_n rfl c21]) ?_
              show Go E Q 8 0 0 67 [(6, .int z3), (0, .ref (a 0)), (1, .ref (b 0)), (2, .int mo), (3, .int (nI (j + 1))), (4, .int (kdV B L q)), (5, .int (nuV B L (kdP B L q)))] [.int 0] (millW cI b vv ++ (tapeW cI a (tpS B L (sk B L P3) G3)))
              refine g_if_eq hE 78 dX3_readLoft_67 (by decide) (fun c25 => ?_) (fun c25 => absurd (by decide) c25)
              refine g_iconst hE dX3_readLoft_78 0 (by decide) ?_
              refine g_locals [1, 2, 3, 4, 5, 6, 0] [(0, .ref (a 0)), (1, .ref (b 0)), (2, .int mo), (3, .int (nI (j + 1))), (4, .int (kdV B L q)), (5, .int (nuV B L (kdP B L q))), (6, .int z3)] rfl ?_
              exact L79 0 (sk B L P3) G3 (sk_le hP3L) (by rw [opV, if_neg c21]) (by rw [opP, if_neg c21]) (by rw [opF, if_neg c21])
          refine g_aload_n hE dX3_readLoft_38 2 rfl ?_
          refine g_bipush hE dX3_readLoft_39 104 (by decide) ?_
          refine g_callV hE (c_X3_passes cI cS a B L (nuP B L (kdP B L q)) (nuF B L (kdP B L q) (kdF B L q G) 1 60) hL (nuP_le (kdP_le hq)) 104) mk_X3_passes mv_X3_passes ml_X3_39 dX3_readLoft_41 (As := [.int 104]) (rest := []) rfl rfl 10 rfl (show vwCl[3]? = some (RX3, TX3, 4) from rfl) (by decide) (by decide) (Nat.le_of_ble_eq_true rfl) (by decide) (by decide) [10, 11] rfl (by decide) (fun u => Nat.le_of_ble_eq_true rfl) (ws' := fun u => millW cI b vv ++ (tapeW cI a (tpS B L (psP B L (nuP B L (kdP B L q)) 104) (nuF B L (kdP B L q) (kdF B L q G) 1 60)))) (fun u => rfl) (fun u hu => ?_)
          obtain ⟨r_26, rfl⟩ : ∃ z, z = u := ⟨_, rfl⟩
          have h27 : r_26 = if bt B L (sk B L (nuP B L (kdP B L q))) = 104 then 1 else 0 := hu
          by_cases c28 : bt B L (sk B L (nuP B L (kdP B L q))) = 104
          · rw [if_pos c28] at h27
            subst h27
            refine g_world (millW cI b vv ++ (tapeW cI a (tpS B L ((sk B L (nuP B L (kdP B L q))) + 1) (nuF B L (kdP B L q) (kdF B L q G) 1 60)))) (by rw [psP_y rfl c28]) ?_
            show Go E Q 8 0 0 44 [(5, .int (nuV B L (kdP B L q))), (4, .int (kdV B L q)), (0, .ref (a 0)), (1, .ref (b 0)), (2, .int mo), (3, .int (nI (j + 1)))] [.int 1] (millW cI b vv ++ (tapeW cI a (tpS B L ((sk B L (nuP B L (kdP B L q))) + 1) (nuF B L (kdP B L q) (kdF B L q G) 1 60))))
            refine g_if_eq hE 57 dX3_readLoft_44 (by decide) (fun c29 => absurd c29 (by decide)) (fun c29 => ?_)
            refine g_aload_n hE dX3_readLoft_47 2 rfl ?_
            refine g_iconst hE dX3_readLoft_48 1 (by decide) ?_
            refine g_ldc hE dX3_readLoft_49 ck_X3_43 ?_
            refine g_callV hE (c_X3_readNumber cI cS a B L ((sk B L (nuP B L (kdP B L q))) + 1) (nuF B L (kdP B L q) (kdF B L q G) 1 60) hL (sk_lt_of (nuP_le (kdP_le hq)) (c := 104) (by decide) c28) 1 99999) mk_X3_readNumber mv_X3_readNumber ml_X3_35 dX3_readLoft_51 (As := [.int 1, .int 99999]) (rest := []) rfl rfl 10 rfl (show vwCl[3]? = some (RX3, TX3, 4) from rfl) (by decide) (by decide) (Nat.le_of_ble_eq_true rfl) (by decide) (by decide) [10, 11] rfl (by decide) (fun u => Nat.le_of_ble_eq_true rfl) (ws' := fun u => millW cI b vv ++ (tapeW cI a (tpS B L (nuP B L ((sk B L (nuP B L (kdP B L q))) + 1)) (nuF B L ((sk B L (nuP B L (kdP B L q))) + 1) (nuF B L (kdP B L q) (kdF B L q G) 1 60) 1 99999)))) (fun u => rfl) (fun u hu => ?_)
            obtain ⟨r_30, rfl⟩ : ∃ z, z = u := ⟨_, rfl⟩
            have h31 : r_30 = (nuV B L ((sk B L (nuP B L (kdP B L q))) + 1)) := hu
            subst h31
            show Go E Q 8 0 0 54 [(5, .int (nuV B L (kdP B L q))), (4, .int (kdV B L q)), (0, .ref (a 0)), (1, .ref (b 0)), (2, .int mo), (3, .int (nI (j + 1)))] [.int (nuV B L ((sk B L (nuP B L (kdP B L q))) + 1))] (millW cI b vv ++ (tapeW cI a (tpS B L (nuP B L ((sk B L (nuP B L (kdP B L q))) + 1)) (nuF B L ((sk B L (nuP B L (kdP B L q))) + 1) (nuF B L (kdP B L q) (kdF B L q G) 1 60) 1 99999))))
            refine g_goto hE 59 dX3_readLoft_54 (by decide) ?_
            refine g_locals [2, 3, 4, 5, 1, 0] [(0, .ref (a 0)), (1, .ref (b 0)), (2, .int mo), (3, .int (nI (j + 1))), (4, .int (kdV B L q)), (5, .int (nuV B L (kdP B L q)))] rfl ?_
            exact L59 (nuV B L ((sk B L (nuP B L (kdP B L q))) + 1)) (nuP B L ((sk B L (nuP B L (kdP B L q))) + 1)) (nuF B L ((sk B L (nuP B L (kdP B L q))) + 1) (nuF B L (kdP B L q) (kdF B L q G) 1 60) 1 99999) (nuP_le (sk_lt_of (nuP_le (kdP_le hq)) (c := 104) (by decide) c28)) (by rw [opV, if_pos c28]) (by rw [opP, if_pos c28]) (by rw [opF, if_pos c28])
          · rw [if_neg c28] at h27
            subst h27
            refine g_world (millW cI b vv ++ (tapeW cI a (tpS B L (sk B L (nuP B L (kdP B L q))) (nuF B L (kdP B L q) (kdF B L q G) 1 60)))) (by rw [psP_n rfl c28]) ?_
            show Go E Q 8 0 0 44 [(5, .int (nuV B L (kdP B L q))), (4, .int (kdV B L q)), (0, .ref (a 0)), (1, .ref (b 0)), (2, .int mo), (3, .int (nI (j + 1)))] [.int 0] (millW cI b vv ++ (tapeW cI a (tpS B L (sk B L (nuP B L (kdP B L q))) (nuF B L (kdP B L q) (kdF B L q G) 1 60))))
            refine g_if_eq hE 57 dX3_readLoft_44 (by decide) (fun c32 => ?_) (fun c32 => absurd (by decide) c32)
            refine g_ldc hE dX3_readLoft_57 ck_X3_43 ?_
            refine g_locals [2, 3, 4, 5, 1, 0] [(0, .ref (a 0)), (1, .ref (b 0)), (2, .int mo), (3, .int (nI (j + 1))), (4, .int (kdV B L q)), (5, .int (nuV B L (kdP B L q)))] rfl ?_
            exact L59 99999 (sk B L (nuP B L (kdP B L q))) (nuF B L (kdP B L q) (kdF B L q G) 1 60) (sk_le (nuP_le (kdP_le hq))) (by rw [opV, if_neg c28]) (by rw [opP, if_neg c28]) (by rw [opF, if_neg c28])
  refine g_locals [2, 3, 1, 0] [(0, .ref (a 0)), (1, .ref (b 0)), (2, .int 1), (3, .int 1)] rfl ?_
  exact L13 _ 1 0 0 (-1) (pA v 9 (upd (v 9) 1 0)) (Nat.zero_le _) (Nat.zero_le _) (mw_z1 hV) rfl (Nat.lt_succ_self _)
