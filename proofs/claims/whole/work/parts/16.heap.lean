/-! the tape: heaps, rows -/
def rhS (B : Nat → Int32) (L : Nat) : Nat → Int32 → Nat → Nat → Int32 → (Nat → Nat → Int32) → Nat × Int32 × (Nat → Nat → Int32)
  | 0, _, _, q, G, vv => (q, G, vv)
  | f + 1, mo, j, q, G, vv => if mo = 0 then (q, G, vv) else
    rhS B L f (moV B L (opP B L (opP B L (nuP B L q) 42 (nuP B L)) 36 (nuP B L)) (opF B L (opP B L (nuP B L q) 42 (nuP B L)) 36 (fun p => nuF B L p (opF B L (nuP B L q) 42 (fun p => nuF B L p (nuF B L q G 1 60) 0 9999) (nuF B L q G 1 60)) 0 99) (opF B L (nuP B L q) 42 (fun p => nuF B L p (nuF B L q G 1 60) 0 9999) (nuF B L q G 1 60))) (j + 1) 6) (j + 1) (moP B L (opP B L (opP B L (nuP B L q) 42 (nuP B L)) 36 (nuP B L)) (opF B L (opP B L (nuP B L q) 42 (nuP B L)) 36 (fun p => nuF B L p (opF B L (nuP B L q) 42 (fun p => nuF B L p (nuF B L q G 1 60) 0 9999) (nuF B L q G 1 60)) 0 99) (opF B L (nuP B L q) 42 (fun p => nuF B L p (nuF B L q G 1 60) 0 9999) (nuF B L q G 1 60))) (j + 1) 6) (opF B L (opP B L (nuP B L q) 42 (nuP B L)) 36 (fun p => nuF B L p (opF B L (nuP B L q) 42 (fun p => nuF B L p (nuF B L q G 1 60) 0 9999) (nuF B L q G 1 60)) 0 99) (opF B L (nuP B L q) 42 (fun p => nuF B L p (nuF B L q G 1 60) 0 9999) (nuF B L q G 1 60)))
      (addG vv j (nuV B L q) (opV B L (nuP B L q) 42 (nuV B L) 1) (opV B L (opP B L (nuP B L q) 42 (nuP B L)) 36 (nuV B L) 0))
theorem rh_0 {B : Nat → Int32} {L f j q : Nat} {mo G : Int32} {vv : Nat → Nat → Int32} (h : mo = 0) : rhS B L f mo j q G vv = (q, G, vv) := by
  cases f with
  | zero => rfl
  | succ f => rw [rhS, if_pos h]
theorem rh_s {B : Nat → Int32} {L j q P3 P4 Pm : Nat} {mo G z3 G3 w4 G4 mo2 : Int32} {vv : Nat → Nat → Int32} (hj : j < 6) (hm : ¬ mo = 0) (hz3 : z3 = opV B L (nuP B L q) 42 (nuV B L) 1) (hP3 : P3 = opP B L (nuP B L q) 42 (nuP B L)) (hG3 : G3 = opF B L (nuP B L q) 42 (fun p => nuF B L p (nuF B L q G 1 60) 0 9999) (nuF B L q G 1 60))
    (hw4 : w4 = opV B L P3 36 (nuV B L) 0) (hP4 : P4 = opP B L P3 36 (nuP B L)) (hG4 : G4 = opF B L P3 36 (fun p => nuF B L p G3 0 99) G3) (hmo : mo2 = moV B L P4 G4 (j + 1) 6) (hPm : Pm = moP B L P4 G4 (j + 1) 6) :
    rhS B L (6 - j) mo j q G vv = rhS B L (6 - (j + 1)) mo2 (j + 1) Pm G4 (addG vv j (nuV B L q) z3 w4) := by
  subst hz3; subst hP3; subst hG3; subst hw4; subst hP4; subst hG4; subst hmo; subst hPm
  rw [show 6 - j = (6 - (j + 1)) + 1 by omega, rhS, if_neg hm]
def rrS (B : Nat → Int32) (L : Nat) (w : Int32) : Nat → Int32 → Nat → Nat → (Nat → Nat → Int32) → Nat × Nat × (Nat → Nat → Int32)
  | 0, _, q, c, vv => (q, c, vv)
  | f + 1, mo, q, c, vv => if mo = 0 then (q, c, vv) else
    if (0 ≤ (bt B L (sk B L q)) - 48 ∧ (bt B L (sk B L q)) - 48 ≤ (w - 1)) ∧ ¬ inRb vv ((bt B L (sk B L q)) - 48) c = true then rrS B L w f 1 (sk B L q + 1) (c + 1) (addP vv c ((bt B L (sk B L q)) - 48)) else rrS B L w f 0 (sk B L q) c vv
theorem rr_0 {B : Nat → Int32} {L f c q : Nat} {mo w : Int32} {vv : Nat → Nat → Int32} (h : mo = 0) : rrS B L w f mo q c vv = (q, c, vv) := by
  cases f with
  | zero => rfl
  | succ f => rw [rrS, if_pos h]
theorem rr_y {B : Nat → Int32} {L j c q : Nat} {mo w : Int32} {vv : Nat → Nat → Int32} (hj : j < 6) (hm : ¬ mo = 0) (h1 : 0 ≤ (bt B L (sk B L q)) - 48 ∧ (bt B L (sk B L q)) - 48 ≤ (w - 1)) (h2 : ¬ inRb vv ((bt B L (sk B L q)) - 48) c = true) : rrS B L w (6 - j) mo q c vv = rrS B L w (6 - (j + 1)) 1 (sk B L q + 1) (c + 1) (addP vv c ((bt B L (sk B L q)) - 48)) := by
  rw [show 6 - j = (6 - (j + 1)) + 1 by omega, rrS, if_neg hm, if_pos ⟨h1, h2⟩]
theorem rr_n {B : Nat → Int32} {L j c q : Nat} {mo w : Int32} {vv : Nat → Nat → Int32} (hj : j < 6) (hm : ¬ mo = 0) (h : ¬ ((0 ≤ (bt B L (sk B L q)) - 48 ∧ (bt B L (sk B L q)) - 48 ≤ (w - 1)) ∧ ¬ inRb vv ((bt B L (sk B L q)) - 48) c = true)) : rrS B L w (6 - j) mo q c vv = rrS B L w (6 - (j + 1)) 0 (sk B L q) c vv := by
  rw [show 6 - j = (6 - (j + 1)) + 1 by omega, rrS, if_neg hm, if_neg h]
theorem rr_lt {B : Nat → Int32} {L q : Nat} {w : Int32} (hq : q ≤ L) (h : 0 ≤ (bt B L (sk B L q)) - 48 ∧ (bt B L (sk B L q)) - 48 ≤ w) : sk B L q + 1 ≤ L := by
  refine bt_lt (B := B) (c := bt B L (sk B L q)) ?_ rfl
  intro z
  rw [z] at h
  exact absurd h.1 (by decide)
set_option maxHeartbeats 4000000 in
set_option maxRecDepth 100000 in
theorem c_X3_readHeap (cI cS : ClassId) (b a : Nat → Nat) (v : Nat → Nat → Int32) (B : Nat → Int32) (L P : Nat) (F : Int32) {n sv pl : Nat} (hV : MW v n sv pl) (hL : L ≤ 120) : CT cI cS yX3_readHeap cX3_readHeap 7 none 5 [.ref (a 0), .ref (b 0)] (millW cI b v ++ (tapeW cI a (tpS B L P F))) 0 0 (fun u : Unit => ∃ j, j ≤ 6 ∧ MW (rhS B L 6 1 0 0 (-1) (pA v 9 (upd (v 9) 0 0))).2.2 j sv pl) (fun u => none) (fun u => (millW cI b ((rhS B L 6 1 0 0 (-1) (pA v 9 (upd (v 9) 0 0))).2.2) ++ (tapeW cI a (tpS B 0 (sk B L (rhS B L 6 1 0 0 (-1) (pA v 9 (upd (v 9) 0 0))).1) (enF B L (rhS B L 6 1 0 0 (-1) (pA v 9 (upd (v 9) 0 0))).1 (rhS B L 6 1 0 0 (-1) (pA v 9 (upd (v 9) 0 0))).2.1))))) := by
  refine ct_intro (by decide) (Nat.le_of_ble_eq_true rfl) (fun E Q hE hQ hI => ?_)
  have hE : CxOk E cI cS RX3 cX3_readHeap 7 none 5 0 0 := hE
  show Go E Q 7 0 0 0 [(0, .ref (a 0)), (1, .ref (b 0))] [] (millW cI b v ++ (tapeW cI a (tpS B L P F)))
  have hn := hV.1
  have hn6 := hV.2.1
  have hsv := hV.2.2.1
  have hsv8 := hV.2.2.2.1
  have hpl := hV.2.2.2.2.1
  have hpl6 := hV.2.2.2.2.2
  refine g_aload_n hE dX3_readHeap_0 0 rfl ?_
  refine g_callV hE (c_X3_begin cI cS a B L P F hL) mk_X3_begin mv_X3_begin ml_X3_23 dX3_readHeap_1 (As := []) (rest := []) rfl rfl 10 rfl (show vwCl[3]? = some (RX3, TX3, 4) from rfl) (by decide) (by decide) (Nat.le_of_ble_eq_true rfl) (by decide) (by decide) [10, 11] rfl (by decide) (fun u => Nat.le_of_ble_eq_true rfl) (ws' := fun u => millW cI b v ++ (tapeW cI a (tpS B L 0 (-1)))) (fun u => rfl) (fun u hu => ?_)
  show Go E Q 7 0 0 4 [(0, .ref (a 0)), (1, .ref (b 0))] [] (millW cI b v ++ (tapeW cI a (tpS B L 0 (-1))))
  refine g_aload_n hE dX3_readHeap_4 1 rfl ?_
  refine g_iconst hE dX3_readHeap_5 0 (by decide) ?_
  refine g_put hE fl_X3_58 fp_0_0 dX3_readHeap_6 0 rfl rfl rfl (Nat.le_of_ble_eq_true rfl) (millW cI b (pA v 9 (upd (v 9) 0 0)) ++ (tapeW cI a (tpS B L 0 (-1)))) (by rfl) ?_
  refine g_iconst hE dX3_readHeap_9 1 (by decide) ?_
  refine g_istore_n hE dX3_readHeap_10 [(2, .int 1), (0, .ref (a 0)), (1, .ref (b 0))] rfl (by decide) rfl ?_
  refine g_iconst hE dX3_readHeap_11 1 (by decide) ?_
  refine g_istore_n hE dX3_readHeap_12 [(3, .int 1), (2, .int 1), (0, .ref (a 0)), (1, .ref (b 0))] rfl (by decide) rfl ?_
  have L13 : ∀ (n_13 : Nat) (mo : Int32) (j : Nat) (q : Nat) (G : Int32) (vv : Nat → Nat → Int32), (j ≤ 6) → (q ≤ L) → (MW vv j sv pl) → ((rhS B L 6 1 0 0 (-1) (pA v 9 (upd (v 9) 0 0))) = rhS B L (6 - j) mo j q G vv) → (7 - j < n_13) → Go E Q 7 0 0 13 [(0, .ref (a 0)), (1, .ref (b 0)), (2, .int mo), (3, .int (nI (j + 1)))] [] (millW cI b vv ++ (tapeW cI a (tpS B L q G))) := by
    intro n_13
    induction n_13 with
    | zero => intro mo j q G vv hj hq hVV hs hm_13; exact absurd hm_13 (Nat.not_lt_zero _)
    | succ n_13 ih_13 =>
      intro mo j q G vv hj hq hVV hs hm_13
      refine g_iload_n hE dX3_readHeap_13 2 rfl ?_
      refine g_if_eq hE 122 dX3_readHeap_14 (by decide) (fun c2 => ?_) (fun c2 => ?_)
      · refine g_aload_n hE dX3_readHeap_122 0 rfl ?_
        refine g_callV hE (c_X3_end cI cS a B L q G hL hq) mk_X3_end mv_X3_end ml_X3_55 dX3_readHeap_123 (As := []) (rest := []) rfl rfl 10 rfl (show vwCl[3]? = some (RX3, TX3, 4) from rfl) (by decide) (by decide) (Nat.le_of_ble_eq_true rfl) (by decide) (by decide) [10, 11] rfl (by decide) (fun u => Nat.le_of_ble_eq_true rfl) (ws' := fun u => millW cI b vv ++ (tapeW cI a (tpS B 0 (sk B L q) (enF B L q G)))) (fun u => rfl) (fun u hu => ?_)
        show Go E Q 7 0 0 126 [(0, .ref (a 0)), (1, .ref (b 0)), (2, .int mo), (3, .int (nI (j + 1)))] [] (millW cI b vv ++ (tapeW cI a (tpS B 0 (sk B L q) (enF B L q G))))
        have hk : (rhS B L 6 1 0 0 (-1) (pA v 9 (upd (v 9) 0 0))) = (q, G, vv) := hs.trans (by first | (rw [show 6 - j = 0 by omega]; rfl) | exact rh_0 (by assumption))
        refine g_world (millW cI b (rhS B L 6 1 0 0 (-1) (pA v 9 (upd (v 9) 0 0))).2.2 ++ tapeW cI a (tpS B 0 (sk B L (rhS B L 6 1 0 0 (-1) (pA v 9 (upd (v 9) 0 0))).1) (enF B L (rhS B L 6 1 0 0 (-1) (pA v 9 (upd (v 9) 0 0))).1 (rhS B L 6 1 0 0 (-1) (pA v 9 (upd (v 9) 0 0))).2.1))) (by rw [hk]) ?_
        exact g_vret hE hQ dX3_readHeap_126 () rfl rfl ⟨j, hj, by rw [hk]; exact hVV⟩
      · refine g_iload_n hE dX3_readHeap_17 3 rfl ?_
        refine g_bipush hE dX3_readHeap_18 6 (by decide) ?_
        refine g_icmp_gt hE 122 dX3_readHeap_20 (by decide) (fun c4 => ?_) (fun c4 => ?_)
        · have kc4 := nat_lt_t (show 6 = nI 6 from rfl) (show (nI (j + 1)) = nI (j + 1) from rfl) (by omega) (by omega) c4
          refine g_aload_n hE dX3_readHeap_122 0 rfl ?_
          refine g_callV hE (c_X3_end cI cS a B L q G hL hq) mk_X3_end mv_X3_end ml_X3_55 dX3_readHeap_123 (As := []) (rest := []) rfl rfl 10 rfl (show vwCl[3]? = some (RX3, TX3, 4) from rfl) (by decide) (by decide) (Nat.le_of_ble_eq_true rfl) (by decide) (by decide) [10, 11] rfl (by decide) (fun u => Nat.le_of_ble_eq_true rfl) (ws' := fun u => millW cI b vv ++ (tapeW cI a (tpS B 0 (sk B L q) (enF B L q G)))) (fun u => rfl) (fun u hu => ?_)
          show Go E Q 7 0 0 126 [(0, .ref (a 0)), (1, .ref (b 0)), (2, .int mo), (3, .int (nI (j + 1)))] [] (millW cI b vv ++ (tapeW cI a (tpS B 0 (sk B L q) (enF B L q G))))
          have hk : (rhS B L 6 1 0 0 (-1) (pA v 9 (upd (v 9) 0 0))) = (q, G, vv) := hs.trans (by first | (rw [show 6 - j = 0 by omega]; rfl) | exact rh_0 (by assumption))
          refine g_world (millW cI b (rhS B L 6 1 0 0 (-1) (pA v 9 (upd (v 9) 0 0))).2.2 ++ tapeW cI a (tpS B 0 (sk B L (rhS B L 6 1 0 0 (-1) (pA v 9 (upd (v 9) 0 0))).1) (enF B L (rhS B L 6 1 0 0 (-1) (pA v 9 (upd (v 9) 0 0))).1 (rhS B L 6 1 0 0 (-1) (pA v 9 (upd (v 9) 0 0))).2.1))) (by rw [hk]) ?_
          exact g_vret hE hQ dX3_readHeap_126 () rfl rfl ⟨j, hj, by rw [hk]; exact hVV⟩
        · have kc4 := nat_lt_f (show 6 = nI 6 from rfl) (show (nI (j + 1)) = nI (j + 1) from rfl) (by omega) (by omega) c4
          refine g_aload_n hE dX3_readHeap_23 0 rfl ?_
          refine g_iconst hE dX3_readHeap_24 1 (by decide) ?_
          refine g_bipush hE dX3_readHeap_25 60 (by decide) ?_
          refine g_callV hE (c_X3_readNumber cI cS a B L q G hL hq 1 60) mk_X3_readNumber mv_X3_readNumber ml_X3_35 dX3_readHeap_27 (As := [.int 1, .int 60]) (rest := []) rfl rfl 10 rfl (show vwCl[3]? = some (RX3, TX3, 4) from rfl) (by decide) (by decide) (Nat.le_of_ble_eq_true rfl) (by decide) (by decide) [10, 11] rfl (by decide) (fun u => Nat.le_of_ble_eq_true rfl) (ws' := fun u => millW cI b vv ++ (tapeW cI a (tpS B L (nuP B L q) (nuF B L q G 1 60)))) (fun u => rfl) (fun u hu => ?_)
          obtain ⟨r_6, rfl⟩ : ∃ z, z = u := ⟨_, rfl⟩
          have h7 : r_6 = (nuV B L q) := hu
          subst h7
          show Go E Q 7 0 0 30 [(0, .ref (a 0)), (1, .ref (b 0)), (2, .int mo), (3, .int (nI (j + 1)))] [.int (nuV B L q)] (millW cI b vv ++ (tapeW cI a (tpS B L (nuP B L q) (nuF B L q G 1 60))))
          refine g_istore hE dX3_readHeap_30 [(4, .int (nuV B L q)), (0, .ref (a 0)), (1, .ref (b 0)), (2, .int mo), (3, .int (nI (j + 1)))] (by decide) rfl ?_
          have L53 : ∀ (z3 : Int32) (P3 : Nat) (G3 : Int32), (P3 ≤ L) → (z3 = opV B L (nuP B L q) 42 (nuV B L) 1) → (P3 = opP B L (nuP B L q) 42 (nuP B L)) → (G3 = opF B L (nuP B L q) 42 (fun p => nuF B L p (nuF B L q G 1 60) 0 9999) (nuF B L q G 1 60)) → Go E Q 7 0 0 53 [(0, .ref (a 0)), (1, .ref (b 0)), (2, .int mo), (3, .int (nI (j + 1))), (4, .int (nuV B L q))] [.int z3] (millW cI b vv ++ (tapeW cI a (tpS B L P3 G3))) := by
            intro z3 P3 G3 hP3L hz3 hP3 hG3
            refine g_istore hE dX3_readHeap_53 [(5, .int z3), (0, .ref (a 0)), (1, .ref (b 0)), (2, .int mo), (3, .int (nI (j + 1))), (4, .int (nuV B L q))] (by decide) rfl ?_
            have L75 : ∀ (w4 : Int32) (P4 : Nat) (G4 : Int32), (P4 ≤ L) → (w4 = opV B L P3 36 (nuV B L) 0) → (P4 = opP B L P3 36 (nuP B L)) → (G4 = opF B L P3 36 (fun p => nuF B L p G3 0 99) G3) → Go E Q 7 0 0 75 [(0, .ref (a 0)), (1, .ref (b 0)), (2, .int mo), (3, .int (nI (j + 1))), (4, .int (nuV B L q)), (5, .int z3)] [.int w4] (millW cI b vv ++ (tapeW cI a (tpS B L P4 G4))) := by
              intro w4 P4 G4 hP4L hw4 hP4 hG4
              refine g_istore hE dX3_readHeap_75 [(6, .int w4), (0, .ref (a 0)), (1, .ref (b 0)), (2, .int mo), (3, .int (nI (j + 1))), (4, .int (nuV B L q)), (5, .int z3)] (by decide) rfl ?_
              refine g_aload_n hE dX3_readHeap_77 2 rfl ?_
              refine g_iload hE dX3_readHeap_78 5 rfl ?_
              refine g_iload hE dX3_readHeap_80 6 rfl ?_
              refine g_iload hE dX3_readHeap_82 0 rfl ?_
              refine g_callV hE (c_X0_addGrain cI cS b vv (by first | assumption | exact mw_of (by assumption)) (nuV B L q) z3 w4 (by omega)) mk_X0_addGrain mv_X0_addGrain ml_X3_61 dX3_readHeap_84 (As := [.int (nuV B L q), .int z3, .int w4]) (rest := []) rfl rfl 0 rfl (show vwCl[0]? = some (RX0, TX0, 13) from rfl) (by decide) (by decide) (Nat.le_of_ble_eq_true rfl) (by decide) (by decide) [0, 1, 2, 3, 4, 5, 6, 7, 8, 9] rfl (by decide) (fun u => Nat.le_of_ble_eq_true rfl) (ws' := fun u => millW cI b (addG vv j (nuV B L q) z3 w4) ++ (tapeW cI a (tpS B L P4 G4))) (fun u => rfl) (fun u hu => ?_)
              obtain ⟨r_8, rfl⟩ : ∃ z, z = u := ⟨_, rfl⟩
              have h9 : r_8 = (nI j) := hu
              subst h9
              show Go E Q 7 0 0 87 [(6, .int w4), (0, .ref (a 0)), (1, .ref (b 0)), (2, .int mo), (3, .int (nI (j + 1))), (4, .int (nuV B L q)), (5, .int z3)] [.int (nI j)] (millW cI b (addG vv j (nuV B L q) z3 w4) ++ (tapeW cI a (tpS B L P4 G4)))
              refine g_pop hE dX3_readHeap_87 rfl ?_
              have L115 : ∀ (mo2 : Int32) (Pm : Nat), (Pm ≤ L) → (mo2 = moV B L P4 G4 (j + 1) 6) → (Pm = moP B L P4 G4 (j + 1) 6) → Go E Q 7 0 0 115 [(0, .ref (a 0)), (1, .ref (b 0)), (2, .int mo), (3, .int (nI (j + 1))), (4, .int (nuV B L q)), (5, .int z3), (6, .int w4)] [.int mo2] (millW cI b (addG vv j (nuV B L q) z3 w4) ++ (tapeW cI a (tpS B L Pm G4))) := by
                intro mo2 Pm hPm hmo hPmo
                refine g_istore_n hE dX3_readHeap_115 [(2, .int mo2), (0, .ref (a 0)), (1, .ref (b 0)), (3, .int (nI (j + 1))), (4, .int (nuV B L q)), (5, .int z3), (6, .int w4)] rfl (by decide) rfl ?_
                refine g_iinc hE dX3_readHeap_116 3 (nI ((j + 1) + 1)) [(3, .int (nI ((j + 1) + 1))), (2, .int mo2), (0, .ref (a 0)), (1, .ref (b 0)), (4, .int (nuV B L q)), (5, .int z3), (6, .int w4)] rfl (nI_1 _) (by decide) rfl ?_
                refine g_goto hE 13 dX3_readHeap_119 (by decide) ?_
                refine g_locals [2, 3, 1, 0] [(0, .ref (a 0)), (1, .ref (b 0)), (2, .int mo2), (3, .int (nI ((j + 1) + 1)))] rfl ?_
                exact ih_13 mo2 (j + 1) Pm G4 (addG vv j (nuV B L q) z3 w4) (by omega) hPm (mw_addG hVV (by omega)) (hs.trans (rh_s (by omega) (by assumption) hz3 hP3 hG3 hw4 hP4 hG4 hmo hPmo)) (by omega)
              refine g_aload_n hE dX3_readHeap_88 1 rfl ?_
              refine g_get hE fl_X3_52 dX3_readHeap_89 10 rfl rfl ?_
              refine g_if_ge hE 114 dX3_readHeap_92 (by decide) (fun c10 => ?_) (fun c10 => ?_)
              · refine g_iconst hE dX3_readHeap_114 0 (by decide) ?_
                refine g_locals [1, 2, 3, 4, 5, 6, 0] [(0, .ref (a 0)), (1, .ref (b 0)), (2, .int mo), (3, .int (nI (j + 1))), (4, .int (nuV B L q)), (5, .int z3), (6, .int w4)] rfl ?_
                exact L115 0 P4 hP4L (by rw [moV, if_neg (fun z => absurd z.1 (Int32.not_lt.mpr c10))]) (by rw [moP, if_neg (fun z => absurd z.1 (Int32.not_lt.mpr c10))])
              · refine g_iload_n hE dX3_readHeap_95 4 rfl ?_
                refine g_bipush hE dX3_readHeap_96 6 (by decide) ?_
                refine g_icmp_ge hE 114 dX3_readHeap_98 (by decide) (fun c11 => ?_) (fun c11 => ?_)
                · have kc11 := nat_le_t (show 6 = nI 6 from rfl) (show (nI (j + 1)) = nI (j + 1) from rfl) (by omega) (by omega) c11
                  refine g_iconst hE dX3_readHeap_114 0 (by decide) ?_
                  refine g_locals [1, 2, 3, 4, 5, 6, 0] [(0, .ref (a 0)), (1, .ref (b 0)), (2, .int mo), (3, .int (nI (j + 1))), (4, .int (nuV B L q)), (5, .int z3), (6, .int w4)] rfl ?_
                  exact L115 0 P4 hP4L (by rw [moV, if_neg (fun z => absurd z.2 (by omega))]) (by rw [moP, if_neg (fun z => absurd z.2 (by omega))])
                · have kc11 := nat_le_f (show 6 = nI 6 from rfl) (show (nI (j + 1)) = nI (j + 1) from rfl) (by omega) (by omega) c11
                  refine g_aload_n hE dX3_readHeap_101 1 rfl ?_
                  refine g_bipush hE dX3_readHeap_102 44 (by decide) ?_
                  refine g_callV hE (c_X3_passes cI cS a B L P4 G4 hL hP4L 44) mk_X3_passes mv_X3_passes ml_X3_39 dX3_readHeap_104 (As := [.int 44]) (rest := []) rfl rfl 10 rfl (show vwCl[3]? = some (RX3, TX3, 4) from rfl) (by decide) (by decide) (Nat.le_of_ble_eq_true rfl) (by decide) (by decide) [10, 11] rfl (by decide) (fun u => Nat.le_of_ble_eq_true rfl) (ws' := fun u => millW cI b (addG vv j (nuV B L q) z3 w4) ++ (tapeW cI a (tpS B L (psP B L P4 44) G4))) (fun u => rfl) (fun u hu => ?_)
                  obtain ⟨r_12, rfl⟩ : ∃ z, z = u := ⟨_, rfl⟩
                  have h13 : r_12 = if bt B L (sk B L P4) = 44 then 1 else 0 := hu
                  by_cases c14 : bt B L (sk B L P4) = 44
                  · rw [if_pos c14] at h13
                    subst h13
                    refine g_world (millW cI b (addG vv j (nuV B L q) z3 w4) ++ (tapeW cI a (tpS B L ((sk B L P4) + 1) G4))) (by rw [psP_y rfl c14]) ?_
                    show Go E Q 7 0 0 107 [(6, .int w4), (0, .ref (a 0)), (1, .ref (b 0)), (2, .int mo), (3, .int (nI (j + 1))), (4, .int (nuV B L q)), (5, .int z3)] [.int 1] (millW cI b (addG vv j (nuV B L q) z3 w4) ++ (tapeW cI a (tpS B L ((sk B L P4) + 1) G4)))
                    refine g_if_eq hE 114 dX3_readHeap_107 (by decide) (fun c15 => absurd c15 (by decide)) (fun c15 => ?_)
                    refine g_iconst hE dX3_readHeap_110 1 (by decide) ?_
                    refine g_goto hE 115 dX3_readHeap_111 (by decide) ?_
                    refine g_locals [1, 2, 3, 4, 5, 6, 0] [(0, .ref (a 0)), (1, .ref (b 0)), (2, .int mo), (3, .int (nI (j + 1))), (4, .int (nuV B L q)), (5, .int z3), (6, .int w4)] rfl ?_
                    exact L115 1 ((sk B L P4) + 1) (sk_lt_of hP4L (c := 44) (by decide) c14) (by rw [moV, if_pos ⟨(Int32.not_le.mp c10), by omega⟩, if_pos c14]) (by rw [moP, if_pos ⟨(Int32.not_le.mp c10), by omega⟩, if_pos c14])
                  · rw [if_neg c14] at h13
                    subst h13
                    refine g_world (millW cI b (addG vv j (nuV B L q) z3 w4) ++ (tapeW cI a (tpS B L (sk B L P4) G4))) (by rw [psP_n rfl c14]) ?_
                    show Go E Q 7 0 0 107 [(6, .int w4), (0, .ref (a 0)), (1, .ref (b 0)), (2, .int mo), (3, .int (nI (j + 1))), (4, .int (nuV B L q)), (5, .int z3)] [.int 0] (millW cI b (addG vv j (nuV B L q) z3 w4) ++ (tapeW cI a (tpS B L (sk B L P4) G4)))
                    refine g_if_eq hE 114 dX3_readHeap_107 (by decide) (fun c16 => ?_) (fun c16 => absurd (by decide) c16)
                    refine g_iconst hE dX3_readHeap_114 0 (by decide) ?_
                    refine g_locals [1, 2, 3, 4, 5, 6, 0] [(0, .ref (a 0)), (1, .ref (b 0)), (2, .int mo), (3, .int (nI (j + 1))), (4, .int (nuV B L q)), (5, .int z3), (6, .int w4)] rfl ?_
                    exact L115 0 (sk B L P4) (sk_le hP4L) (by rw [moV, if_pos ⟨(Int32.not_le.mp c10), by omega⟩, if_neg c14]) (by rw [moP, if_pos ⟨(Int32.not_le.mp c10), by omega⟩, if_neg c14])
            refine g_aload_n hE dX3_readHeap_55 1 rfl ?_
            refine g_bipush hE dX3_readHeap_56 36 (by decide) ?_
            refine g_callV hE (c_X3_passes cI cS a B L P3 G3 hL hP3L 36) mk_X3_passes mv_X3_passes ml_X3_39 dX3_readHeap_58 (As := [.int 36]) (rest := []) rfl rfl 10 rfl (show vwCl[3]? = some (RX3, TX3, 4) from rfl) (by decide) (by decide) (Nat.le_of_ble_eq_true rfl) (by decide) (by decide) [10, 11] rfl (by decide) (fun u => Nat.le_of_ble_eq_true rfl) (ws' := fun u => millW cI b vv ++ (tapeW cI a (tpS B L (psP B L P3 36) G3))) (fun u => rfl) (fun u hu => ?_)
            obtain ⟨r_17, rfl⟩ : ∃ z, z = u := ⟨_, rfl⟩
            have h18 : r_17 = if bt B L (sk B L P3) = 36 then 1 else 0 := hu
            by_cases c19 : bt B L (sk B L P3) = 36
            · rw [if_pos c19] at h18
              subst h18
              refine g_world (millW cI b vv ++ (tapeW cI a (tpS B L ((sk B L P3) + 1) G3))) (by rw [psP_y rfl c19]) ?_
              show Go E Q 7 0 0 61 [(5, .int z3), (0, .ref (a 0)), (1, .ref (b 0)), (2, .int mo), (3, .int (nI (j + 1))), (4, .int (nuV B L q))] [.int 1] (millW cI b vv ++ (tapeW cI a (tpS B L ((sk B L P3) + 1) G3)))
              refine g_if_eq hE 74 dX3_readHeap_61 (by decide) (fun c20 => absurd c20 (by decide)) (fun c20 => ?_)
              refine g_aload_n hE dX3_readHeap_64 1 rfl ?_
              refine g_iconst hE dX3_readHeap_65 0 (by decide) ?_
              refine g_bipush hE dX3_readHeap_66 99 (by decide) ?_
              refine g_callV hE (c_X3_readNumber cI cS a B L ((sk B L P3) + 1) G3 hL (sk_lt_of hP3L (c := 36) (by decide) c19) 0 99) mk_X3_readNumber mv_X3_readNumber ml_X3_35 dX3_readHeap_68 (As := [.int 0, .int 99]) (rest := []) rfl rfl 10 rfl (show vwCl[3]? = some (RX3, TX3, 4) from rfl) (by decide) (by decide) (Nat.le_of_ble_eq_true rfl) (by decide) (by decide) [10, 11] rfl (by decide) (fun u => Nat.le_of_ble_eq_true rfl) (ws' := fun u => millW cI b vv ++ (tapeW cI a (tpS B L (nuP B L ((sk B L P3) + 1)) (nuF B L ((sk B L P3) + 1) G3 0 99)))) (fun u => rfl) (fun u hu => ?_)
              obtain ⟨r_21, rfl⟩ : ∃ z, z = u := ⟨_, rfl⟩
              have h22 : r_21 = (nuV B L ((sk B L P3) + 1)) := hu
              subst h22
              show Go E Q 7 0 0 71 [(5, .int z3), (0, .ref (a 0)), (1, .ref (b 0)), (2, .int mo), (3, .int (nI (j + 1))), (4, .int (nuV B L q))] [.int (nuV B L ((sk B L P3) + 1))] (millW cI b vv ++ (tapeW cI a (tpS B L (nuP B L ((sk B L P3) + 1)) (nuF B L ((sk B L P3) + 1) G3 0 99))))
              refine g_goto hE 75 dX3_readHeap_71 (by decide) ?_
              refine g_locals [1, 2, 3, 4, 5, 0] [(0, .ref (a 0)), (1, .ref (b 0)), (2, .int mo), (3, .int (nI (j + 1))), (4, .int (nuV B L q)), (5, .int z3)] rfl ?_
              exact L75 (nuV B L ((sk B L P3) + 1)) (nuP B L ((sk B L P3) + 1)) (nuF B L ((sk B L P3) + 1) G3 0 99) (nuP_le (sk_lt_of hP3L (c := 36) (by decide) c19)) (by rw [opV, if_pos c19]) (by rw [opP, if_pos c19]) (by rw [opF, if_pos c19])
            · rw [if_neg c19] at h18
              subst h18
              refine g_world (millW cI b vv ++ (tapeW cI a (tpS B L (sk B L P3) G3))) (by rw [psP_n rfl c19]) ?_
              show Go E Q 7 0 0 61 [(5, .int z3), (0, .ref (a 0)), (1, .ref (b 0)), (2, .int mo), (3, .int (nI (j + 1))), (4, .int (nuV B L q))] [.int 0] (millW cI b vv ++ (tapeW cI a (tpS B L (sk B L P3) G3)))
              refine g_if_eq hE 74 dX3_readHeap_61 (by decide) (fun c23 => ?_) (fun c23 => absurd (by decide) c23)
              refine g_iconst hE dX3_readHeap_74 0 (by decide) ?_
              refine g_locals [1, 2, 3, 4, 5, 0] [(0, .ref (a 0)), (1, .ref (b 0)), (2, .int mo), (3, .int (nI (j + 1))), (4, .int (nuV B L q)), (5, .int z3)] rfl ?_
              exact L75 0 (sk B L P3) G3 (sk_le hP3L) (by rw [opV, if_neg c19]) (by rw [opP, if_neg c19]) (by rw [opF, if_neg c19])
          refine g_aload_n hE dX3_readHeap_32 1 rfl ?_
          refine g_bipush hE dX3_readHeap_33 42 (by decide) ?_
          refine g_callV hE (c_X3_passes cI cS a B L (nuP B L q) (nuF B L q G 1 60) hL (nuP_le hq) 42) mk_X3_passes mv_X3_passes ml_X3_39 dX3_readHeap_35 (As := [.int 42]) (rest := []) rfl rfl 10 rfl (show vwCl[3]? = some (RX3, TX3, 4) from rfl) (by decide) (by decide) (Nat.le_of_ble_eq_true rfl) (by decide) (by decide) [10, 11] rfl (by decide) (fun u => Nat.le_of_ble_eq_true rfl) (ws' := fun u => millW cI b vv ++ (tapeW cI a (tpS B L (psP B L (nuP B L q) 42) (nuF B L q G 1 60)))) (fun u => rfl) (fun u hu => ?_)
          obtain ⟨r_24, rfl⟩ : ∃ z, z = u := ⟨_, rfl⟩
          have h25 : r_24 = if bt B L (sk B L (nuP B L q)) = 42 then 1 else 0 := hu
          by_cases c26 : bt B L (sk B L (nuP B L q)) = 42
          · rw [if_pos c26] at h25
            subst h25
            refine g_world (millW cI b vv ++ (tapeW cI a (tpS B L ((sk B L (nuP B L q)) + 1) (nuF B L q G 1 60)))) (by rw [psP_y rfl c26]) ?_
            show Go E Q 7 0 0 38 [(4, .int (nuV B L q)), (0, .ref (a 0)), (1, .ref (b 0)), (2, .int mo), (3, .int (nI (j + 1)))] [.int 1] (millW cI b vv ++ (tapeW cI a (tpS B L ((sk B L (nuP B L q)) + 1) (nuF B L q G 1 60))))
            refine g_if_eq hE 52 dX3_readHeap_38 (by decide) (fun c27 => absurd c27 (by decide)) (fun c27 => ?_)
            refine g_aload_n hE dX3_readHeap_41 1 rfl ?_
            refine g_iconst hE dX3_readHeap_42 0 (by decide) ?_
            refine g_sipush hE dX3_readHeap_43 9999 (by decide) ?_
            refine g_callV hE (c_X3_readNumber cI cS a B L ((sk B L (nuP B L q)) + 1) (nuF B L q G 1 60) hL (sk_lt_of (nuP_le hq) (c := 42) (by decide) c26) 0 9999) mk_X3_readNumber mv_X3_readNumber ml_X3_35 dX3_readHeap_46 (As := [.int 0, .int 9999]) (rest := []) rfl rfl 10 rfl (show vwCl[3]? = some (RX3, TX3, 4) from rfl) (by decide) (by decide) (Nat.le_of_ble_eq_true rfl) (by decide) (by decide) [10, 11] rfl (by decide) (fun u => Nat.le_of_ble_eq_true rfl) (ws' := fun u => millW cI b vv ++ (tapeW cI a (tpS B L (nuP B L ((sk B L (nuP B L q)) + 1)) (nuF B L ((sk B L (nuP B L q)) + 1) (nuF B L q G 1 60) 0 9999)))) (fun u => rfl) (fun u hu => ?_)
            obtain ⟨r_28, rfl⟩ : ∃ z, z = u := ⟨_, rfl⟩
            have h29 : r_28 = (nuV B L ((sk B L (nuP B L q)) + 1)) := hu
            subst h29
            show Go E Q 7 0 0 49 [(4, .int (nuV B L q)), (0, .ref (a 0)), (1, .ref (b 0)), (2, .int mo), (3, .int (nI (j + 1)))] [.int (nuV B L ((sk B L (nuP B L q)) + 1))] (millW cI b vv ++ (tapeW cI a (tpS B L (nuP B L ((sk B L (nuP B L q)) + 1)) (nuF B L ((sk B L (nuP B L q)) + 1) (nuF B L q G 1 60) 0 9999))))
            refine g_goto hE 53 dX3_readHeap_49 (by decide) ?_
            refine g_locals [1, 2, 3, 4, 0] [(0, .ref (a 0)), (1, .ref (b 0)), (2, .int mo), (3, .int (nI (j + 1))), (4, .int (nuV B L q))] rfl ?_
            exact L53 (nuV B L ((sk B L (nuP B L q)) + 1)) (nuP B L ((sk B L (nuP B L q)) + 1)) (nuF B L ((sk B L (nuP B L q)) + 1) (nuF B L q G 1 60) 0 9999) (nuP_le (sk_lt_of (nuP_le hq) (c := 42) (by decide) c26)) (by rw [opV, if_pos c26]) (by rw [opP, if_pos c26]) (by rw [opF, if_pos c26])
          · rw [if_neg c26] at h25
            subst h25
            refine g_world (millW cI b vv ++ (tapeW cI a (tpS B L (sk B L (nuP B L q)) (nuF B L q G 1 60)))) (by rw [psP_n rfl c26]) ?_
            show Go E Q 7 0 0 38 [(4, .int (nuV B L q)), (0, .ref (a 0)), (1, .ref (b 0)), (2, .int mo), (3, .int (nI (j + 1)))] [.int 0] (millW cI b vv ++ (tapeW cI a (tpS B L (sk B L (nuP B L q)) (nuF B L q G 1 60))))
            refine g_if_eq hE 52 dX3_readHeap_38 (by decide) (fun c30 => ?_) (fun c30 => absurd (by decide) c30)
            refine g_iconst hE dX3_readHeap_52 1 (by decide) ?_
            refine g_locals [1, 2, 3, 4, 0] [(0, .ref (a 0)), (1, .ref (b 0)), (2, .int mo), (3, .int (nI (j + 1))), (4, .int (nuV B L q))] rfl ?_
            exact L53 1 (sk B L (nuP B L q)) (nuF B L q G 1 60) (sk_le (nuP_le hq)) (by rw [opV, if_neg c26]) (by rw [opP, if_neg c26]) (by rw [opF, if_neg c26])
  refine g_locals [2, 3, 1, 0] [(0, .ref (a 0)), (1, .ref (b 0)), (2, .int 1), (3, .int 1)] rfl ?_
  exact L13 _ 1 0 0 (-1) (pA v 9 (upd (v 9) 0 0)) (Nat.zero_le _) (Nat.zero_le _) (mw_z0 hV) rfl (Nat.lt_succ_self _)
set_option maxHeartbeats 4000000 in
set_option maxRecDepth 100000 in
theorem c_X3_readRow (cI cS : ClassId) (b a : Nat → Nat) (v : Nat → Nat → Int32) (B : Nat → Int32) (L P : Nat) (F : Int32) {n sv pl : Nat} (hV : MW v n sv pl) (hL : L ≤ 120) (w : Int32) (wn : Nat) (hw : w = nI wn) (hwn : wn ≤ 8) : CT cI cS yX3_readRow cX3_readRow 6 none 4 [.ref (a 0), .ref (b 0), .int w] (millW cI b v ++ (tapeW cI a (tpS B L P F))) 0 0 (fun u : Unit => (rrS B L w 6 1 0 0 (pA v 9 (upd (v 9) 2 0))).2.1 ≤ 6 ∧ MW (rrS B L w 6 1 0 0 (pA v 9 (upd (v 9) 2 0))).2.2 n sv (rrS B L w 6 1 0 0 (pA v 9 (upd (v 9) 2 0))).2.1) (fun u => none) (fun u => (millW cI b ((rrS B L w 6 1 0 0 (pA v 9 (upd (v 9) 2 0))).2.2) ++ (tapeW cI a (tpS B 0 (sk B L (rrS B L w 6 1 0 0 (pA v 9 (upd (v 9) 2 0))).1) (enF B L (rrS B L w 6 1 0 0 (pA v 9 (upd (v 9) 2 0))).1 (-1)))))) := by
  refine ct_intro (by decide) (Nat.le_of_ble_eq_true rfl) (fun E Q hE hQ hI => ?_)
  have hE : CxOk E cI cS RX3 cX3_readRow 6 none 4 0 0 := hE
  show Go E Q 6 0 0 0 [(0, .ref (a 0)), (1, .ref (b 0)), (2, .int w)] [] (millW cI b v ++ (tapeW cI a (tpS B L P F)))
  have hn := hV.1
  have hn6 := hV.2.1
  have hsv := hV.2.2.1
  have hsv8 := hV.2.2.2.1
  have hpl := hV.2.2.2.2.1
  have hpl6 := hV.2.2.2.2.2
  refine g_aload_n hE dX3_readRow_0 0 rfl ?_
  refine g_callV hE (c_X3_begin cI cS a B L P F hL) mk_X3_begin mv_X3_begin ml_X3_23 dX3_readRow_1 (As := []) (rest := []) rfl rfl 10 rfl (show vwCl[3]? = some (RX3, TX3, 4) from rfl) (by decide) (by decide) (Nat.le_of_ble_eq_true rfl) (by decide) (by decide) [10, 11] rfl (by decide) (fun u => Nat.le_of_ble_eq_true rfl) (ws' := fun u => millW cI b v ++ (tapeW cI a (tpS B L 0 (-1)))) (fun u => rfl) (fun u hu => ?_)
  show Go E Q 6 0 0 4 [(0, .ref (a 0)), (1, .ref (b 0)), (2, .int w)] [] (millW cI b v ++ (tapeW cI a (tpS B L 0 (-1))))
  refine g_aload_n hE dX3_readRow_4 1 rfl ?_
  refine g_iconst hE dX3_readRow_5 0 (by decide) ?_
  refine g_put hE fl_X3_65 fp_0_2 dX3_readRow_6 0 rfl rfl rfl (Nat.le_of_ble_eq_true rfl) (millW cI b (pA v 9 (upd (v 9) 2 0)) ++ (tapeW cI a (tpS B L 0 (-1)))) (by rfl) ?_
  refine g_iconst hE dX3_readRow_9 1 (by decide) ?_
  refine g_istore_n hE dX3_readRow_10 [(3, .int 1), (0, .ref (a 0)), (1, .ref (b 0)), (2, .int w)] rfl (by decide) rfl ?_
  refine g_iconst hE dX3_readRow_11 0 (by decide) ?_
  refine g_istore hE dX3_readRow_12 [(4, .int 0), (3, .int 1), (0, .ref (a 0)), (1, .ref (b 0)), (2, .int w)] (by decide) rfl ?_
  have L14 : ∀ (n_14 : Nat) (mo : Int32) (j : Nat) (c : Nat) (q : Nat) (vv : Nat → Nat → Int32), (j ≤ 6) → (c ≤ j) → (q ≤ L) → (MW vv n sv c) → ((rrS B L w 6 1 0 0 (pA v 9 (upd (v 9) 2 0))) = rrS B L w (6 - j) mo q c vv) → (7 - j < n_14) → Go E Q 6 0 0 14 [(0, .ref (a 0)), (1, .ref (b 0)), (2, .int w), (3, .int mo), (4, .int (nI j))] [] (millW cI b vv ++ (tapeW cI a (tpS B L q (-1)))) := by
    intro n_14
    induction n_14 with
    | zero => intro mo j c q vv hj hc hq hVV hs hm_14; exact absurd hm_14 (Nat.not_lt_zero _)
    | succ n_14 ih_14 =>
      intro mo j c q vv hj hc hq hVV hs hm_14
      refine g_iload_n hE dX3_readRow_14 3 rfl ?_
      refine g_if_eq hE 87 dX3_readRow_15 (by decide) (fun c2 => ?_) (fun c2 => ?_)
      · refine g_aload_n hE dX3_readRow_87 0 rfl ?_
        refine g_callV hE (c_X3_end cI cS a B L q (-1) hL hq) mk_X3_end mv_X3_end ml_X3_55 dX3_readRow_88 (As := []) (rest := []) rfl rfl 10 rfl (show vwCl[3]? = some (RX3, TX3, 4) from rfl) (by decide) (by decide) (Nat.le_of_ble_eq_true rfl) (by decide) (by decide) [10, 11] rfl (by decide) (fun u => Nat.le_of_ble_eq_true rfl) (ws' := fun u => millW cI b vv ++ (tapeW cI a (tpS B 0 (sk B L q) (enF B L q (-1))))) (fun u => rfl) (fun u hu => ?_)
        show Go E Q 6 0 0 91 [(0, .ref (a 0)), (1, .ref (b 0)), (2, .int w), (3, .int mo), (4, .int (nI j))] [] (millW cI b vv ++ (tapeW cI a (tpS B 0 (sk B L q) (enF B L q (-1)))))
        have hk : (rrS B L w 6 1 0 0 (pA v 9 (upd (v 9) 2 0))) = (q, c, vv) := hs.trans (by first | (rw [show 6 - j = 0 by omega]; rfl) | exact rr_0 (by assumption))
        refine g_world (millW cI b (rrS B L w 6 1 0 0 (pA v 9 (upd (v 9) 2 0))).2.2 ++ tapeW cI a (tpS B 0 (sk B L (rrS B L w 6 1 0 0 (pA v 9 (upd (v 9) 2 0))).1) (enF B L (rrS B L w 6 1 0 0 (pA v 9 (upd (v 9) 2 0))).1 (-1)))) (by rw [hk]) ?_
        exact g_vret hE hQ dX3_readRow_91 () rfl rfl ⟨by rw [hk]; exact Nat.le_trans hc hj, by rw [hk]; exact hVV⟩
      · refine g_iload hE dX3_readRow_18 4 rfl ?_
        refine g_bipush hE dX3_readRow_20 6 (by decide) ?_
        refine g_icmp_ge hE 87 dX3_readRow_22 (by decide) (fun c4 => ?_) (fun c4 => ?_)
        · have kc4 := nat_le_t (show 6 = nI 6 from rfl) (show (nI j) = nI j from rfl) (by omega) (by omega) c4
          refine g_aload_n hE dX3_readRow_87 0 rfl ?_
          refine g_callV hE (c_X3_end cI cS a B L q (-1) hL hq) mk_X3_end mv_X3_end ml_X3_55 dX3_readRow_88 (As := []) (rest := []) rfl rfl 10 rfl (show vwCl[3]? = some (RX3, TX3, 4) from rfl) (by decide) (by decide) (Nat.le_of_ble_eq_true rfl) (by decide) (by decide) [10, 11] rfl (by decide) (fun u => Nat.le_of_ble_eq_true rfl) (ws' := fun u => millW cI b vv ++ (tapeW cI a (tpS B 0 (sk B L q) (enF B L q (-1))))) (fun u => rfl) (fun u hu => ?_)
          show Go E Q 6 0 0 91 [(0, .ref (a 0)), (1, .ref (b 0)), (2, .int w), (3, .int mo), (4, .int (nI j))] [] (millW cI b vv ++ (tapeW cI a (tpS B 0 (sk B L q) (enF B L q (-1)))))
          have hk : (rrS B L w 6 1 0 0 (pA v 9 (upd (v 9) 2 0))) = (q, c, vv) := hs.trans (by first | (rw [show 6 - j = 0 by omega]; rfl) | exact rr_0 (by assumption))
          refine g_world (millW cI b (rrS B L w 6 1 0 0 (pA v 9 (upd (v 9) 2 0))).2.2 ++ tapeW cI a (tpS B 0 (sk B L (rrS B L w 6 1 0 0 (pA v 9 (upd (v 9) 2 0))).1) (enF B L (rrS B L w 6 1 0 0 (pA v 9 (upd (v 9) 2 0))).1 (-1)))) (by rw [hk]) ?_
          exact g_vret hE hQ dX3_readRow_91 () rfl rfl ⟨by rw [hk]; exact Nat.le_trans hc hj, by rw [hk]; exact hVV⟩
        · have kc4 := nat_le_f (show 6 = nI 6 from rfl) (show (nI j) = nI j from rfl) (by omega) (by omega) c4
          refine g_aload_n hE dX3_readRow_25 0 rfl ?_
          refine g_callV hE (c_X3_next cI cS a B L q (-1) hL hq) mk_X3_next mv_X3_next ml_X3_68 dX3_readRow_26 (As := []) (rest := []) rfl rfl 10 rfl (show vwCl[3]? = some (RX3, TX3, 4) from rfl) (by decide) (by decide) (Nat.le_of_ble_eq_true rfl) (by decide) (by decide) [10, 11] rfl (by decide) (fun u => Nat.le_of_ble_eq_true rfl) (ws' := fun u => millW cI b vv ++ (tapeW cI a (tpS B L (sk B L q) (-1)))) (fun u => rfl) (fun u hu => ?_)
          obtain ⟨r_6, rfl⟩ : ∃ z, z = u := ⟨_, rfl⟩
          have h7 : r_6 = (bt B L (sk B L q)) := hu
          subst h7
          show Go E Q 6 0 0 29 [(0, .ref (a 0)), (1, .ref (b 0)), (2, .int w), (3, .int mo), (4, .int (nI j))] [.int (bt B L (sk B L q))] (millW cI b vv ++ (tapeW cI a (tpS B L (sk B L q) (-1))))
          refine g_bipush hE dX3_readRow_29 48 (by decide) ?_
          refine g_isub hE dX3_readRow_31 ?_
          refine g_istore hE dX3_readRow_32 [(5, .int ((bt B L (sk B L q)) - 48)), (0, .ref (a 0)), (1, .ref (b 0)), (2, .int w), (3, .int mo), (4, .int (nI j))] (by decide) rfl ?_
          refine g_iload hE dX3_readRow_34 0 rfl ?_
          refine g_iconst hE dX3_readRow_36 0 (by decide) ?_
          refine g_iload_n hE dX3_readRow_37 3 rfl ?_
          refine g_iconst hE dX3_readRow_38 1 (by decide) ?_
          refine g_isub hE dX3_readRow_39 ?_
          refine g_callSN hE (c_X4_within cI cS ((bt B L (sk B L q)) - 48) 0 (w - 1)) mk_X4_within st_X4_within nl_X3_71 dX3_readRow_40 (As := [.int ((bt B L (sk B L q)) - 48), .int 0, .int (w - 1)]) (rest := []) rfl rfl (by decide) (by decide) (Nat.le_of_ble_eq_true rfl) (by decide) (by decide) [] rfl (by decide) (fun u => Nat.le_of_ble_eq_true rfl) (ws' := fun u => millW cI b vv ++ (tapeW cI a (tpS B L (sk B L q) (-1)))) (fun u => rfl) (fun u hu => ?_)
          obtain ⟨r_8, rfl⟩ : ∃ z, z = u := ⟨_, rfl⟩
          have h9 : r_8 = if 0 ≤ ((bt B L (sk B L q)) - 48) ∧ ((bt B L (sk B L q)) - 48) ≤ (w - 1) then 1 else 0 := hu
          by_cases c10 : 0 ≤ ((bt B L (sk B L q)) - 48) ∧ ((bt B L (sk B L q)) - 48) ≤ (w - 1)
          · rw [if_pos c10] at h9
            subst h9
            show Go E Q 6 0 0 43 [(5, .int ((bt B L (sk B L q)) - 48)), (0, .ref (a 0)), (1, .ref (b 0)), (2, .int w), (3, .int mo), (4, .int (nI j))] [.int 1] (millW cI b vv ++ (tapeW cI a (tpS B L (sk B L q) (-1))))
            refine g_if_eq hE 59 dX3_readRow_43 (by decide) (fun c11 => absurd c11 (by decide)) (fun c11 => ?_)
            refine g_aload_n hE dX3_readRow_46 2 rfl ?_
            refine g_iload hE dX3_readRow_47 0 rfl ?_
            refine g_callV hE (c_X0_isInRow cI cS b vv (by first | assumption | exact mw_of (by assumption)) ((bt B L (sk B L q)) - 48)) mk_X0_isInRow mv_X0_isInRow ml_X3_75 dX3_readRow_49 (As := [.int ((bt B L (sk B L q)) - 48)]) (rest := []) rfl rfl 0 rfl (show vwCl[0]? = some (RX0, TX0, 13) from rfl) (by decide) (by decide) (Nat.le_of_ble_eq_true rfl) (by decide) (by decide) [0, 1, 2, 3, 4, 5, 6, 7, 8, 9] rfl (by decide) (fun u => Nat.le_of_ble_eq_true rfl) (ws' := fun u => millW cI b vv ++ (tapeW cI a (tpS B L (sk B L q) (-1)))) (fun u => rfl) (fun u hu => ?_)
            obtain ⟨r_12, rfl⟩ : ∃ z, z = u := ⟨_, rfl⟩
            have h13 : r_12 = if inRb vv ((bt B L (sk B L q)) - 48) c = true then 1 else 0 := hu
            by_cases c14 : inRb vv ((bt B L (sk B L q)) - 48) c = true
            · rw [if_pos c14] at h13
              subst h13
              show Go E Q 6 0 0 52 [(5, .int ((bt B L (sk B L q)) - 48)), (0, .ref (a 0)), (1, .ref (b 0)), (2, .int w), (3, .int mo), (4, .int (nI j))] [.int 1] (millW cI b vv ++ (tapeW cI a (tpS B L (sk B L q) (-1))))
              refine g_if_ne hE 59 dX3_readRow_52 (by decide) (fun c15 => ?_) (fun c15 => absurd c15 (by decide))
              refine g_iconst hE dX3_readRow_59 0 (by decide) ?_
              refine g_istore_n hE dX3_readRow_60 [(3, .int 0), (5, .int ((bt B L (sk B L q)) - 48)), (0, .ref (a 0)), (1, .ref (b 0)), (2, .int w), (4, .int (nI j))] rfl (by decide) rfl ?_
              refine g_iload_n hE dX3_readRow_61 0 rfl ?_
              refine g_if_eq hE 81 dX3_readRow_62 (by decide) (fun c16 => ?_) (fun c16 => absurd (by decide) c16)
              refine g_iinc hE dX3_readRow_81 5 (nI (j + 1)) [(4, .int (nI (j + 1))), (3, .int 0), (5, .int ((bt B L (sk B L q)) - 48)), (0, .ref (a 0)), (1, .ref (b 0)), (2, .int w)] rfl (nI_1 _) (by decide) rfl ?_
              refine g_goto hE 14 dX3_readRow_84 (by decide) ?_
              refine g_locals [3, 4, 5, 1, 0] [(0, .ref (a 0)), (1, .ref (b 0)), (2, .int w), (3, .int 0), (4, .int (nI (j + 1)))] rfl ?_
              exact ih_14 0 (j + 1) c (sk B L q) vv (by omega) (by omega) (sk_le hq) hVV (hs.trans (rr_n (by omega) (by assumption) (fun z => absurd c14 z.2))) (by omega)
            · rw [if_neg c14] at h13
              subst h13
              show Go E Q 6 0 0 52 [(5, .int ((bt B L (sk B L q)) - 48)), (0, .ref (a 0)), (1, .ref (b 0)), (2, .int w), (3, .int mo), (4, .int (nI j))] [.int 0] (millW cI b vv ++ (tapeW cI a (tpS B L (sk B L q) (-1))))
              refine g_if_ne hE 59 dX3_readRow_52 (by decide) (fun c17 => absurd (by decide) c17) (fun c17 => ?_)
              refine g_iconst hE dX3_readRow_55 1 (by decide) ?_
              refine g_goto hE 60 dX3_readRow_56 (by decide) ?_
              refine g_istore_n hE dX3_readRow_60 [(3, .int 1), (5, .int ((bt B L (sk B L q)) - 48)), (0, .ref (a 0)), (1, .ref (b 0)), (2, .int w), (4, .int (nI j))] rfl (by decide) rfl ?_
              refine g_iload_n hE dX3_readRow_61 0 rfl ?_
              refine g_if_eq hE 81 dX3_readRow_62 (by decide) (fun c18 => absurd c18 (by decide)) (fun c18 => ?_)
              refine g_aload_n hE dX3_readRow_65 3 rfl ?_
              refine g_iload hE dX3_readRow_66 1 rfl ?_
              refine g_callV hE (c_X0_addPlace cI cS b vv (by first | assumption | exact mw_of (by assumption)) ((bt B L (sk B L q)) - 48) (by omega)) mk_X0_addPlace mv_X0_addPlace ml_X3_78 dX3_readRow_68 (As := [.int ((bt B L (sk B L q)) - 48)]) (rest := []) rfl rfl 0 rfl (show vwCl[0]? = some (RX0, TX0, 13) from rfl) (by decide) (by decide) (Nat.le_of_ble_eq_true rfl) (by decide) (by decide) [0, 1, 2, 3, 4, 5, 6, 7, 8, 9] rfl (by decide) (fun u => Nat.le_of_ble_eq_true rfl) (ws' := fun u => millW cI b (addP vv c ((bt B L (sk B L q)) - 48)) ++ (tapeW cI a (tpS B L (sk B L q) (-1)))) (fun u => rfl) (fun u hu => ?_)
              show Go E Q 6 0 0 71 [(3, .int 1), (5, .int ((bt B L (sk B L q)) - 48)), (0, .ref (a 0)), (1, .ref (b 0)), (2, .int w), (4, .int (nI j))] [] (millW cI b (addP vv c ((bt B L (sk B L q)) - 48)) ++ (tapeW cI a (tpS B L (sk B L q) (-1))))
              refine g_aload_n hE dX3_readRow_71 2 rfl ?_
              refine g_dup hE dX3_readRow_72 rfl ?_
              refine g_get hE fl_X3_82 dX3_readRow_73 10 rfl rfl ?_
              refine g_iconst hE dX3_readRow_76 1 (by decide) ?_
              refine g_iadd_n hE dX3_readRow_77 (show (nI (sk B L q)) = nI (sk B L q) from rfl) (show 1 = nI 1 from rfl) ?_
              refine g_put hE fl_X3_82 fp_3_2 dX3_readRow_78 10 rfl rfl rfl (Nat.le_of_ble_eq_true rfl) (millW cI b (addP vv c ((bt B L (sk B L q)) - 48)) ++ (tapeW cI a (tpS B L ((sk B L q) + 1) (-1)))) (by rfl) ?_
              refine g_iinc hE dX3_readRow_81 5 (nI (j + 1)) [(4, .int (nI (j + 1))), (3, .int 1), (5, .int ((bt B L (sk B L q)) - 48)), (0, .ref (a 0)), (1, .ref (b 0)), (2, .int w)] rfl (nI_1 _) (by decide) rfl ?_
              refine g_goto hE 14 dX3_readRow_84 (by decide) ?_
              refine g_locals [3, 4, 5, 1, 0] [(0, .ref (a 0)), (1, .ref (b 0)), (2, .int w), (3, .int 1), (4, .int (nI (j + 1)))] rfl ?_
              exact ih_14 1 (j + 1) (c + 1) (sk B L q + 1) (addP vv c (bt B L (sk B L q) - 48)) (by omega) (by omega) (rr_lt hq c10) (mw_addP hVV (by omega)) (hs.trans (rr_y (by omega) (by assumption) c10 c14)) (by omega)
          · rw [if_neg c10] at h9
            subst h9
            show Go E Q 6 0 0 43 [(5, .int ((bt B L (sk B L q)) - 48)), (0, .ref (a 0)), (1, .ref (b 0)), (2, .int w), (3, .int mo), (4, .int (nI j))] [.int 0] (millW cI b vv ++ (tapeW cI a (tpS B L (sk B L q) (-1))))
            refine g_if_eq hE 59 dX3_readRow_43 (by decide) (fun c20 => ?_) (fun c20 => absurd (by decide) c20)
            refine g_iconst hE dX3_readRow_59 0 (by decide) ?_
            refine g_istore_n hE dX3_readRow_60 [(3, .int 0), (5, .int ((bt B L (sk B L q)) - 48)), (0, .ref (a 0)), (1, .ref (b 0)), (2, .int w), (4, .int (nI j))] rfl (by decide) rfl ?_
            refine g_iload_n hE dX3_readRow_61 0 rfl ?_
            refine g_if_eq hE 81 dX3_readRow_62 (by decide) (fun c21 => ?_) (fun c21 => absurd (by decide) c21)
            refine g_iinc hE dX3_readRow_81 5 (nI (j + 1)) [(4, .int (nI (j + 1))), (3, .int 0), (5, .int ((bt B L (sk B L q)) - 48)), (0, .ref (a 0)), (1, .ref (b 0)), (2, .int w)] rfl (nI_1 _) (by decide) rfl ?_
            refine g_goto hE 14 dX3_readRow_84 (by decide) ?_
            refine g_locals [3, 4, 5, 1, 0] [(0, .ref (a 0)), (1, .ref (b 0)), (2, .int w), (3, .int 0), (4, .int (nI (j + 1)))] rfl ?_
            exact ih_14 0 (j + 1) c (sk B L q) vv (by omega) (by omega) (sk_le hq) hVV (hs.trans (rr_n (by omega) (by assumption) (fun z => absurd z.1 c10))) (by omega)
  refine g_locals [2, 3, 4, 1, 0] [(0, .ref (a 0)), (1, .ref (b 0)), (2, .int w), (3, .int 1), (4, .int 0)] rfl ?_
  exact L14 _ 1 0 0 0 (pA v 9 (upd (v 9) 2 0)) (Nat.zero_le _) (Nat.zero_le _) (Nat.zero_le _) (mw_z2 hV) rfl (Nat.lt_succ_self _)
