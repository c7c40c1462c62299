/-! the loft's calls: meshes, torn -/
theorem EqM.bo {a b : MS} (h : EqM a b) (n pl : Nat) (T : Nat → Int32) (i : Int32) (g : Nat) : boB a n pl T i g = boB b n pl T i g := by
  have e : hpS a n (a 7) pl = hpS b n (b 7) pl := by
    funext p
    rw [h.hp, h.1 7 (by decide)]
  induction g with
  | zero => rfl
  | succ g ih => rw [boB, boB, ih, e]
theorem putv_2 (f : Nat → Int32) (n : Nat) (x v w : Int32) : putv (putv f n x v) n x w = putv f n x w := by
  unfold putv
  split
  · funext j
    unfold upd
    split <;> rfl
  · rfl
theorem putv_back (f : Nat → Int32) (n : Nat) (x v : Int32) : putv (putv f n x v) n x (atv f n x) = f := by
  rw [putv_2]
  unfold putv atv
  split
  · funext j
    unfold upd
    split
    · rename_i h; rw [h]
    · rfl
  · rfl
/-- a mill but for one sieve's mesh -/
def E4 (vv m : MS) (x : Int32) : Prop := (∀ f, f < 8 → f ≠ 4 → vv f = m f) ∧ (∀ v, putv (vv 4) 8 x v = putv (m 4) 8 x v) ∧ ∀ j, j < 4 → vv 9 j = m 9 j
theorem E4_tk {m v : MS} {x : Int32} : E4 (tkA v m) m x := ⟨fun f hf _ => EqM_tk.1 f hf, fun w => by rw [EqM_tk.1 4 (by decide)], EqM_tk.2⟩
theorem E4_put {vv m : MS} {x : Int32} (h : E4 vv m x) (v : Int32) : E4 (pA vv 4 (putv (vv 4) 8 x v)) m x := by
  refine ⟨fun f hf h4 => ?_, fun w => ?_, h.2.2⟩
  · have e : Nat.beq f 4 = false := by
      cases hq : Nat.beq f 4 with
      | false => rfl
      | true => exact absurd (Nat.eq_of_beq_eq_true hq) h4
    unfold pA
    rw [e]
    exact h.1 f hf h4
  · show putv (putv (vv 4) 8 x v) 8 x w = _
    rw [putv_2, h.2.1]
theorem E4_8 {vv m : MS} {x : Int32} {hh : Nat → Int32} (h : E4 vv m x) : E4 (pA vv 8 hh) m x := by
  refine ⟨fun f hf h4 => ?_, h.2.1, h.2.2⟩
  have e : Nat.beq f 8 = false := by
    cases hq : Nat.beq f 8 with
    | false => rfl
    | true => have := Nat.eq_of_beq_eq_true hq; omega
  unfold pA
  rw [e]
  exact h.1 f hf h4
theorem E4_eq {vv m : MS} {x : Int32} (h : E4 vv m x) (v : Int32) : EqM (pA vv 4 (putv (vv 4) 8 x v)) (pA m 4 (putv (m 4) 8 x v)) := by
  refine ⟨fun f hf => ?_, h.2.2⟩
  unfold pA
  cases e : Nat.beq f 4 with
  | true => exact h.2.1 v
  | false => exact h.1 f hf (fun q => by subst q; simp at e)
def msS (m : MS) (n pl : Nat) (T : Nat → Int32) (x i : Int32) : Nat → Int64
  | 0 => 0
  | j + 1 => if boB (pA m 4 (putv (m 4) 8 x (nI (j + 1)))) n pl T i n = true then msS m n pl T x i j ||| (1 <<< ((nI j).toInt64 &&& 63)) else msS m n pl T x i j
theorem ms_y {m vv : MS} {n pl j : Nat} {T : Nat → Int32} {x i : Int32} {z : Int64} (hE : E4 vv m x) (hz : z = msS m n pl T x i j) (h : boB (pA vv 4 (putv (vv 4) 8 x (nI (j + 1)))) n pl T i n = true) : z ||| (1 <<< ((nI (j + 1 - 1)).toInt64 &&& 63)) = msS m n pl T x i (j + 1) := by
  rw [(E4_eq hE (nI (j + 1))).bo] at h
  rw [msS, if_pos h, hz, Nat.add_sub_cancel]
theorem ms_n {m vv : MS} {n pl j : Nat} {T : Nat → Int32} {x i : Int32} {z : Int64} (hE : E4 vv m x) (hz : z = msS m n pl T x i j) (h : ¬ boB (pA vv 4 (putv (vv 4) 8 x (nI (j + 1)))) n pl T i n = true) : z = msS m n pl T x i (j + 1) := by
  rw [(E4_eq hE (nI (j + 1))).bo] at h
  rw [msS, if_neg h, hz]
def fMesh (m : MS) (n pl : Nat) (sh : SHS) (k : Nat) (x l i : Int32) : Int64 := if 0 ≤ x ∧ x < m 9 1 then (if k = 4 then -1 else if 0 ≤ l ∧ l ≤ 2 then (if inRb m x pl = true then (if atv (m 3) 8 x = 3 then -2 else if refS (sh k 1 0) (sh k 1 1) l i (m 9 0) = 0 then msS m n pl (sh k 0) x i 60 else (refS (sh k 1 0) (sh k 1 1) l i (m 9 0)).toInt64) else -2) else -1) else -1
def trS (m : MS) (n pl : Nat) (T : Nat → Int32) (i : Int32) : Nat → Int32
  | 0 => if boB m n pl T i n = true then 128 else 0
  | p + 1 => if boB (pA m 3 (putv (m 3) 8 (m 7 p) 3)) n pl T i n = true then trS m n pl T i p ||| ((1 : Int32) <<< (nI p &&& 31)) else trS m n pl T i p
theorem tr_eq {vv m : MS} {s : Int32} (h : EqM vv m) : EqM (pA vv 3 (putv (vv 3) 8 s 3)) (pA m 3 (putv (m 3) 8 s 3)) := by
  refine ⟨fun f hf => ?_, h.2⟩
  unfold pA
  cases e : Nat.beq f 3 with
  | true => rw [h.1 3 (by decide)]; rfl
  | false => exact h.1 f hf
theorem tr_y {m vv : MS} {n pl p : Nat} {T : Nat → Int32} {i y : Int32} (hE : EqM vv m) (hy : y = trS m n pl T i p) (h : boB (pA vv 3 (putv (vv 3) 8 (m 7 p) 3)) n pl T i n = true) : y ||| ((1 : Int32) <<< (nI p &&& 31)) = trS m n pl T i (p + 1) := by
  rw [(tr_eq hE).bo] at h
  rw [trS, if_pos h, hy]
theorem tr_n {m vv : MS} {n pl p : Nat} {T : Nat → Int32} {i y : Int32} (hE : EqM vv m) (hy : y = trS m n pl T i p) (h : ¬ boB (pA vv 3 (putv (vv 3) 8 (m 7 p) 3)) n pl T i n = true) : y = trS m n pl T i (p + 1) := by
  rw [(tr_eq hE).bo] at h
  rw [trS, if_neg h, hy]
theorem tr_E {m vv : MS} {s : Int32} {hh : Nat → Int32} (hE : EqM vv m) : EqM (pA (pA (pA vv 3 (putv (vv 3) 8 s 3)) 8 hh) 3 (putv (putv (vv 3) 8 s 3) 8 s (atv (vv 3) 8 s))) m := by
  refine ⟨fun f hf => ?_, hE.2⟩
  have e8 : Nat.beq f 8 = false := by
    cases hq : Nat.beq f 8 with
    | false => rfl
    | true => have := Nat.eq_of_beq_eq_true hq; omega
  unfold pA
  rw [e8]
  cases e : Nat.beq f 3 with
  | true =>
    rw [Nat.eq_of_beq_eq_true e, ← hE.1 3 (by decide)]
    exact putv_back _ _ _ _
  | false => exact hE.1 f hf
def fTorn (m : MS) (n pl : Nat) (sh : SHS) (k : Nat) (l i : Int32) : Int32 := if k = 4 then -1 else if 0 ≤ l ∧ l ≤ 2 then (if refS (sh k 1 0) (sh k 1 1) l i (m 9 0) = 0 then trS m n pl (sh k 0) i pl else refS (sh k 1 0) (sh k 1 1) l i (m 9 0)) else -1
set_option maxHeartbeats 4000000 in
set_option maxRecDepth 100000 in
theorem c_X4_meshes (cI cS : ClassId) (a : Nat → Nat) (m v w : Nat → Nat → Int32) (T C : Nat → Int32) (li ap va le : Int32) (B : Nat → Int32) (L P : Nat) (F : Int32) (sh : Nat → Nat → Nat → Int32) (kf : Int32) {n sv pl n1 sv1 pl1 n2 sv2 pl2 : Nat} (hM : MW m n sv pl) (hV : MW v n1 sv1 pl1) (hW : MW w n2 sv2 pl2) (hL : L ≤ 120) (x y l i : Int32) : CT cI cS yX4_meshes cX4_meshes 10 (some .long) 6 [.ref (a 0), .int x, .int y, .int l, .int i] (loftW cI cS a m v w (seS T C li ap va le) (tpS B L P F) sh kf) 0 0 (fun u : Nat × Int64 × (Nat → Nat → Int32) => SK u.1 y ∧ u.2.1 = fMesh m n pl sh u.1 x l i ∧ (MW u.2.2 n sv pl ∨ u.2.2 = v)) (fun u => some (.long u.2.1)) (fun u => (loftW cI cS a m u.2.2 w (seS T C li ap va le) (tpS B L P F) sh kf)) := by
  refine ct_intro (by decide) (Nat.le_of_ble_eq_true rfl) (fun E Q hE hQ hI => ?_)
  have hE : CxOk E cI cS RX4 cX4_meshes 10 (some .long) 6 0 0 := hE
  show Go E Q 10 0 0 0 [(0, .ref (a 0)), (1, .int x), (2, .int y), (3, .int l), (4, .int i)] [] (loftW cI cS a m v w (seS T C li ap va le) (tpS B L P F) sh kf)
  have hn := hM.1
  have hn6 := hM.2.1
  have hsv := hM.2.2.1
  have hsv8 := hM.2.2.2.1
  have hpl := hM.2.2.2.2.1
  have hpl6 := hM.2.2.2.2.2
  have hn1 := hV.1
  have hn16 := hV.2.1
  have hsv1 := hV.2.2.1
  have hsv18 := hV.2.2.2.1
  have hpl1 := hV.2.2.2.2.1
  have hpl16 := hV.2.2.2.2.2
  refine g_aload_n hE dX4_meshes_0 0 rfl ?_
  refine g_iload_n hE dX4_meshes_1 2 rfl ?_
  refine g_callV hE (c_X4_sheetAt cI cS a m v w T C li ap va le B L P F sh kf (by first | assumption | exact mw_of (by assumption)) (by first | assumption | exact mw_of (by assumption)) (by first | assumption | exact mw_of (by assumption)) hL y) mk_X4_sheetAt mv_X4_sheetAt ml_X4_221 dX4_meshes_2 (As := [.int y]) (rest := []) rfl rfl 0 rfl (show vwCl[4]? = some (RX4, TX4, 7) from rfl) (by decide) (by decide) (Nat.le_of_ble_eq_true rfl) (by decide) (by decide) [0, 1, 2, 3, 4, 5, 6, 7, 8, 9, 10, 11, 12, 13, 14, 15, 16, 17, 18, 19, 20, 21, 22, 23, 24, 25, 26, 27, 28, 29, 30, 31, 32, 33, 34, 35, 36, 37, 38, 39, 40, 41, 42, 43, 44] rfl (by decide) (fun u => Nat.le_of_ble_eq_true rfl) (ws' := fun u => loftW cI cS a m v w (seS T C li ap va le) (tpS B L P F) sh kf) (fun u => rfl) (fun u hu => ?_)
  obtain ⟨k_1, rfl⟩ : ∃ z, z = u := ⟨_, rfl⟩
  have h2 : SK k_1 y := hu
  rcases (show k_1 = 0 ∨ k_1 = 1 ∨ k_1 = 2 ∨ k_1 = 3 ∨ k_1 = 4 by rcases h2 with q | q <;> omega) with rfl | rfl | rfl | rfl | rfl
  · show Go E Q 10 0 0 5 [(0, .ref (a 0)), (1, .int x), (2, .int y), (3, .int l), (4, .int i)] [.ref (a 37)] (loftW cI cS a m v w (seS T C li ap va le) (tpS B L P F) sh kf)
    refine g_astore hE dX4_meshes_5 [(5, .ref (a 37)), (0, .ref (a 0)), (1, .int x), (2, .int y), (3, .int l), (4, .int i)] (by decide) rfl ?_
    refine g_aload_n hE dX4_meshes_7 1 rfl ?_
    refine g_get hE fl_X4_10 dX4_meshes_8 0 rfl rfl ?_
    refine g_iload_n hE dX4_meshes_11 2 rfl ?_
    refine g_callV hE (c_X0_hasSieve cI cS (fun i => a (i + 1)) m (by first | assumption | exact mw_of (by assumption)) x) mk_X0_hasSieve mv_X0_hasSieve ml_X4_85 dX4_meshes_12 (As := [.int x]) (rest := []) rfl rfl 1 rfl (show vwCl[0]? = some (RX0, TX0, 13) from rfl) (by decide) (by decide) (Nat.le_of_ble_eq_true rfl) (by decide) (by decide) [1, 2, 3, 4, 5, 6, 7, 8, 9, 10] rfl (by decide) (fun u => Nat.le_of_ble_eq_true rfl) (ws' := fun u => loftW cI cS a m v w (seS T C li ap va le) (tpS B L P F) sh kf) (fun u => rfl) (fun u hu => ?_)
    obtain ⟨r_3, rfl⟩ : ∃ z, z = u := ⟨_, rfl⟩
    have h4 : r_3 = if 0 ≤ x ∧ x < m 9 1 then 1 else 0 := hu
    by_cases c5 : 0 ≤ x ∧ x < m 9 1
    · rw [if_pos c5] at h4
      subst h4
      show Go E Q 10 0 0 15 [(5, .ref (a 37)), (0, .ref (a 0)), (1, .int x), (2, .int y), (3, .int l), (4, .int i)] [.int 1] (loftW cI cS a m v w (seS T C li ap va le) (tpS B L P F) sh kf)
      refine g_if_eq hE 30 dX4_meshes_15 (by decide) (fun c6 => absurd c6 (by decide)) (fun c6 => ?_)
      refine g_aload hE dX4_meshes_18 0 rfl ?_
      refine g_ifnull hE dX4_meshes_20 ?_
      refine g_iload_n hE dX4_meshes_23 4 rfl ?_
      refine g_callS hE (c_X4_isLane cI cS l) mk_X4_isLane st_X4_isLane ml_X4_225 dX4_meshes_24 (As := [.int l]) (rest := []) rfl rfl (by decide) (by decide) (Nat.le_of_ble_eq_true rfl) (by decide) (by decide) [] rfl (by decide) (fun u => Nat.le_of_ble_eq_true rfl) (ws' := fun u => loftW cI cS a m v w (seS T C li ap va le) (tpS B L P F) sh kf) (fun u => rfl) (fun u hu => ?_)
      obtain ⟨r_7, rfl⟩ : ∃ z, z = u := ⟨_, rfl⟩
      have h8 : r_7 = if 0 ≤ l ∧ l ≤ 2 then 1 else 0 := hu
      by_cases c9 : 0 ≤ l ∧ l ≤ 2
      · rw [if_pos c9] at h8
        subst h8
        show Go E Q 10 0 0 27 [(5, .ref (a 37)), (0, .ref (a 0)), (1, .int x), (2, .int y), (3, .int l), (4, .int i)] [.int 1] (loftW cI cS a m v w (seS T C li ap va le) (tpS B L P F) sh kf)
        refine g_if_ne hE 34 dX4_meshes_27 (by decide) (fun c10 => ?_) (fun c10 => absurd c10 (by decide))
        refine g_aload_n hE dX4_meshes_34 1 rfl ?_
        refine g_get hE fl_X4_10 dX4_meshes_35 0 rfl rfl ?_
        refine g_iload_n hE dX4_meshes_38 2 rfl ?_
        refine g_callV hE (c_X0_isInRow cI cS (fun i => a (i + 1)) m (by first | assumption | exact mw_of (by assumption)) x) mk_X0_isInRow mv_X0_isInRow ml_X4_228 dX4_meshes_39 (As := [.int x]) (rest := []) rfl rfl 1 rfl (show vwCl[0]? = some (RX0, TX0, 13) from rfl) (by decide) (by decide) (Nat.le_of_ble_eq_true rfl) (by decide) (by decide) [1, 2, 3, 4, 5, 6, 7, 8, 9, 10] rfl (by decide) (fun u => Nat.le_of_ble_eq_true rfl) (ws' := fun u => loftW cI cS a m v w (seS T C li ap va le) (tpS B L P F) sh kf) (fun u => rfl) (fun u hu => ?_)
        obtain ⟨r_11, rfl⟩ : ∃ z, z = u := ⟨_, rfl⟩
        have h12 : r_11 = if inRb m x pl = true then 1 else 0 := hu
        by_cases c13 : inRb m x pl = true
        · rw [if_pos c13] at h12
          subst h12
          show Go E Q 10 0 0 42 [(5, .ref (a 37)), (0, .ref (a 0)), (1, .int x), (2, .int y), (3, .int l), (4, .int i)] [.int 1] (loftW cI cS a m v w (seS T C li ap va le) (tpS B L P F) sh kf)
          refine g_if_eq hE 60 dX4_meshes_42 (by decide) (fun c14 => absurd c14 (by decide)) (fun c14 => ?_)
          refine g_aload_n hE dX4_meshes_45 1 rfl ?_
          refine g_get hE fl_X4_10 dX4_meshes_46 0 rfl rfl ?_
          refine g_get hE fl_X4_88 dX4_meshes_49 1 rfl rfl ?_
          refine g_iload_n hE dX4_meshes_52 2 rfl ?_
          refine g_callS hE (c_X4_at cI cS (a 5) 8 (m 3) x (by decide)) mk_X4_at st_X4_at ml_X4_91 dX4_meshes_53 (As := [.ref (a 5), .int x]) (rest := []) rfl rfl (by decide) (by decide) (Nat.le_of_ble_eq_true rfl) (by decide) (by decide) [5] rfl (by decide) (fun u => Nat.le_of_ble_eq_true rfl) (ws' := fun u => loftW cI cS a m v w (seS T C li ap va le) (tpS B L P F) sh kf) (fun u => rfl) (fun u hu => ?_)
          obtain ⟨r_15, rfl⟩ : ∃ z, z = u := ⟨_, rfl⟩
          have h16 : r_15 = (atv (m 3) 8 x) := hu
          subst h16
          show Go E Q 10 0 0 56 [(5, .ref (a 37)), (0, .ref (a 0)), (1, .int x), (2, .int y), (3, .int l), (4, .int i)] [.int (atv (m 3) 8 x)] (loftW cI cS a m v w (seS T C li ap va le) (tpS B L P F) sh kf)
          refine g_iconst hE dX4_meshes_56 3 (by decide) ?_
          refine g_icmp_ne hE 64 dX4_meshes_57 (by decide) (fun c17 => ?_) (fun c17 => ?_)
          · refine g_aload hE dX4_meshes_64 0 rfl ?_
            refine g_iload_n hE dX4_meshes_66 4 rfl ?_
            refine g_iload hE dX4_meshes_67 5 rfl ?_
            refine g_aload_n hE dX4_meshes_69 1 rfl ?_
            refine g_get hE fl_X4_10 dX4_meshes_70 0 rfl rfl ?_
            refine g_get hE fl_X4_51 dX4_meshes_73 1 rfl rfl ?_
            refine g_callV hE (c_X2_refusal cI cS (fun i => a (i + 37)) (sh 0 0) (sh 0 1 0) (sh 0 1 1) l i (m 9 0)) mk_X2_refusal mv_X2_refusal ml_X4_233 dX4_meshes_76 (As := [.int l, .int i, .int (m 9 0)]) (rest := []) rfl rfl 37 rfl (show vwCl[2]? = some (RX2, TX2, 3) from rfl) (by decide) (by decide) (Nat.le_of_ble_eq_true rfl) (by decide) (by decide) [37, 38] rfl (by decide) (fun u => Nat.le_of_ble_eq_true rfl) (ws' := fun u => loftW cI cS a m v w (seS T C li ap va le) (tpS B L P F) sh kf) (fun u => rfl) (fun u hu => ?_)
            obtain ⟨r_18, rfl⟩ : ∃ z, z = u := ⟨_, rfl⟩
            have h19 : r_18 = (refS (sh 0 1 0) (sh 0 1 1) l i (m 9 0)) := hu
            subst h19
            show Go E Q 10 0 0 79 [(5, .ref (a 37)), (0, .ref (a 0)), (1, .int x), (2, .int y), (3, .int l), (4, .int i)] [.int (refS (sh 0 1 0) (sh 0 1 1) l i (m 9 0))] (loftW cI cS a m v w (seS T C li ap va le) (tpS B L P F) sh kf)
            refine g_istore hE dX4_meshes_79 [(6, .int (refS (sh 0 1 0) (sh 0 1 1) l i (m 9 0))), (5, .ref (a 37)), (0, .ref (a 0)), (1, .int x), (2, .int y), (3, .int l), (4, .int i)] (by decide) rfl ?_
            refine g_iload hE dX4_meshes_81 0 rfl ?_
            refine g_if_eq hE 90 dX4_meshes_83 (by decide) (fun c20 => ?_) (fun c20 => ?_)
            · refine g_aload_n hE dX4_meshes_90 2 rfl ?_
              refine g_get hE fl_X4_16 dX4_meshes_91 0 rfl rfl ?_
              refine g_aload_n hE dX4_meshes_94 2 rfl ?_
              refine g_get hE fl_X4_10 dX4_meshes_95 0 rfl rfl ?_
              refine g_callV hE (c_X0_takeAll_s cI cS (fun i => a (i + 11)) (fun i => a (i + 1)) v m) mk_X0_takeAll mv_X0_takeAll ml_X4_187 dX4_meshes_98 (As := [.ref (a 1)]) (rest := []) rfl rfl 11 rfl (show vwCl[0]? = some (RX0, TX0, 13) from rfl) (by decide) (by decide) (Nat.le_of_ble_eq_true rfl) (by decide) (by decide) [1, 2, 3, 4, 5, 6, 7, 8, 9, 10, 11, 12, 13, 14, 15, 16, 17, 18, 19, 20] rfl (by decide) (fun u => Nat.le_of_ble_eq_true rfl) (ws' := fun u => loftW cI cS a m (tkA v m) w (seS T C li ap va le) (tpS B L P F) sh kf) (fun u => rfl) (fun u hu => ?_)
              show Go E Q 10 0 0 101 [(6, .int (refS (sh 0 1 0) (sh 0 1 1) l i (m 9 0))), (5, .ref (a 37)), (0, .ref (a 0)), (1, .int x), (2, .int y), (3, .int l), (4, .int i)] [] (loftW cI cS a m (tkA v m) w (seS T C li ap va le) (tpS B L P F) sh kf)
              refine g_lconst hE dX4_meshes_101 0 (by decide) ?_
              refine g_lstore hE dX4_meshes_102 [(7, .long 0), (6, .int (refS (sh 0 1 0) (sh 0 1 1) l i (m 9 0))), (5, .ref (a 37)), (0, .ref (a 0)), (1, .int x), (2, .int y), (3, .int l), (4, .int i)] (by decide) rfl ?_
              refine g_iconst hE dX4_meshes_104 1 (by decide) ?_
              refine g_istore hE dX4_meshes_105 [(9, .int 1), (7, .long 0), (6, .int (refS (sh 0 1 0) (sh 0 1 1) l i (m 9 0))), (5, .ref (a 37)), (0, .ref (a 0)), (1, .int x), (2, .int y), (3, .int l), (4, .int i)] (by decide) rfl ?_
              have L107 : ∀ (n_107 : Nat) (j : Nat) (z : Int64) (vv : Nat → Nat → Int32), (j ≤ 60) → (z = msS m n pl (sh 0 0) x i j) → (MW vv n sv pl) → (E4 vv m x) → (60 - j < n_107) → Go E Q 10 0 0 107 [(0, .ref (a 0)), (1, .int x), (2, .int y), (3, .int l), (4, .int i), (5, .ref (a 37)), (7, .long z), (9, .int (nI (j + 1)))] [] (loftW cI cS a m vv w (seS T C li ap va le) (tpS B L P F) sh kf) := by
                intro n_107
                induction n_107 with
                | zero => intro j z vv hj hz hVV hE4 hm_107; exact absurd hm_107 (Nat.not_lt_zero _)
                | succ n_107 ih_107 =>
                  intro j z vv hj hz hVV hE4 hm_107
                  refine g_iload hE dX4_meshes_107 7 rfl ?_
                  refine g_bipush hE dX4_meshes_109 60 (by decide) ?_
                  refine g_icmp_gt hE 158 dX4_meshes_111 (by decide) (fun c22 => ?_) (fun c22 => ?_)
                  · have kc22 := nat_lt_t (show 60 = nI 60 from rfl) (show (nI (j + 1)) = nI (j + 1) from rfl) (by omega) (by omega) c22
                    refine g_lload hE dX4_meshes_158 6 rfl ?_
                    exact g_lret hE hQ dX4_meshes_160 (0, z, vv) rfl rfl ⟨h2, (by have e : 60 = j := (by omega); rw [hz, ← e]; show msS m n pl (sh 0 0) x i 60 = fMesh m n pl sh 0 x l i; simp only [fMesh, if_pos c5, if_neg (show ¬ (0 : Nat) = 4 by decide), if_pos c9, if_pos c13, if_neg (show ¬ (atv (m 3) 8 x) = 3 from c17), if_pos (show (refS (sh 0 1 0) (sh 0 1 1) l i (m 9 0)) = 0 from c20), if_pos trivial]), Or.inl hVV⟩
                  · have kc22 := nat_lt_f (show 60 = nI 60 from rfl) (show (nI (j + 1)) = nI (j + 1) from rfl) (by omega) (by omega) c22
                    refine g_aload_n hE dX4_meshes_114 0 rfl ?_
                    refine g_get hE fl_X4_16 dX4_meshes_115 0 rfl rfl ?_
                    refine g_get hE fl_X4_95 dX4_meshes_118 11 rfl rfl ?_
                    refine g_iload_n hE dX4_meshes_121 1 rfl ?_
                    refine g_iload hE dX4_meshes_122 7 rfl ?_
                    refine g_callS hE (c_X4_put cI cS (a 16) 8 (vv 4) x (nI (j + 1)) (by decide)) mk_X4_put st_X4_put ml_X4_236 dX4_meshes_124 (As := [.ref (a 16), .int x, .int (nI (j + 1))]) (rest := []) rfl rfl (by decide) (by decide) (Nat.le_of_ble_eq_true rfl) (by decide) (by decide) [16] rfl (by decide) (fun u => Nat.le_of_ble_eq_true rfl) (ws' := fun u => loftW cI cS a m (pA vv 4 u) w (seS T C li ap va le) (tpS B L P F) sh kf) (fun u => rfl) (fun u hu => ?_)
                    obtain ⟨f_23, rfl⟩ : ∃ z, z = u := ⟨_, rfl⟩
                    have h24 : f_23 = putv (vv 4) 8 x (nI (j + 1)) := hu
                    have h25 : f_23 = (putv (vv 4) 8 x (nI (j + 1))) := h24
                    subst h25
                    show Go E Q 10 0 0 127 [(0, .ref (a 0)), (1, .int x), (2, .int y), (3, .int l), (4, .int i), (5, .ref (a 37)), (7, .long z), (9, .int (nI (j + 1)))] [] (loftW cI cS a m (pA vv 4 (putv (vv 4) 8 x (nI (j + 1)))) w (seS T C li ap va le) (tpS B L P F) sh kf)
                    refine g_aload_n hE dX4_meshes_127 0 rfl ?_
                    refine g_get hE fl_X4_16 dX4_meshes_128 0 rfl rfl ?_
                    refine g_aload hE dX4_meshes_131 5 rfl ?_
                    refine g_iload hE dX4_meshes_133 4 rfl ?_
                    refine g_callS hE (c_X4_bearsOut cI cS (fun i => a (i + 11)) (fun i => a (i + 37)) (pA vv 4 (putv (vv 4) 8 x (nI (j + 1)))) (by first | assumption | exact mw_of (by assumption)) (sh 0 0) (sh 0 1 0) (sh 0 1 1) i) mk_X4_bearsOut st_X4_bearsOut ml_X4_240 dX4_meshes_135 (As := [.ref (a 11), .ref (a 37), .int i]) (rest := []) rfl rfl (by decide) (by decide) (Nat.le_of_ble_eq_true rfl) (by decide) (by decide) [11, 12, 13, 14, 15, 16, 17, 18, 19, 20, 37, 38] rfl (by decide) (fun u => Nat.le_of_ble_eq_true rfl) (ws' := fun u => loftW cI cS a m (pA (pA vv 4 (putv (vv 4) 8 x (nI (j + 1)))) 8 u.2) w (seS T C li ap va le) (tpS B L P F) sh kf) (fun u => rfl) (fun u hu => ?_)
                    obtain ⟨r_26, h_27⟩ := u
                    have h28 : r_26 = if boB (pA vv 4 (putv (vv 4) 8 x (nI (j + 1)))) n pl (sh 0 0) i n = true then 1 else 0 := hu
                    by_cases c29 : boB (pA vv 4 (putv (vv 4) 8 x (nI (j + 1)))) n pl (sh 0 0) i n = true
                    · rw [if_pos c29] at h28
                      subst h28
                      show Go E Q 10 0 0 138 [(0, .ref (a 0)), (1, .int x), (2, .int y), (3, .int l), (4, .int i), (5, .ref (a 37)), (7, .long z), (9, .int (nI (j + 1)))] [.int 1] (loftW cI cS a m (pA (pA vv 4 (putv (vv 4) 8 x (nI (j + 1)))) 8 h_27) w (seS T C li ap va le) (tpS B L P F) sh kf)
                      refine g_if_eq hE 152 dX4_meshes_138 (by decide) (fun c30 => absurd c30 (by decide)) (fun c30 => ?_)
                      refine g_lload hE dX4_meshes_141 6 rfl ?_
                      refine g_lconst hE dX4_meshes_143 1 (by decide) ?_
                      refine g_iload hE dX4_meshes_144 7 rfl ?_
                      refine g_iconst hE dX4_meshes_146 1 (by decide) ?_
                      refine g_isub_n hE dX4_meshes_147 (show (nI (j + 1)) = nI (j + 1) from rfl) (show 1 = nI 1 from rfl) (by omega) ?_
                      refine g_lshl hE dX4_meshes_148 ?_
                      refine g_lor hE dX4_meshes_149 ?_
                      refine g_lstore hE dX4_meshes_150 [(7, .long (z ||| (1 <<< (Int32.toInt64 (nI ((j + 1) - 1)) &&& 63)))), (0, .ref (a 0)), (1, .int x), (2, .int y), (3, .int l), (4, .int i), (5, .ref (a 37)), (9, .int (nI (j + 1)))] (by decide) rfl ?_
                      refine g_iinc hE dX4_meshes_152 7 (nI ((j + 1) + 1)) [(9, .int (nI ((j + 1) + 1))), (7, .long (z ||| (1 <<< (Int32.toInt64 (nI ((j + 1) - 1)) &&& 63)))), (0, .ref (a 0)), (1, .int x), (2, .int y), (3, .int l), (4, .int i), (5, .ref (a 37))] rfl (nI_1 _) (by decide) rfl ?_
                      refine g_goto hE 107 dX4_meshes_155 (by decide) ?_
                      refine g_locals [2, 3, 4, 5, 6, 7, 1, 0] [(0, .ref (a 0)), (1, .int x), (2, .int y), (3, .int l), (4, .int i), (5, .ref (a 37)), (7, .long (z ||| (1 <<< (Int32.toInt64 (nI ((j + 1) - 1)) &&& 63)))), (9, .int (nI ((j + 1) + 1)))] rfl ?_
                      exact ih_107 (j + 1) (z ||| (1 <<< (Int32.toInt64 (nI ((j + 1) - 1)) &&& 63))) (pA (pA vv 4 (putv (vv 4) 8 x (nI (j + 1)))) 8 h_27) (by first | assumption | omega) (ms_y hE4 hz c29) (shM_pA (h2 := h_27) (show MW (pA vv 4 (putv (vv 4) 8 x (nI (j + 1)))) n sv pl from hVV)) (E4_8 (E4_put hE4 _)) (by omega)
                    · rw [if_neg c29] at h28
                      subst h28
                      show Go E Q 10 0 0 138 [(0, .ref (a 0)), (1, .int x), (2, .int y), (3, .int l), (4, .int i), (5, .ref (a 37)), (7, .long z), (9, .int (nI (j + 1)))] [.int 0] (loftW cI cS a m (pA (pA vv 4 (putv (vv 4) 8 x (nI (j + 1)))) 8 h_27) w (seS T C li ap va le) (tpS B L P F) sh kf)
                      refine g_if_eq hE 152 dX4_meshes_138 (by decide) (fun c31 => ?_) (fun c31 => absurd (by decide) c31)
                      refine g_iinc hE dX4_meshes_152 7 (nI ((j + 1) + 1)) [(9, .int (nI ((j + 1) + 1))), (0, .ref (a 0)), (1, .int x), (2, .int y), (3, .int l), (4, .int i), (5, .ref (a 37)), (7, .long z)] rfl (nI_1 _) (by decide) rfl ?_
                      refine g_goto hE 107 dX4_meshes_155 (by decide) ?_
                      refine g_locals [1, 2, 3, 4, 5, 6, 7, 0] [(0, .ref (a 0)), (1, .int x), (2, .int y), (3, .int l), (4, .int i), (5, .ref (a 37)), (7, .long z), (9, .int (nI ((j + 1) + 1)))] rfl ?_
                      exact ih_107 (j + 1) z (pA (pA vv 4 (putv (vv 4) 8 x (nI (j + 1)))) 8 h_27) (by first | assumption | omega) (ms_n hE4 hz c29) (shM_pA (h2 := h_27) (show MW (pA vv 4 (putv (vv 4) 8 x (nI (j + 1)))) n sv pl from hVV)) (E4_8 (E4_put hE4 _)) (by omega)
              refine g_locals [4, 5, 6, 7, 8, 3, 1, 0] [(0, .ref (a 0)), (1, .int x), (2, .int y), (3, .int l), (4, .int i), (5, .ref (a 37)), (7, .long 0), (9, .int 1)] rfl ?_
              exact L107 _ 0 0 (tkA v m) (Nat.zero_le _) rfl (MW_tk hM) E4_tk (Nat.lt_succ_self _)
            · refine g_iload hE dX4_meshes_86 0 rfl ?_
              refine g_i2l hE dX4_meshes_88 ?_
              exact g_lret hE hQ dX4_meshes_89 (0, (Int32.toInt64 (refS (sh 0 1 0) (sh 0 1 1) l i (m 9 0))), v) rfl rfl ⟨h2, (by show (Int32.toInt64 (refS (sh 0 1 0) (sh 0 1 1) l i (m 9 0))) = fMesh m n pl sh 0 x l i; simp only [fMesh, if_pos c5, if_neg (show ¬ (0 : Nat) = 4 by decide), if_pos c9, if_pos c13, if_neg (show ¬ (atv (m 3) 8 x) = 3 from c17), if_neg (show ¬ (refS (sh 0 1 0) (sh 0 1 1) l i (m 9 0)) = 0 from c20), if_pos trivial]), Or.inr rfl⟩
          · refine g_ldc2 hE dX4_meshes_60 cl_X4_231 ?_
            exact g_lret hE hQ dX4_meshes_63 (0, (-2), v) rfl rfl ⟨h2, (by show (-2) = fMesh m n pl sh 0 x l i; simp only [fMesh, if_pos c5, if_neg (show ¬ (0 : Nat) = 4 by decide), if_pos c9, if_pos c13, if_pos (show (atv (m 3) 8 x) = 3 from c17), if_pos trivial]), Or.inr rfl⟩
        · rw [if_neg c13] at h12
          subst h12
          show Go E Q 10 0 0 42 [(5, .ref (a 37)), (0, .ref (a 0)), (1, .int x), (2, .int y), (3, .int l), (4, .int i)] [.int 0] (loftW cI cS a m v w (seS T C li ap va le) (tpS B L P F) sh kf)
          refine g_if_eq hE 60 dX4_meshes_42 (by decide) (fun c32 => ?_) (fun c32 => absurd (by decide) c32)
          refine g_ldc2 hE dX4_meshes_60 cl_X4_231 ?_
          exact g_lret hE hQ dX4_meshes_63 (0, (-2), v) rfl rfl ⟨h2, (by show (-2) = fMesh m n pl sh 0 x l i; simp only [fMesh, if_pos c5, if_neg (show ¬ (0 : Nat) = 4 by decide), if_pos c9, if_neg c13, if_pos trivial]), Or.inr rfl⟩
      · rw [if_neg c9] at h8
        subst h8
        show Go E Q 10 0 0 27 [(5, .ref (a 37)), (0, .ref (a 0)), (1, .int x), (2, .int y), (3, .int l), (4, .int i)] [.int 0] (loftW cI cS a m v w (seS T C li ap va le) (tpS B L P F) sh kf)
        refine g_if_ne hE 34 dX4_meshes_27 (by decide) (fun c33 => absurd (by decide) c33) (fun c33 => ?_)
        refine g_ldc2 hE dX4_meshes_30 cl_X4_215 ?_
        exact g_lret hE hQ dX4_meshes_33 (0, (-1), v) rfl rfl ⟨h2, (by show (-1) = fMesh m n pl sh 0 x l i; simp only [fMesh, if_pos c5, if_neg (show ¬ (0 : Nat) = 4 by decide), if_neg c9, if_pos trivial]), Or.inr rfl⟩
    · rw [if_neg c5] at h4
      subst h4
      show Go E Q 10 0 0 15 [(5, .ref (a 37)), (0, .ref (a 0)), (1, .int x), (2, .int y), (3, .int l), (4, .int i)] [.int 0] (loftW cI cS a m v w (seS T C li ap va le) (tpS B L P F) sh kf)
      refine g_if_eq hE 30 dX4_meshes_15 (by decide) (fun c34 => ?_) (fun c34 => absurd (by decide) c34)
      refine g_ldc2 hE dX4_meshes_30 cl_X4_215 ?_
      exact g_lret hE hQ dX4_meshes_33 (0, (-1), v) rfl rfl ⟨h2, (by show (-1) = fMesh m n pl sh 0 x l i; simp only [fMesh, if_neg c5, if_pos trivial]), Or.inr rfl⟩
  · show Go E Q 10 0 0 5 [(0, .ref (a 0)), (1, .int x), (2, .int y), (3, .int l), (4, .int i)] [.ref (a 39)] (loftW cI cS a m v w (seS T C li ap va le) (tpS B L P F) sh kf)
    refine g_astore hE dX4_meshes_5 [(5, .ref (a 39)), (0, .ref (a 0)), (1, .int x), (2, .int y), (3, .int l), (4, .int i)] (by decide) rfl ?_
    refine g_aload_n hE dX4_meshes_7 1 rfl ?_
    refine g_get hE fl_X4_10 dX4_meshes_8 0 rfl rfl ?_
    refine g_iload_n hE dX4_meshes_11 2 rfl ?_
    refine g_callV hE (c_X0_hasSieve cI cS (fun i => a (i + 1)) m (by first | assumption | exact mw_of (by assumption)) x) mk_X0_hasSieve mv_X0_hasSieve ml_X4_85 dX4_meshes_12 (As := [.int x]) (rest := []) rfl rfl 1 rfl (show vwCl[0]? = some (RX0, TX0, 13) from rfl) (by decide) (by decide) (Nat.le_of_ble_eq_true rfl) (by decide) (by decide) [1, 2, 3, 4, 5, 6, 7, 8, 9, 10] rfl (by decide) (fun u => Nat.le_of_ble_eq_true rfl) (ws' := fun u => loftW cI cS a m v w (seS T C li ap va le) (tpS B L P F) sh kf) (fun u => rfl) (fun u hu => ?_)
    obtain ⟨r_35, rfl⟩ : ∃ z, z = u := ⟨_, rfl⟩
    have h36 : r_35 = if 0 ≤ x ∧ x < m 9 1 then 1 else 0 := hu
    by_cases c37 : 0 ≤ x ∧ x < m 9 1
    · rw [if_pos c37] at h36
      subst h36
      show Go E Q 10 0 0 15 [(5, .ref (a 39)), (0, .ref (a 0)), (1, .int x), (2, .int y), (3, .int l), (4, .int i)] [.int 1] (loftW cI cS a m v w (seS T C li ap va le) (tpS B L P F) sh kf)
      refine g_if_eq hE 30 dX4_meshes_15 (by decide) (fun c38 => absurd c38 (by decide)) (fun c38 => ?_)
      refine g_aload hE dX4_meshes_18 0 rfl ?_
      refine g_ifnull hE dX4_meshes_20 ?_
      refine g_iload_n hE dX4_meshes_23 4 rfl ?_
      refine g_callS hE (c_X4_isLane cI cS l) mk_X4_isLane st_X4_isLane ml_X4_225 dX4_meshes_24 (As := [.int l]) (rest := []) rfl rfl (by decide) (by decide) (Nat.le_of_ble_eq_true rfl) (by decide) (by decide) [] rfl (by decide) (fun u => Nat.le_of_ble_eq_true rfl) (ws' := fun u => loftW cI cS a m v w (seS T C li ap va le) (tpS B L P F) sh kf) (fun u => rfl) (fun u hu => ?_)
      obtain ⟨r_39, rfl⟩ : ∃ z, z = u := ⟨_, rfl⟩
      have h40 : r_39 = if 0 ≤ l ∧ l ≤ 2 then 1 else 0 := hu
      by_cases c41 : 0 ≤ l ∧ l ≤ 2
      · rw [if_pos c41] at h40
        subst h40
        show Go E Q 10 0 0 27 [(5, .ref (a 39)), (0, .ref (a 0)), (1, .int x), (2, .int y), (3, .int l), (4, .int i)] [.int 1] (loftW cI cS a m v w (seS T C li ap va le) (tpS B L P F) sh kf)
        refine g_if_ne hE 34 dX4_meshes_27 (by decide) (fun c42 => ?_) (fun c42 => absurd c42 (by decide))
        refine g_aload_n hE dX4_meshes_34 1 rfl ?_
        refine g_get hE fl_X4_10 dX4_meshes_35 0 rfl rfl ?_
        refine g_iload_n hE dX4_meshes_38 2 rfl ?_
        refine g_callV hE (c_X0_isInRow cI cS (fun i => a (i + 1)) m (by first | assumption | exact mw_of (by assumption)) x) mk_X0_isInRow mv_X0_isInRow ml_X4_228 dX4_meshes_39 (As := [.int x]) (rest := []) rfl rfl 1 rfl (show vwCl[0]? = some (RX0, TX0, 13) from rfl) (by decide) (by decide) (Nat.le_of_ble_eq_true rfl) (by decide) (by decide) [1, 2, 3, 4, 5, 6, 7, 8, 9, 10] rfl (by decide) (fun u => Nat.le_of_ble_eq_true rfl) (ws' := fun u => loftW cI cS a m v w (seS T C li ap va le) (tpS B L P F) sh kf) (fun u => rfl) (fun u hu => ?_)
        obtain ⟨r_43, rfl⟩ : ∃ z, z = u := ⟨_, rfl⟩
        have h44 : r_43 = if inRb m x pl = true then 1 else 0 := hu
        by_cases c45 : inRb m x pl = true
        · rw [if_pos c45] at h44
          subst h44
          show Go E Q 10 0 0 42 [(5, .ref (a 39)), (0, .ref (a 0)), (1, .int x), (2, .int y), (3, .int l), (4, .int i)] [.int 1] (loftW cI cS a m v w (seS T C li ap va le) (tpS B L P F) sh kf)
          refine g_if_eq hE 60 dX4_meshes_42 (by decide) (fun c46 => absurd c46 (by decide)) (fun c46 => ?_)
          refine g_aload_n hE dX4_meshes_45 1 rfl ?_
          refine g_get hE fl_X4_10 dX4_meshes_46 0 rfl rfl ?_
          refine g_get hE fl_X4_88 dX4_meshes_49 1 rfl rfl ?_
          refine g_iload_n hE dX4_meshes_52 2 rfl ?_
          refine g_callS hE (c_X4_at cI cS (a 5) 8 (m 3) x (by decide)) mk_X4_at st_X4_at ml_X4_91 dX4_meshes_53 (As := [.ref (a 5), .int x]) (rest := []) rfl rfl (by decide) (by decide) (Nat.le_of_ble_eq_true rfl) (by decide) (by decide) [5] rfl (by decide) (fun u => Nat.le_of_ble_eq_true rfl) (ws' := fun u => loftW cI cS a m v w (seS T C li ap va le) (tpS B L P F) sh kf) (fun u => rfl) (fun u hu => ?_)
          obtain ⟨r_47, rfl⟩ : ∃ z, z = u := ⟨_, rfl⟩
          have h48 : r_47 = (atv (m 3) 8 x) := hu
          subst h48
          show Go E Q 10 0 0 56 [(5, .ref (a 39)), (0, .ref (a 0)), (1, .int x), (2, .int y), (3, .int l), (4, .int i)] [.int (atv (m 3) 8 x)] (loftW cI cS a m v w (seS T C li ap va le) (tpS B L P F) sh kf)
          refine g_iconst hE dX4_meshes_56 3 (by decide) ?_
          refine g_icmp_ne hE 64 dX4_meshes_57 (by decide) (fun c49 => ?_) (fun c49 => ?_)
          · refine g_aload hE dX4_meshes_64 0 rfl ?_
            refine g_iload_n hE dX4_meshes_66 4 rfl ?_
            refine g_iload hE dX4_meshes_67 5 rfl ?_
            refine g_aload_n hE dX4_meshes_69 1 rfl ?_
            refine g_get hE fl_X4_10 dX4_meshes_70 0 rfl rfl ?_
            refine g_get hE fl_X4_51 dX4_meshes_73 1 rfl rfl ?_
            refine g_callV hE (c_X2_refusal cI cS (fun i => a (i + 39)) (sh 1 0) (sh 1 1 0) (sh 1 1 1) l i (m 9 0)) mk_X2_refusal mv_X2_refusal ml_X4_233 dX4_meshes_76 (As := [.int l, .int i, .int (m 9 0)]) (rest := []) rfl rfl 39 rfl (show vwCl[2]? = some (RX2, TX2, 3) from rfl) (by decide) (by decide) (Nat.le_of_ble_eq_true rfl) (by decide) (by decide) [39, 40] rfl (by decide) (fun u => Nat.le_of_ble_eq_true rfl) (ws' := fun u => loftW cI cS a m v w (seS T C li ap va le) (tpS B L P F) sh kf) (fun u => rfl) (fun u hu => ?_)
            obtain ⟨r_50, rfl⟩ : ∃ z, z = u := ⟨_, rfl⟩
            have h51 : r_50 = (refS (sh 1 1 0) (sh 1 1 1) l i (m 9 0)) := hu
            subst h51
            show Go E Q 10 0 0 79 [(5, .ref (a 39)), (0, .ref (a 0)), (1, .int x), (2, .int y), (3, .int l), (4, .int i)] [.int (refS (sh 1 1 0) (sh 1 1 1) l i (m 9 0))] (loftW cI cS a m v w (seS T C li ap va le) (tpS B L P F) sh kf)
            refine g_istore hE dX4_meshes_79 [(6, .int (refS (sh 1 1 0) (sh 1 1 1) l i (m 9 0))), (5, .ref (a 39)), (0, .ref (a 0)), (1, .int x), (2, .int y), (3, .int l), (4, .int i)] (by decide) rfl ?_
            refine g_iload hE dX4_meshes_81 0 rfl ?_
            refine g_if_eq hE 90 dX4_meshes_83 (by decide) (fun c52 => ?_) (fun c52 => ?_)
            · refine g_aload_n hE dX4_meshes_90 2 rfl ?_
              refine g_get hE fl_X4_16 dX4_meshes_91 0 rfl rfl ?_
              refine g_aload_n hE dX4_meshes_94 2 rfl ?_
              refine g_get hE fl_X4_10 dX4_meshes_95 0 rfl rfl ?_
              refine g_callV hE (c_X0_takeAll_s cI cS (fun i => a (i + 11)) (fun i => a (i + 1)) v m) mk_X0_takeAll mv_X0_takeAll ml_X4_187 dX4_meshes_98 (As := [.ref (a 1)]) (rest := []) rfl rfl 11 rfl (show vwCl[0]? = some (RX0, TX0, 13) from rfl) (by decide) (by decide) (Nat.le_of_ble_eq_true rfl) (by decide) (by decide) [1, 2, 3, 4, 5, 6, 7, 8, 9, 10, 11, 12, 13, 14, 15, 16, 17, 18, 19, 20] rfl (by decide) (fun u => Nat.le_of_ble_eq_true rfl) (ws' := fun u => loftW cI cS a m (tkA v m) w (seS T C li ap va le) (tpS B L P F) sh kf) (fun u => rfl) (fun u hu => ?_)
              show Go E Q 10 0 0 101 [(6, .int (refS (sh 1 1 0) (sh 1 1 1) l i (m 9 0))), (5, .ref (a 39)), (0, .ref (a 0)), (1, .int x), (2, .int y), (3, .int l), (4, .int i)] [] (loftW cI cS a m (tkA v m) w (seS T C li ap va le) (tpS B L P F) sh kf)
              refine g_lconst hE dX4_meshes_101 0 (by decide) ?_
              refine g_lstore hE dX4_meshes_102 [(7, .long 0), (6, .int (refS (sh 1 1 0) (sh 1 1 1) l i (m 9 0))), (5, .ref (a 39)), (0, .ref (a 0)), (1, .int x), (2, .int y), (3, .int l), (4, .int i)] (by decide) rfl ?_
              refine g_iconst hE dX4_meshes_104 1 (by decide) ?_
              refine g_istore hE dX4_meshes_105 [(9, .int 1), (7, .long 0), (6, .int (refS (sh 1 1 0) (sh 1 1 1) l i (m 9 0))), (5, .ref (a 39)), (0, .ref (a 0)), (1, .int x), (2, .int y), (3, .int l), (4, .int i)] (by decide) rfl ?_
              have L107 : ∀ (n_107 : Nat) (j : Nat) (z : Int64) (vv : Nat → Nat → Int32), (j ≤ 60) → (z = msS m n pl (sh 1 0) x i j) → (MW vv n sv pl) → (E4 vv m x) → (60 - j < n_107) → Go E Q 10 0 0 107 [(0, .ref (a 0)), (1, .int x), (2, .int y), (3, .int l), (4, .int i), (5, .ref (a 39)), (7, .long z), (9, .int (nI (j + 1)))] [] (loftW cI cS a m vv w (seS T C li ap va le) (tpS B L P F) sh kf) := by
                intro n_107
                induction n_107 with
                | zero => intro j z vv hj hz hVV hE4 hm_107; exact absurd hm_107 (Nat.not_lt_zero _)
                | succ n_107 ih_107 =>
                  intro j z vv hj hz hVV hE4 hm_107
                  refine g_iload hE dX4_meshes_107 7 rfl ?_
                  refine g_bipush hE dX4_meshes_109 60 (by decide) ?_
                  refine g_icmp_gt hE 158 dX4_meshes_111 (by decide) (fun c54 => ?_) (fun c54 => ?_)
                  · have kc54 := nat_lt_t (show 60 = nI 60 from rfl) (show (nI (j + 1)) = nI (j + 1) from rfl) (by omega) (by omega) c54
                    refine g_lload hE dX4_meshes_158 6 rfl ?_
                    exact g_lret hE hQ dX4_meshes_160 (1, z, vv) rfl rfl ⟨h2, (by have e : 60 = j := (by omega); rw [hz, ← e]; show msS m n pl (sh 1 0) x i 60 = fMesh m n pl sh 1 x l i; simp only [fMesh, if_pos c37, if_neg (show ¬ (1 : Nat) = 4 by decide), if_pos c41, if_pos c45, if_neg (show ¬ (atv (m 3) 8 x) = 3 from c49), if_pos (show (refS (sh 1 1 0) (sh 1 1 1) l i (m 9 0)) = 0 from c52), if_pos trivial]), Or.inl hVV⟩
                  · have kc54 := nat_lt_f (show 60 = nI 60 from rfl) (show (nI (j + 1)) = nI (j + 1) from rfl) (by omega) (by omega) c54
                    refine g_aload_n hE dX4_meshes_114 0 rfl ?_
                    refine g_get hE fl_X4_16 dX4_meshes_115 0 rfl rfl ?_
                    refine g_get hE fl_X4_95 dX4_meshes_118 11 rfl rfl ?_
                    refine g_iload_n hE dX4_meshes_121 1 rfl ?_
                    refine g_iload hE dX4_meshes_122 7 rfl ?_
                    refine g_callS hE (c_X4_put cI cS (a 16) 8 (vv 4) x (nI (j + 1)) (by decide)) mk_X4_put st_X4_put ml_X4_236 dX4_meshes_124 (As := [.ref (a 16), .int x, .int (nI (j + 1))]) (rest := []) rfl rfl (by decide) (by decide) (Nat.le_of_ble_eq_true rfl) (by decide) (by decide) [16] rfl (by decide) (fun u => Nat.le_of_ble_eq_true rfl) (ws' := fun u => loftW cI cS a m (pA vv 4 u) w (seS T C li ap va le) (tpS B L P F) sh kf) (fun u => rfl) (fun u hu => ?_)
                    obtain ⟨f_55, rfl⟩ : ∃ z, z = u := ⟨_, rfl⟩
                    have h56 : f_55 = putv (vv 4) 8 x (nI (j + 1)) := hu
                    have h57 : f_55 = (putv (vv 4) 8 x (nI (j + 1))) := h56
                    subst h57
                    show Go E Q 10 0 0 127 [(0, .ref (a 0)), (1, .int x), (2, .int y), (3, .int l), (4, .int i), (5, .ref (a 39)), (7, .long z), (9, .int (nI (j + 1)))] [] (loftW cI cS a m (pA vv 4 (putv (vv 4) 8 x (nI (j + 1)))) w (seS T C li ap va le) (tpS B L P F) sh kf)
                    refine g_aload_n hE dX4_meshes_127 0 rfl ?_
                    refine g_get hE fl_X4_16 dX4_meshes_128 0 rfl rfl ?_
                    refine g_aload hE dX4_meshes_131 5 rfl ?_
                    refine g_iload hE dX4_meshes_133 4 rfl ?_
                    refine g_callS hE (c_X4_bearsOut cI cS (fun i => a (i + 11)) (fun i => a (i + 39)) (pA vv 4 (putv (vv 4) 8 x (nI (j + 1)))) (by first | assumption | exact mw_of (by assumption)) (sh 1 0) (sh 1 1 0) (sh 1 1 1) i) mk_X4_bearsOut st_X4_bearsOut ml_X4_240 dX4_meshes_135 (As := [.ref (a 11), .ref (a 39), .int i]) (rest := []) rfl rfl (by decide) (by decide) (Nat.le_of_ble_eq_true rfl) (by decide) (by decide) [11, 12, 13, 14, 15, 16, 17, 18, 19, 20, 39, 40] rfl (by decide) (fun u => Nat.le_of_ble_eq_true rfl) (ws' := fun u => loftW cI cS a m (pA (pA vv 4 (putv (vv 4) 8 x (nI (j + 1)))) 8 u.2) w (seS T C li ap va le) (tpS B L P F) sh kf) (fun u => rfl) (fun u hu => ?_)
                    obtain ⟨r_58, h_59⟩ := u
                    have h60 : r_58 = if boB (pA vv 4 (putv (vv 4) 8 x (nI (j + 1)))) n pl (sh 1 0) i n = true then 1 else 0 := hu
                    by_cases c61 : boB (pA vv 4 (putv (vv 4) 8 x (nI (j + 1)))) n pl (sh 1 0) i n = true
                    · rw [if_pos c61] at h60
                      subst h60
                      show Go E Q 10 0 0 138 [(0, .ref (a 0)), (1, .int x), (2, .int y), (3, .int l), (4, .int i), (5, .ref (a 39)), (7, .long z), (9, .int (nI (j + 1)))] [.int 1] (loftW cI cS a m (pA (pA vv 4 (putv (vv 4) 8 x (nI (j + 1)))) 8 h_59) w (seS T C li ap va le) (tpS B L P F) sh kf)
                      refine g_if_eq hE 152 dX4_meshes_138 (by decide) (fun c62 => absurd c62 (by decide)) (fun c62 => ?_)
                      refine g_lload hE dX4_meshes_141 6 rfl ?_
                      refine g_lconst hE dX4_meshes_143 1 (by decide) ?_
                      refine g_iload hE dX4_meshes_144 7 rfl ?_
                      refine g_iconst hE dX4_meshes_146 1 (by decide) ?_
                      refine g_isub_n hE dX4_meshes_147 (show (nI (j + 1)) = nI (j + 1) from rfl) (show 1 = nI 1 from rfl) (by omega) ?_
                      refine g_lshl hE dX4_meshes_148 ?_
                      refine g_lor hE dX4_meshes_149 ?_
                      refine g_lstore hE dX4_meshes_150 [(7, .long (z ||| (1 <<< (Int32.toInt64 (nI ((j + 1) - 1)) &&& 63)))), (0, .ref (a 0)), (1, .int x), (2, .int y), (3, .int l), (4, .int i), (5, .ref (a 39)), (9, .int (nI (j + 1)))] (by decide) rfl ?_
                      refine g_iinc hE dX4_meshes_152 7 (nI ((j + 1) + 1)) [(9, .int (nI ((j + 1) + 1))), (7, .long (z ||| (1 <<< (Int32.toInt64 (nI ((j + 1) - 1)) &&& 63)))), (0, .ref (a 0)), (1, .int x), (2, .int y), (3, .int l), (4, .int i), (5, .ref (a 39))] rfl (nI_1 _) (by decide) rfl ?_
                      refine g_goto hE 107 dX4_meshes_155 (by decide) ?_
                      refine g_locals [2, 3, 4, 5, 6, 7, 1, 0] [(0, .ref (a 0)), (1, .int x), (2, .int y), (3, .int l), (4, .int i), (5, .ref (a 39)), (7, .long (z ||| (1 <<< (Int32.toInt64 (nI ((j + 1) - 1)) &&& 63)))), (9, .int (nI ((j + 1) + 1)))] rfl ?_
                      exact ih_107 (j + 1) (z ||| (1 <<< (Int32.toInt64 (nI ((j + 1) - 1)) &&& 63))) (pA (pA vv 4 (putv (vv 4) 8 x (nI (j + 1)))) 8 h_59) (by first | assumption | omega) (ms_y hE4 hz c61) (shM_pA (h2 := h_59) (show MW (pA vv 4 (putv (vv 4) 8 x (nI (j + 1)))) n sv pl from hVV)) (E4_8 (E4_put hE4 _)) (by omega)
                    · rw [if_neg c61] at h60
                      subst h60
                      show Go E Q 10 0 0 138 [(0, .ref (a 0)), (1, .int x), (2, .int y), (3, .int l), (4, .int i), (5, .ref (a 39)), (7, .long z), (9, .int (nI (j + 1)))] [.int 0] (loftW cI cS a m (pA (pA vv 4 (putv (vv 4) 8 x (nI (j + 1)))) 8 h_59) w (seS T C li ap va le) (tpS B L P F) sh kf)
                      refine g_if_eq hE 152 dX4_meshes_138 (by decide) (fun c63 => ?_) (fun c63 => absurd (by decide) c63)
                      refine g_iinc hE dX4_meshes_152 7 (nI ((j + 1) + 1)) [(9, .int (nI ((j + 1) + 1))), (0, .ref (a 0)), (1, .int x), (2, .int y), (3, .int l), (4, .int i), (5, .ref (a 39)), (7, .long z)] rfl (nI_1 _) (by decide) rfl ?_
                      refine g_goto hE 107 dX4_meshes_155 (by decide) ?_
                      refine g_locals [1, 2, 3, 4, 5, 6, 7, 0] [(0, .ref (a 0)), (1, .int x), (2, .int y), (3, .int l), (4, .int i), (5, .ref (a 39)), (7, .long z), (9, .int (nI ((j + 1) + 1)))] rfl ?_
                      exact ih_107 (j + 1) z (pA (pA vv 4 (putv (vv 4) 8 x (nI (j + 1)))) 8 h_59) (by first | assumption | omega) (ms_n hE4 hz c61) (shM_pA (h2 := h_59) (show MW (pA vv 4 (putv (vv 4) 8 x (nI (j + 1)))) n sv pl from hVV)) (E4_8 (E4_put hE4 _)) (by omega)
              refine g_locals [4, 5, 6, 7, 8, 3, 1, 0] [(0, .ref (a 0)), (1, .int x), (2, .int y), (3, .int l), (4, .int i), (5, .ref (a 39)), (7, .long 0), (9, .int 1)] rfl ?_
              exact L107 _ 0 0 (tkA v m) (Nat.zero_le _) rfl (MW_tk hM) E4_tk (Nat.lt_succ_self _)
            · refine g_iload hE dX4_meshes_86 0 rfl ?_
              refine g_i2l hE dX4_meshes_88 ?_
              exact g_lret hE hQ dX4_meshes_89 (1, (Int32.toInt64 (refS (sh 1 1 0) (sh 1 1 1) l i (m 9 0))), v) rfl rfl ⟨h2, (by show (Int32.toInt64 (refS (sh 1 1 0) (sh 1 1 1) l i (m 9 0))) = fMesh m n pl sh 1 x l i; simp only [fMesh, if_pos c37, if_neg (show ¬ (1 : Nat) = 4 by decide), if_pos c41, if_pos c45, if_neg (show ¬ (atv (m 3) 8 x) = 3 from c49), if_neg (show ¬ (refS (sh 1 1 0) (sh 1 1 1) l i (m 9 0)) = 0 from c52), if_pos trivial]), Or.inr rfl⟩
          · refine g_ldc2 hE dX4_meshes_60 cl_X4_231 ?_
            exact g_lret hE hQ dX4_meshes_63 (1, (-2), v) rfl rfl ⟨h2, (by show (-2) = fMesh m n pl sh 1 x l i; simp only [fMesh, if_pos c37, if_neg (show ¬ (1 : Nat) = 4 by decide), if_pos c41, if_pos c45, if_pos (show (atv (m 3) 8 x) = 3 from c49), if_pos trivial]), Or.inr rfl⟩
        · rw [if_neg c45] at h44
          subst h44
          show Go E Q 10 0 0 42 [(5, .ref (a 39)), (0, .ref (a 0)), (1, .int x), (2, .int y), (3, .int l), (4, .int i)] [.int 0] (loftW cI cS a m v w (seS T C li ap va le) (tpS B L P F) sh kf)
          refine g_if_eq hE 60 dX4_meshes_42 (by decide) (fun c64 => ?_) (fun c64 => absurd (by decide) c64)
          refine g_ldc2 hE dX4_meshes_60 cl_X4_231 ?_
          exact g_lret hE hQ dX4_meshes_63 (1, (-2), v) rfl rfl ⟨h2, (by show (-2) = fMesh m n pl sh 1 x l i; simp only [fMesh, if_pos c37, if_neg (show ¬ (1 : Nat) = 4 by decide), if_pos c41, if_neg c45, if_pos trivial]), Or.inr rfl⟩
      · rw [if_neg c41] at h40
        subst h40
        show Go E Q 10 0 0 27 [(5, .ref (a 39)), (0, .ref (a 0)), (1, .int x), (2, .int y), (3, .int l), (4, .int i)] [.int 0] (loftW cI cS a m v w (seS T C li ap va le) (tpS B L P F) sh kf)
        refine g_if_ne hE 34 dX4_meshes_27 (by decide) (fun c65 => absurd (by decide) c65) (fun c65 => ?_)
        refine g_ldc2 hE dX4_meshes_30 cl_X4_215 ?_
        exact g_lret hE hQ dX4_meshes_33 (1, (-1), v) rfl rfl ⟨h2, (by show (-1) = fMesh m n pl sh 1 x l i; simp only [fMesh, if_pos c37, if_neg (show ¬ (1 : Nat) = 4 by decide), if_neg c41, if_pos trivial]), Or.inr rfl⟩
    · rw [if_neg c37] at h36
      subst h36
      show Go E Q 10 0 0 15 [(5, .ref (a 39)), (0, .ref (a 0)), (1, .int x), (2, .int y), (3, .int l), (4, .int i)] [.int 0] (loftW cI cS a m v w (seS T C li ap va le) (tpS B L P F) sh kf)
      refine g_if_eq hE 30 dX4_meshes_15 (by decide) (fun c66 => ?_) (fun c66 => absurd (by decide) c66)
      refine g_ldc2 hE dX4_meshes_30 cl_X4_215 ?_
      exact g_lret hE hQ dX4_meshes_33 (1, (-1), v) rfl rfl ⟨h2, (by show (-1) = fMesh m n pl sh 1 x l i; simp only [fMesh, if_neg c37, if_pos trivial]), Or.inr rfl⟩
  · show Go E Q 10 0 0 5 [(0, .ref (a 0)), (1, .int x), (2, .int y), (3, .int l), (4, .int i)] [.ref (a 41)] (loftW cI cS a m v w (seS T C li ap va le) (tpS B L P F) sh kf)
    refine g_astore hE dX4_meshes_5 [(5, .ref (a 41)), (0, .ref (a 0)), (1, .int x), (2, .int y), (3, .int l), (4, .int i)] (by decide) rfl ?_
    refine g_aload_n hE dX4_meshes_7 1 rfl ?_
    refine g_get hE fl_X4_10 dX4_meshes_8 0 rfl rfl ?_
    refine g_iload_n hE dX4_meshes_11 2 rfl ?_
    refine g_callV hE (c_X0_hasSieve cI cS (fun i => a (i + 1)) m (by first | assumption | exact mw_of (by assumption)) x) mk_X0_hasSieve mv_X0_hasSieve ml_X4_85 dX4_meshes_12 (As := [.int x]) (rest := []) rfl rfl 1 rfl (show vwCl[0]? = some (RX0, TX0, 13) from rfl) (by decide) (by decide) (Nat.le_of_ble_eq_true rfl) (by decide) (by decide) [1, 2, 3, 4, 5, 6, 7, 8, 9, 10] rfl (by decide) (fun u => Nat.le_of_ble_eq_true rfl) (ws' := fun u => loftW cI cS a m v w (seS T C li ap va le) (tpS B L P F) sh kf) (fun u => rfl) (fun u hu => ?_)
    obtain ⟨r_67, rfl⟩ : ∃ z, z = u := ⟨_, rfl⟩
    have h68 : r_67 = if 0 ≤ x ∧ x < m 9 1 then 1 else 0 := hu
    by_cases c69 : 0 ≤ x ∧ x < m 9 1
    · rw [if_pos c69] at h68
      subst h68
      show Go E Q 10 0 0 15 [(5, .ref (a 41)), (0, .ref (a 0)), (1, .int x), (2, .int y), (3, .int l), (4, .int i)] [.int 1] (loftW cI cS a m v w (seS T C li ap va le) (tpS B L P F) sh kf)
      refine g_if_eq hE 30 dX4_meshes_15 (by decide) (fun c70 => absurd c70 (by decide)) (fun c70 => ?_)
      refine g_aload hE dX4_meshes_18 0 rfl ?_
      refine g_ifnull hE dX4_meshes_20 ?_
      refine g_iload_n hE dX4_meshes_23 4 rfl ?_
      refine g_callS hE (c_X4_isLane cI cS l) mk_X4_isLane st_X4_isLane ml_X4_225 dX4_meshes_24 (As := [.int l]) (rest := []) rfl rfl (by decide) (by decide) (Nat.le_of_ble_eq_true rfl) (by decide) (by decide) [] rfl (by decide) (fun u => Nat.le_of_ble_eq_true rfl) (ws' := fun u => loftW cI cS a m v w (seS T C li ap va le) (tpS B L P F) sh kf) (fun u => rfl) (fun u hu => ?_)
      obtain ⟨r_71, rfl⟩ : ∃ z, z = u := ⟨_, rfl⟩
      have h72 : r_71 = if 0 ≤ l ∧ l ≤ 2 then 1 else 0 := hu
      by_cases c73 : 0 ≤ l ∧ l ≤ 2
      · rw [if_pos c73] at h72
        subst h72
        show Go E Q 10 0 0 27 [(5, .ref (a 41)), (0, .ref (a 0)), (1, .int x), (2, .int y), (3, .int l), (4, .int i)] [.int 1] (loftW cI cS a m v w (seS T C li ap va le) (tpS B L P F) sh kf)
        refine g_if_ne hE 34 dX4_meshes_27 (by decide) (fun c74 => ?_) (fun c74 => absurd c74 (by decide))
        refine g_aload_n hE dX4_meshes_34 1 rfl ?_
        refine g_get hE fl_X4_10 dX4_meshes_35 0 rfl rfl ?_
        refine g_iload_n hE dX4_meshes_38 2 rfl ?_
        refine g_callV hE (c_X0_isInRow cI cS (fun i => a (i + 1)) m (by first | assumption | exact mw_of (by assumption)) x) mk_X0_isInRow mv_X0_isInRow ml_X4_228 dX4_meshes_39 (As := [.int x]) (rest := []) rfl rfl 1 rfl (show vwCl[0]? = some (RX0, TX0, 13) from rfl) (by decide) (by decide) (Nat.le_of_ble_eq_true rfl) (by decide) (by decide) [1, 2, 3, 4, 5, 6, 7, 8, 9, 10] rfl (by decide) (fun u => Nat.le_of_ble_eq_true rfl) (ws' := fun u => loftW cI cS a m v w (seS T C li ap va le) (tpS B L P F) sh kf) (fun u => rfl) (fun u hu => ?_)
        obtain ⟨r_75, rfl⟩ : ∃ z, z = u := ⟨_, rfl⟩
        have h76 : r_75 = if inRb m x pl = true then 1 else 0 := hu
        by_cases c77 : inRb m x pl = true
        · rw [if_pos c77] at h76
          subst h76
          show Go E Q 10 0 0 42 [(5, .ref (a 41)), (0, .ref (a 0)), (1, .int x), (2, .int y), (3, .int l), (4, .int i)] [.int 1] (loftW cI cS a m v w (seS T C li ap va le) (tpS B L P F) sh kf)
          refine g_if_eq hE 60 dX4_meshes_42 (by decide) (fun c78 => absurd c78 (by decide)) (fun c78 => ?_)
          refine g_aload_n hE dX4_meshes_45 1 rfl ?_
          refine g_get hE fl_X4_10 dX4_meshes_46 0 rfl rfl ?_
          refine g_get hE fl_X4_88 dX4_meshes_49 1 rfl rfl ?_
          refine g_iload_n hE dX4_meshes_52 2 rfl ?_
          refine g_callS hE (c_X4_at cI cS (a 5) 8 (m 3) x (by decide)) mk_X4_at st_X4_at ml_X4_91 dX4_meshes_53 (As := [.ref (a 5), .int x]) (rest := []) rfl rfl (by decide) (by decide) (Nat.le_of_ble_eq_true rfl) (by decide) (by decide) [5] rfl (by decide) (fun u => Nat.le_of_ble_eq_true rfl) (ws' := fun u => loftW cI cS a m v w (seS T C li ap va le) (tpS B L P F) sh kf) (fun u => rfl) (fun u hu => ?_)
          obtain ⟨r_79, rfl⟩ : ∃ z, z = u := ⟨_, rfl⟩
          have h80 : r_79 = (atv (m 3) 8 x) := hu
          subst h80
          show Go E Q 10 0 0 56 [(5, .ref (a 41)), (0, .ref (a 0)), (1, .int x), (2, .int y), (3, .int l), (4, .int i)] [.int (atv (m 3) 8 x)] (loftW cI cS a m v w (seS T C li ap va le) (tpS B L P F) sh kf)
          refine g_iconst hE dX4_meshes_56 3 (by decide) ?_
          refine g_icmp_ne hE 64 dX4_meshes_57 (by decide) (fun c81 => ?_) (fun c81 => ?_)
          · refine g_aload hE dX4_meshes_64 0 rfl ?_
            refine g_iload_n hE dX4_meshes_66 4 rfl ?_
            refine g_iload hE dX4_meshes_67 5 rfl ?_
            refine g_aload_n hE dX4_meshes_69 1 rfl ?_
            refine g_get hE fl_X4_10 dX4_meshes_70 0 rfl rfl ?_
            refine g_get hE fl_X4_51 dX4_meshes_73 1 rfl rfl ?_
            refine g_callV hE (c_X2_refusal cI cS (fun i => a (i + 41)) (sh 2 0) (sh 2 1 0) (sh 2 1 1) l i (m 9 0)) mk_X2_refusal mv_X2_refusal ml_X4_233 dX4_meshes_76 (As := [.int l, .int i, .int (m 9 0)]) (rest := []) rfl rfl 41 rfl (show vwCl[2]? = some (RX2, TX2, 3) from rfl) (by decide) (by decide) (Nat.le_of_ble_eq_true rfl) (by decide) (by decide) [41, 42] rfl (by decide) (fun u => Nat.le_of_ble_eq_true rfl) (ws' := fun u => loftW cI cS a m v w (seS T C li ap va le) (tpS B L P F) sh kf) (fun u => rfl) (fun u hu => ?_)
            obtain ⟨r_82, rfl⟩ : ∃ z, z = u := ⟨_, rfl⟩
            have h83 : r_82 = (refS (sh 2 1 0) (sh 2 1 1) l i (m 9 0)) := hu
            subst h83
            show Go E Q 10 0 0 79 [(5, .ref (a 41)), (0, .ref (a 0)), (1, .int x), (2, .int y), (3, .int l), (4, .int i)] [.int (refS (sh 2 1 0) (sh 2 1 1) l i (m 9 0))] (loftW cI cS a m v w (seS T C li ap va le) (tpS B L P F) sh kf)
            refine g_istore hE dX4_meshes_79 [(6, .int (refS (sh 2 1 0) (sh 2 1 1) l i (m 9 0))), (5, .ref (a 41)), (0, .ref (a 0)), (1, .int x), (2, .int y), (3, .int l), (4, .int i)] (by decide) rfl ?_
            refine g_iload hE dX4_meshes_81 0 rfl ?_
            refine g_if_eq hE 90 dX4_meshes_83 (by decide) (fun c84 => ?_) (fun c84 => ?_)
            · refine g_aload_n hE dX4_meshes_90 2 rfl ?_
              refine g_get hE fl_X4_16 dX4_meshes_91 0 rfl rfl ?_
              refine g_aload_n hE dX4_meshes_94 2 rfl ?_
              refine g_get hE fl_X4_10 dX4_meshes_95 0 rfl rfl ?_
              refine g_callV hE (c_X0_takeAll_s cI cS (fun i => a (i + 11)) (fun i => a (i + 1)) v m) mk_X0_takeAll mv_X0_takeAll ml_X4_187 dX4_meshes_98 (As := [.ref (a 1)]) (rest := []) rfl rfl 11 rfl (show vwCl[0]? = some (RX0, TX0, 13) from rfl) (by decide) (by decide) (Nat.le_of_ble_eq_true rfl) (by decide) (by decide) [1, 2, 3, 4, 5, 6, 7, 8, 9, 10, 11, 12, 13, 14, 15, 16, 17, 18, 19, 20] rfl (by decide) (fun u => Nat.le_of_ble_eq_true rfl) (ws' := fun u => loftW cI cS a m (tkA v m) w (seS T C li ap va le) (tpS B L P F) sh kf) (fun u => rfl) (fun u hu => ?_)
              show Go E Q 10 0 0 101 [(6, .int (refS (sh 2 1 0) (sh 2 1 1) l i (m 9 0))), (5, .ref (a 41)), (0, .ref (a 0)), (1, .int x), (2, .int y), (3, .int l), (4, .int i)] [] (loftW cI cS a m (tkA v m) w (seS T C li ap va le) (tpS B L P F) sh kf)
              refine g_lconst hE dX4_meshes_101 0 (by decide) ?_
              refine g_lstore hE dX4_meshes_102 [(7, .long 0), (6, .int (refS (sh 2 1 0) (sh 2 1 1) l i (m 9 0))), (5, .ref (a 41)), (0, .ref (a 0)), (1, .int x), (2, .int y), (3, .int l), (4, .int i)] (by decide) rfl ?_
              refine g_iconst hE dX4_meshes_104 1 (by decide) ?_
              refine g_istore hE dX4_meshes_105 [(9, .int 1), (7, .long 0), (6, .int (refS (sh 2 1 0) (sh 2 1 1) l i (m 9 0))), (5, .ref (a 41)), (0, .ref (a 0)), (1, .int x), (2, .int y), (3, .int l), (4, .int i)] (by decide) rfl ?_
              have L107 : ∀ (n_107 : Nat) (j : Nat) (z : Int64) (vv : Nat → Nat → Int32), (j ≤ 60) → (z = msS m n pl (sh 2 0) x i j) → (MW vv n sv pl) → (E4 vv m x) → (60 - j < n_107) → Go E Q 10 0 0 107 [(0, .ref (a 0)), (1, .int x), (2, .int y), (3, .int l), (4, .int i), (5, .ref (a 41)), (7, .long z), (9, .int (nI (j + 1)))] [] (loftW cI cS a m vv w (seS T C li ap va le) (tpS B L P F) sh kf) := by
                intro n_107
                induction n_107 with
                | zero => intro j z vv hj hz hVV hE4 hm_107; exact absurd hm_107 (Nat.not_lt_zero _)
                | succ n_107 ih_107 =>
                  intro j z vv hj hz hVV hE4 hm_107
                  refine g_iload hE dX4_meshes_107 7 rfl ?_
                  refine g_bipush hE dX4_meshes_109 60 (by decide) ?_
                  refine g_icmp_gt hE 158 dX4_meshes_111 (by decide) (fun c86 => ?_) (fun c86 => ?_)
                  · have kc86 := nat_lt_t (show 60 = nI 60 from rfl) (show (nI (j + 1)) = nI (j + 1) from rfl) (by omega) (by omega) c86
                    refine g_lload hE dX4_meshes_158 6 rfl ?_
                    exact g_lret hE hQ dX4_meshes_160 (2, z, vv) rfl rfl ⟨h2, (by have e : 60 = j := (by omega); rw [hz, ← e]; show msS m n pl (sh 2 0) x i 60 = fMesh m n pl sh 2 x l i; simp only [fMesh, if_pos c69, if_neg (show ¬ (2 : Nat) = 4 by decide), if_pos c73, if_pos c77, if_neg (show ¬ (atv (m 3) 8 x) = 3 from c81), if_pos (show (refS (sh 2 1 0) (sh 2 1 1) l i (m 9 0)) = 0 from c84), if_pos trivial]), Or.inl hVV⟩
                  · have kc86 := nat_lt_f (show 60 = nI 60 from rfl) (show (nI (j + 1)) = nI (j + 1) from rfl) (by omega) (by omega) c86
                    refine g_aload_n hE dX4_meshes_114 0 rfl ?_
                    refine g_get hE fl_X4_16 dX4_meshes_115 0 rfl rfl ?_
                    refine g_get hE fl_X4_95 dX4_meshes_118 11 rfl rfl ?_
                    refine g_iload_n hE dX4_meshes_121 1 rfl ?_
                    refine g_iload hE dX4_meshes_122 7 rfl ?_
                    refine g_callS hE (c_X4_put cI cS (a 16) 8 (vv 4) x (nI (j + 1)) (by decide)) mk_X4_put st_X4_put ml_X4_236 dX4_meshes_124 (As := [.ref (a 16), .int x, .int (nI (j + 1))]) (rest := []) rfl rfl (by decide) (by decide) (Nat.le_of_ble_eq_true rfl) (by decide) (by decide) [16] rfl (by decide) (fun u => Nat.le_of_ble_eq_true rfl) (ws' := fun u => loftW cI cS a m (pA vv 4 u) w (seS T C li ap va le) (tpS B L P F) sh kf) (fun u => rfl) (fun u hu => ?_)
                    obtain ⟨f_87, rfl⟩ : ∃ z, z = u := ⟨_, rfl⟩
                    have h88 : f_87 = putv (vv 4) 8 x (nI (j + 1)) := hu
                    have h89 : f_87 = (putv (vv 4) 8 x (nI (j + 1))) := h88
                    subst h89
                    show Go E Q 10 0 0 127 [(0, .ref (a 0)), (1, .int x), (2, .int y), (3, .int l), (4, .int i), (5, .ref (a 41)), (7, .long z), (9, .int (nI (j + 1)))] [] (loftW cI cS a m (pA vv 4 (putv (vv 4) 8 x (nI (j + 1)))) w (seS T C li ap va le) (tpS B L P F) sh kf)
                    refine g_aload_n hE dX4_meshes_127 0 rfl ?_
                    refine g_get hE fl_X4_16 dX4_meshes_128 0 rfl rfl ?_
                    refine g_aload hE dX4_meshes_131 5 rfl ?_
                    refine g_iload hE dX4_meshes_133 4 rfl ?_
                    refine g_callS hE (c_X4_bearsOut cI cS (fun i => a (i + 11)) (fun i => a (i + 41)) (pA vv 4 (putv (vv 4) 8 x (nI (j + 1)))) (by first | assumption | exact mw_of (by assumption)) (sh 2 0) (sh 2 1 0) (sh 2 1 1) i) mk_X4_bearsOut st_X4_bearsOut ml_X4_240 dX4_meshes_135 (As := [.ref (a 11), .ref (a 41), .int i]) (rest := []) rfl rfl (by decide) (by decide) (Nat.le_of_ble_eq_true rfl) (by decide) (by decide) [11, 12, 13, 14, 15, 16, 17, 18, 19, 20, 41, 42] rfl (by decide) (fun u => Nat.le_of_ble_eq_true rfl) (ws' := fun u => loftW cI cS a m (pA (pA vv 4 (putv (vv 4) 8 x (nI (j + 1)))) 8 u.2) w (seS T C li ap va le) (tpS B L P F) sh kf) (fun u => rfl) (fun u hu => ?_)
                    obtain ⟨r_90, h_91⟩ := u
                    have h92 : r_90 = if boB (pA vv 4 (putv (vv 4) 8 x (nI (j + 1)))) n pl (sh 2 0) i n = true then 1 else 0 := hu
                    by_cases c93 : boB (pA vv 4 (putv (vv 4) 8 x (nI (j + 1)))) n pl (sh 2 0) i n = true
                    · rw [if_pos c93] at h92
                      subst h92
                      show Go E Q 10 0 0 138 [(0, .ref (a 0)), (1, .int x), (2, .int y), (3, .int l), (4, .int i), (5, .ref (a 41)), (7, .long z), (9, .int (nI (j + 1)))] [.int 1] (loftW cI cS a m (pA (pA vv 4 (putv (vv 4) 8 x (nI (j + 1)))) 8 h_91) w (seS T C li ap va le) (tpS B L P F) sh kf)
                      refine g_if_eq hE 152 dX4_meshes_138 (by decide) (fun c94 => absurd c94 (by decide)) (fun c94 => ?_)
                      refine g_lload hE dX4_meshes_141 6 rfl ?_
                      refine g_lconst hE dX4_meshes_143 1 (by decide) ?_
                      refine g_iload hE dX4_meshes_144 7 rfl ?_
                      refine g_iconst hE dX4_meshes_146 1 (by decide) ?_
                      refine g_isub_n hE dX4_meshes_147 (show (nI (j + 1)) = nI (j + 1) from rfl) (show 1 = nI 1 from rfl) (by omega) ?_
                      refine g_lshl hE dX4_meshes_148 ?_
                      refine g_lor hE dX4_meshes_149 ?_
                      refine g_lstore hE dX4_meshes_150 [(7, .long (z ||| (1 <<< (Int32.toInt64 (nI ((j + 1) - 1)) &&& 63)))), (0, .ref (a 0)), (1, .int x), (2, .int y), (3, .int l), (4, .int i), (5, .ref (a 41)), (9, .int (nI (j + 1)))] (by decide) rfl ?_
                      refine g_iinc hE dX4_meshes_152 7 (nI ((j + 1) + 1)) [(9, .int (nI ((j + 1) + 1))), (7, .long (z ||| (1 <<< (Int32.toInt64 (nI ((j + 1) - 1)) &&& 63)))), (0, .ref (a 0)), (1, .int x), (2, .int y), (3, .int l), (4, .int i), (5, .ref (a 41))] rfl (nI_1 _) (by decide) rfl ?_
                      refine g_goto hE 107 dX4_meshes_155 (by decide) ?_
                      refine g_locals [2, 3, 4, 5, 6, 7, 1, 0] [(0, .ref (a 0)), (1, .int x), (2, .int y), (3, .int l), (4, .int i), (5, .ref (a 41)), (7, .long (z ||| (1 <<< (Int32.toInt64 (nI ((j + 1) - 1)) &&& 63)))), (9, .int (nI ((j + 1) + 1)))] rfl ?_
                      exact ih_107 (j + 1) (z ||| (1 <<< (Int32.toInt64 (nI ((j + 1) - 1)) &&& 63))) (pA (pA vv 4 (putv (vv 4) 8 x (nI (j + 1)))) 8 h_91) (by first | assumption | omega) (ms_y hE4 hz c93) (shM_pA (h2 := h_91) (show MW (pA vv 4 (putv (vv 4) 8 x (nI (j + 1)))) n sv pl from hVV)) (E4_8 (E4_put hE4 _)) (by omega)
                    · rw [if_neg c93] at h92
                      subst h92
                      show Go E Q 10 0 0 138 [(0, .ref (a 0)), (1, .int x), (2, .int y), (3, .int l), (4, .int i), (5, .ref (a 41)), (7, .long z), (9, .int (nI (j + 1)))] [.int 0] (loftW cI cS a m (pA (pA vv 4 (putv (vv 4) 8 x (nI (j + 1)))) 8 h_91) w (seS T C li ap va le) (tpS B L P F) sh kf)
                      refine g_if_eq hE 152 dX4_meshes_138 (by decide) (fun c95 => ?_) (fun c95 => absurd (by decide) c95)
                      refine g_iinc hE dX4_meshes_152 7 (nI ((j + 1) + 1)) [(9, .int (nI ((j + 1) + 1))), (0, .ref (a 0)), (1, .int x), (2, .int y), (3, .int l), (4, .int i), (5, .ref (a 41)), (7, .long z)] rfl (nI_1 _) (by decide) rfl ?_
                      refine g_goto hE 107 dX4_meshes_155 (by decide) ?_
                      refine g_locals [1, 2, 3, 4, 5, 6, 7, 0] [(0, .ref (a 0)), (1, .int x), (2, .int y), (3, .int l), (4, .int i), (5, .ref (a 41)), (7, .long z), (9, .int (nI ((j + 1) + 1)))] rfl ?_
                      exact ih_107 (j + 1) z (pA (pA vv 4 (putv (vv 4) 8 x (nI (j + 1)))) 8 h_91) (by first | assumption | omega) (ms_n hE4 hz c93) (shM_pA (h2 := h_91) (show MW (pA vv 4 (putv (vv 4) 8 x (nI (j + 1)))) n sv pl from hVV)) (E4_8 (E4_put hE4 _)) (by omega)
              refine g_locals [4, 5, 6, 7, 8, 3, 1, 0] [(0, .ref (a 0)), (1, .int x), (2, .int y), (3, .int l), (4, .int i), (5, .ref (a 41)), (7, .long 0), (9, .int 1)] rfl ?_
              exact L107 _ 0 0 (tkA v m) (Nat.zero_le _) rfl (MW_tk hM) E4_tk (Nat.lt_succ_self _)
            · refine g_iload hE dX4_meshes_86 0 rfl ?_
              refine g_i2l hE dX4_meshes_88 ?_
              exact g_lret hE hQ dX4_meshes_89 (2, (Int32.toInt64 (refS (sh 2 1 0) (sh 2 1 1) l i (m 9 0))), v) rfl rfl ⟨h2, (by show (Int32.toInt64 (refS (sh 2 1 0) (sh 2 1 1) l i (m 9 0))) = fMesh m n pl sh 2 x l i; simp only [fMesh, if_pos c69, if_neg (show ¬ (2 : Nat) = 4 by decide), if_pos c73, if_pos c77, if_neg (show ¬ (atv (m 3) 8 x) = 3 from c81), if_neg (show ¬ (refS (sh 2 1 0) (sh 2 1 1) l i (m 9 0)) = 0 from c84), if_pos trivial]), Or.inr rfl⟩
          · refine g_ldc2 hE dX4_meshes_60 cl_X4_231 ?_
            exact g_lret hE hQ dX4_meshes_63 (2, (-2), v) rfl rfl ⟨h2, (by show (-2) = fMesh m n pl sh 2 x l i; simp only [fMesh, if_pos c69, if_neg (show ¬ (2 : Nat) = 4 by decide), if_pos c73, if_pos c77, if_pos (show (atv (m 3) 8 x) = 3 from c81), if_pos trivial]), Or.inr rfl⟩
        · rw [if_neg c77] at h76
          subst h76
          show Go E Q 10 0 0 42 [(5, .ref (a 41)), (0, .ref (a 0)), (1, .int x), (2, .int y), (3, .int l), (4, .int i)] [.int 0] (loftW cI cS a m v w (seS T C li ap va le) (tpS B L P F) sh kf)
          refine g_if_eq hE 60 dX4_meshes_42 (by decide) (fun c96 => ?_) (fun c96 => absurd (by decide) c96)
          refine g_ldc2 hE dX4_meshes_60 cl_X4_231 ?_
          exact g_lret hE hQ dX4_meshes_63 (2, (-2), v) rfl rfl ⟨h2, (by show (-2) = fMesh m n pl sh 2 x l i; simp only [fMesh, if_pos c69, if_neg (show ¬ (2 : Nat) = 4 by decide), if_pos c73, if_neg c77, if_pos trivial]), Or.inr rfl⟩
      · rw [if_neg c73] at h72
        subst h72
        show Go E Q 10 0 0 27 [(5, .ref (a 41)), (0, .ref (a 0)), (1, .int x), (2, .int y), (3, .int l), (4, .int i)] [.int 0] (loftW cI cS a m v w (seS T C li ap va le) (tpS B L P F) sh kf)
        refine g_if_ne hE 34 dX4_meshes_27 (by decide) (fun c97 => absurd (by decide) c97) (fun c97 => ?_)
        refine g_ldc2 hE dX4_meshes_30 cl_X4_215 ?_
        exact g_lret hE hQ dX4_meshes_33 (2, (-1), v) rfl rfl ⟨h2, (by show (-1) = fMesh m n pl sh 2 x l i; simp only [fMesh, if_pos c69, if_neg (show ¬ (2 : Nat) = 4 by decide), if_neg c73, if_pos trivial]), Or.inr rfl⟩
    · rw [if_neg c69] at h68
      subst h68
      show Go E Q 10 0 0 15 [(5, .ref (a 41)), (0, .ref (a 0)), (1, .int x), (2, .int y), (3, .int l), (4, .int i)] [.int 0] (loftW cI cS a m v w (seS T C li ap va le) (tpS B L P F) sh kf)
      refine g_if_eq hE 30 dX4_meshes_15 (by decide) (fun c98 => ?_) (fun c98 => absurd (by decide) c98)
      refine g_ldc2 hE dX4_meshes_30 cl_X4_215 ?_
      exact g_lret hE hQ dX4_meshes_33 (2, (-1), v) rfl rfl ⟨h2, (by show (-1) = fMesh m n pl sh 2 x l i; simp only [fMesh, if_neg c69, if_pos trivial]), Or.inr rfl⟩
  · show Go E Q 10 0 0 5 [(0, .ref (a 0)), (1, .int x), (2, .int y), (3, .int l), (4, .int i)] [.ref (a 43)] (loftW cI cS a m v w (seS T C li ap va le) (tpS B L P F) sh kf)
    refine g_astore hE dX4_meshes_5 [(5, .ref (a 43)), (0, .ref (a 0)), (1, .int x), (2, .int y), (3, .int l), (4, .int i)] (by decide) rfl ?_
    refine g_aload_n hE dX4_meshes_7 1 rfl ?_
    refine g_get hE fl_X4_10 dX4_meshes_8 0 rfl rfl ?_
    refine g_iload_n hE dX4_meshes_11 2 rfl ?_
    refine g_callV hE (c_X0_hasSieve cI cS (fun i => a (i + 1)) m (by first | assumption | exact mw_of (by assumption)) x) mk_X0_hasSieve mv_X0_hasSieve ml_X4_85 dX4_meshes_12 (As := [.int x]) (rest := []) rfl rfl 1 rfl (show vwCl[0]? = some (RX0, TX0, 13) from rfl) (by decide) (by decide) (Nat.le_of_ble_eq_true rfl) (by decide) (by decide) [1, 2, 3, 4, 5, 6, 7, 8, 9, 10] rfl (by decide) (fun u => Nat.le_of_ble_eq_true rfl) (ws' := fun u => loftW cI cS a m v w (seS T C li ap va le) (tpS B L P F) sh kf) (fun u => rfl) (fun u hu => ?_)
    obtain ⟨r_99, rfl⟩ : ∃ z, z = u := ⟨_, rfl⟩
    have h100 : r_99 = if 0 ≤ x ∧ x < m 9 1 then 1 else 0 := hu
    by_cases c101 : 0 ≤ x ∧ x < m 9 1
    · rw [if_pos c101] at h100
      subst h100
      show Go E Q 10 0 0 15 [(5, .ref (a 43)), (0, .ref (a 0)), (1, .int x), (2, .int y), (3, .int l), (4, .int i)] [.int 1] (loftW cI cS a m v w (seS T C li ap va le) (tpS B L P F) sh kf)
      refine g_if_eq hE 30 dX4_meshes_15 (by decide) (fun c102 => absurd c102 (by decide)) (fun c102 => ?_)
      refine g_aload hE dX4_meshes_18 0 rfl ?_
      refine g_ifnull hE dX4_meshes_20 ?_
      refine g_iload_n hE dX4_meshes_23 4 rfl ?_
      refine g_callS hE (c_X4_isLane cI cS l) mk_X4_isLane st_X4_isLane ml_X4_225 dX4_meshes_24 (As := [.int l]) (rest := []) rfl rfl (by decide) (by decide) (Nat.le_of_ble_eq_true rfl) (by decide) (by decide) [] rfl (by decide) (fun u => Nat.le_of_ble_eq_true rfl) (ws' := fun u => loftW cI cS a m v w (seS T C li ap va le) (tpS B L P F) sh kf) (fun u => rfl) (fun u hu => ?_)
      obtain ⟨r_103, rfl⟩ : ∃ z, z = u := ⟨_, rfl⟩
      have h104 : r_103 = if 0 ≤ l ∧ l ≤ 2 then 1 else 0 := hu
      by_cases c105 : 0 ≤ l ∧ l ≤ 2
      · rw [if_pos c105] at h104
        subst h104
        show Go E Q 10 0 0 27 [(5, .ref (a 43)), (0, .ref (a 0)), (1, .int x), (2, .int y), (3, .int l), (4, .int i)] [.int 1] (loftW cI cS a m v w (seS T C li ap va le) (tpS B L P F) sh kf)
        refine g_if_ne hE 34 dX4_meshes_27 (by decide) (fun c106 => ?_) (fun c106 => absurd c106 (by decide))
        refine g_aload_n hE dX4_meshes_34 1 rfl ?_
        refine g_get hE fl_X4_10 dX4_meshes_35 0 rfl rfl ?_
        refine g_iload_n hE dX4_meshes_38 2 rfl ?_
        refine g_callV hE (c_X0_isInRow cI cS (fun i => a (i + 1)) m (by first | assumption | exact mw_of (by assumption)) x) mk_X0_isInRow mv_X0_isInRow ml_X4_228 dX4_meshes_39 (As := [.int x]) (rest := []) rfl rfl 1 rfl (show vwCl[0]? = some (RX0, TX0, 13) from rfl) (by decide) (by decide) (Nat.le_of_ble_eq_true rfl) (by decide) (by decide) [1, 2, 3, 4, 5, 6, 7, 8, 9, 10] rfl (by decide) (fun u => Nat.le_of_ble_eq_true rfl) (ws' := fun u => loftW cI cS a m v w (seS T C li ap va le) (tpS B L P F) sh kf) (fun u => rfl) (fun u hu => ?_)
        obtain ⟨r_107, rfl⟩ : ∃ z, z = u := ⟨_, rfl⟩
        have h108 : r_107 = if inRb m x pl = true then 1 else 0 := hu
        by_cases c109 : inRb m x pl = true
        · rw [if_pos c109] at h108
          subst h108
          show Go E Q 10 0 0 42 [(5, .ref (a 43)), (0, .ref (a 0)), (1, .int x), (2, .int y), (3, .int l), (4, .int i)] [.int 1] (loftW cI cS a m v w (seS T C li ap va le) (tpS B L P F) sh kf)
          refine g_if_eq hE 60 dX4_meshes_42 (by decide) (fun c110 => absurd c110 (by decide)) (fun c110 => ?_)
          refine g_aload_n hE dX4_meshes_45 1 rfl ?_
          refine g_get hE fl_X4_10 dX4_meshes_46 0 rfl rfl ?_
          refine g_get hE fl_X4_88 dX4_meshes_49 1 rfl rfl ?_
          refine g_iload_n hE dX4_meshes_52 2 rfl ?_
          refine g_callS hE (c_X4_at cI cS (a 5) 8 (m 3) x (by decide)) mk_X4_at st_X4_at ml_X4_91 dX4_meshes_53 (As := [.ref (a 5), .int x]) (rest := []) rfl rfl (by decide) (by decide) (Nat.le_of_ble_eq_true rfl) (by decide) (by decide) [5] rfl (by decide) (fun u => Nat.le_of_ble_eq_true rfl) (ws' := fun u => loftW cI cS a m v w (seS T C li ap va le) (tpS B L P F) sh kf) (fun u => rfl) (fun u hu => ?_)
          obtain ⟨r_111, rfl⟩ : ∃ z, z = u := ⟨_, rfl⟩
          have h112 : r_111 = (atv (m 3) 8 x) := hu
          subst h112
          show Go E Q 10 0 0 56 [(5, .ref (a 43)), (0, .ref (a 0)), (1, .int x), (2, .int y), (3, .int l), (4, .int i)] [.int (atv (m 3) 8 x)] (loftW cI cS a m v w (seS T C li ap va le) (tpS B L P F) sh kf)
          refine g_iconst hE dX4_meshes_56 3 (by decide) ?_
          refine g_icmp_ne hE 64 dX4_meshes_57 (by decide) (fun c113 => ?_) (fun c113 => ?_)
          · refine g_aload hE dX4_meshes_64 0 rfl ?_
            refine g_iload_n hE dX4_meshes_66 4 rfl ?_
            refine g_iload hE dX4_meshes_67 5 rfl ?_
            refine g_aload_n hE dX4_meshes_69 1 rfl ?_
            refine g_get hE fl_X4_10 dX4_meshes_70 0 rfl rfl ?_
            refine g_get hE fl_X4_51 dX4_meshes_73 1 rfl rfl ?_
            refine g_callV hE (c_X2_refusal cI cS (fun i => a (i + 43)) (sh 3 0) (sh 3 1 0) (sh 3 1 1) l i (m 9 0)) mk_X2_refusal mv_X2_refusal ml_X4_233 dX4_meshes_76 (As := [.int l, .int i, .int (m 9 0)]) (rest := []) rfl rfl 43 rfl (show vwCl[2]? = some (RX2, TX2, 3) from rfl) (by decide) (by decide) (Nat.le_of_ble_eq_true rfl) (by decide) (by decide) [43, 44] rfl (by decide) (fun u => Nat.le_of_ble_eq_true rfl) (ws' := fun u => loftW cI cS a m v w (seS T C li ap va le) (tpS B L P F) sh kf) (fun u => rfl) (fun u hu => ?_)
            obtain ⟨r_114, rfl⟩ : ∃ z, z = u := ⟨_, rfl⟩
            have h115 : r_114 = (refS (sh 3 1 0) (sh 3 1 1) l i (m 9 0)) := hu
            subst h115
            show Go E Q 10 0 0 79 [(5, .ref (a 43)), (0, .ref (a 0)), (1, .int x), (2, .int y), (3, .int l), (4, .int i)] [.int (refS (sh 3 1 0) (sh 3 1 1) l i (m 9 0))] (loftW cI cS a m v w (seS T C li ap va le) (tpS B L P F) sh kf)
            refine g_istore hE dX4_meshes_79 [(6, .int (refS (sh 3 1 0) (sh 3 1 1) l i (m 9 0))), (5, .ref (a 43)), (0, .ref (a 0)), (1, .int x), (2, .int y), (3, .int l), (4, .int i)] (by decide) rfl ?_
            refine g_iload hE dX4_meshes_81 0 rfl ?_
            refine g_if_eq hE 90 dX4_meshes_83 (by decide) (fun c116 => ?_) (fun c116 => ?_)
            · refine g_aload_n hE dX4_meshes_90 2 rfl ?_
              refine g_get hE fl_X4_16 dX4_meshes_91 0 rfl rfl ?_
              refine g_aload_n hE dX4_meshes_94 2 rfl ?_
              refine g_get hE fl_X4_10 dX4_meshes_95 0 rfl rfl ?_
              refine g_callV hE (c_X0_takeAll_s cI cS (fun i => a (i + 11)) (fun i => a (i + 1)) v m) mk_X0_takeAll mv_X0_takeAll ml_X4_187 dX4_meshes_98 (As := [.ref (a 1)]) (rest := []) rfl rfl 11 rfl (show vwCl[0]? = some (RX0, TX0, 13) from rfl) (by decide) (by decide) (Nat.le_of_ble_eq_true rfl) (by decide) (by decide) [1, 2, 3, 4, 5, 6, 7, 8, 9, 10, 11, 12, 13, 14, 15, 16, 17, 18, 19, 20] rfl (by decide) (fun u => Nat.le_of_ble_eq_true rfl) (ws' := fun u => loftW cI cS a m (tkA v m) w (seS T C li ap va le) (tpS B L P F) sh kf) (fun u => rfl) (fun u hu => ?_)
              show Go E Q 10 0 0 101 [(6, .int (refS (sh 3 1 0) (sh 3 1 1) l i (m 9 0))), (5, .ref (a 43)), (0, .ref (a 0)), (1, .int x), (2, .int y), (3, .int l), (4, .int i)] [] (loftW cI cS a m (tkA v m) w (seS T C li ap va le) (tpS B L P F) sh kf)
              refine g_lconst hE dX4_meshes_101 0 (by decide) ?_
              refine g_lstore hE dX4_meshes_102 [(7, .long 0), (6, .int (refS (sh 3 1 0) (sh 3 1 1) l i (m 9 0))), (5, .ref (a 43)), (0, .ref (a 0)), (1, .int x), (2, .int y), (3, .int l), (4, .int i)] (by decide) rfl ?_
              refine g_iconst hE dX4_meshes_104 1 (by decide) ?_
              refine g_istore hE dX4_meshes_105 [(9, .int 1), (7, .long 0), (6, .int (refS (sh 3 1 0) (sh 3 1 1) l i (m 9 0))), (5, .ref (a 43)), (0, .ref (a 0)), (1, .int x), (2, .int y), (3, .int l), (4, .int i)] (by decide) rfl ?_
              have L107 : ∀ (n_107 : Nat) (j : Nat) (z : Int64) (vv : Nat → Nat → Int32), (j ≤ 60) → (z = msS m n pl (sh 3 0) x i j) → (MW vv n sv pl) → (E4 vv m x) → (60 - j < n_107) → Go E Q 10 0 0 107 [(0, .ref (a 0)), (1, .int x), (2, .int y), (3, .int l), (4, .int i), (5, .ref (a 43)), (7, .long z), (9, .int (nI (j + 1)))] [] (loftW cI cS a m vv w (seS T C li ap va le) (tpS B L P F) sh kf) := by
                intro n_107
                induction n_107 with
                | zero => intro j z vv hj hz hVV hE4 hm_107; exact absurd hm_107 (Nat.not_lt_zero _)
                | succ n_107 ih_107 =>
                  intro j z vv hj hz hVV hE4 hm_107
                  refine g_iload hE dX4_meshes_107 7 rfl ?_
                  refine g_bipush hE dX4_meshes_109 60 (by decide) ?_
                  refine g_icmp_gt hE 158 dX4_meshes_111 (by decide) (fun c118 => ?_) (fun c118 => ?_)
                  · have kc118 := nat_lt_t (show 60 = nI 60 from rfl) (show (nI (j + 1)) = nI (j + 1) from rfl) (by omega) (by omega) c118
                    refine g_lload hE dX4_meshes_158 6 rfl ?_
                    exact g_lret hE hQ dX4_meshes_160 (3, z, vv) rfl rfl ⟨h2, (by have e : 60 = j := (by omega); rw [hz, ← e]; show msS m n pl (sh 3 0) x i 60 = fMesh m n pl sh 3 x l i; simp only [fMesh, if_pos c101, if_neg (show ¬ (3 : Nat) = 4 by decide), if_pos c105, if_pos c109, if_neg (show ¬ (atv (m 3) 8 x) = 3 from c113), if_pos (show (refS (sh 3 1 0) (sh 3 1 1) l i (m 9 0)) = 0 from c116), if_pos trivial]), Or.inl hVV⟩
                  · have kc118 := nat_lt_f (show 60 = nI 60 from rfl) (show (nI (j + 1)) = nI (j + 1) from rfl) (by omega) (by omega) c118
                    refine g_aload_n hE dX4_meshes_114 0 rfl ?_
                    refine g_get hE fl_X4_16 dX4_meshes_115 0 rfl rfl ?_
                    refine g_get hE fl_X4_95 dX4_meshes_118 11 rfl rfl ?_
                    refine g_iload_n hE dX4_meshes_121 1 rfl ?_
                    refine g_iload hE dX4_meshes_122 7 rfl ?_
                    refine g_callS hE (c_X4_put cI cS (a 16) 8 (vv 4) x (nI (j + 1)) (by decide)) mk_X4_put st_X4_put ml_X4_236 dX4_meshes_124 (As := [.ref (a 16), .int x, .int (nI (j + 1))]) (rest := []) rfl rfl (by decide) (by decide) (Nat.le_of_ble_eq_true rfl) (by decide) (by decide) [16] rfl (by decide) (fun u => Nat.le_of_ble_eq_true rfl) (ws' := fun u => loftW cI cS a m (pA vv 4 u) w (seS T C li ap va le) (tpS B L P F) sh kf) (fun u => rfl) (fun u hu => ?_)
                    obtain ⟨f_119, rfl⟩ : ∃ z, z = u := ⟨_, rfl⟩
                    have h120 : f_119 = putv (vv 4) 8 x (nI (j + 1)) := hu
                    have h121 : f_119 = (putv (vv 4) 8 x (nI (j + 1))) := h120
                    subst h121
                    show Go E Q 10 0 0 127 [(0, .ref (a 0)), (1, .int x), (2, .int y), (3, .int l), (4, .int i), (5, .ref (a 43)), (7, .long z), (9, .int (nI (j + 1)))] [] (loftW cI cS a m (pA vv 4 (putv (vv 4) 8 x (nI (j + 1)))) w (seS T C li ap va le) (tpS B L P F) sh kf)
                    refine g_aload_n hE dX4_meshes_127 0 rfl ?_
                    refine g_get hE fl_X4_16 dX4_meshes_128 0 rfl rfl ?_
                    refine g_aload hE dX4_meshes_131 5 rfl ?_
                    refine g_iload hE dX4_meshes_133 4 rfl ?_
                    refine g_callS hE (c_X4_bearsOut cI cS (fun i => a (i + 11)) (fun i => a (i + 43)) (pA vv 4 (putv (vv 4) 8 x (nI (j + 1)))) (by first | assumption | exact mw_of (by assumption)) (sh 3 0) (sh 3 1 0) (sh 3 1 1) i) mk_X4_bearsOut st_X4_bearsOut ml_X4_240 dX4_meshes_135 (As := [.ref (a 11), .ref (a 43), .int i]) (rest := []) rfl rfl (by decide) (by decide) (Nat.le_of_ble_eq_true rfl) (by decide) (by decide) [11, 12, 13, 14, 15, 16, 17, 18, 19, 20, 43, 44] rfl (by decide) (fun u => Nat.le_of_ble_eq_true rfl) (ws' := fun u => loftW cI cS a m (pA (pA vv 4 (putv (vv 4) 8 x (nI (j + 1)))) 8 u.2) w (seS T C li ap va le) (tpS B L P F) sh kf) (fun u => rfl) (fun u hu => ?_)
                    obtain ⟨r_122, h_123⟩ := u
                    have h124 : r_122 = if boB (pA vv 4 (putv (vv 4) 8 x (nI (j + 1)))) n pl (sh 3 0) i n = true then 1 else 0 := hu
                    by_cases c125 : boB (pA vv 4 (putv (vv 4) 8 x (nI (j + 1)))) n pl (sh 3 0) i n = true
                    · rw [if_pos c125] at h124
                      subst h124
                      show Go E Q 10 0 0 138 [(0, .ref (a 0)), (1, .int x), (2, .int y), (3, .int l), (4, .int i), (5, .ref (a 43)), (7, .long z), (9, .int (nI (j + 1)))] [.int 1] (loftW cI cS a m (pA (pA vv 4 (putv (vv 4) 8 x (nI (j + 1)))) 8 h_123) w (seS T C li ap va le) (tpS B L P F) sh kf)
                      refine g_if_eq hE 152 dX4_meshes_138 (by decide) (fun c126 => absurd c126 (by decide)) (fun c126 => ?_)
                      refine g_lload hE dX4_meshes_141 6 rfl ?_
                      refine g_lconst hE dX4_meshes_143 1 (by decide) ?_
                      refine g_iload hE dX4_meshes_144 7 rfl ?_
                      refine g_iconst hE dX4_meshes_146 1 (by decide) ?_
                      refine g_isub_n hE dX4_meshes_147 (show (nI (j + 1)) = nI (j + 1) from rfl) (show 1 = nI 1 from rfl) (by omega) ?_
                      refine g_lshl hE dX4_meshes_148 ?_
                      refine g_lor hE dX4_meshes_149 ?_
                      refine g_lstore hE dX4_meshes_150 [(7, .long (z ||| (1 <<< (Int32.toInt64 (nI ((j + 1) - 1)) &&& 63)))), (0, .ref (a 0)), (1, .int x), (2, .int y), (3, .int l), (4, .int i), (5, .ref (a 43)), (9, .int (nI (j + 1)))] (by decide) rfl ?_
                      refine g_iinc hE dX4_meshes_152 7 (nI ((j + 1) + 1)) [(9, .int (nI ((j + 1) + 1))), (7, .long (z ||| (1 <<< (Int32.toInt64 (nI ((j + 1) - 1)) &&& 63)))), (0, .ref (a 0)), (1, .int x), (2, .int y), (3, .int l), (4, .int i), (5, .ref (a 43))] rfl (nI_1 _) (by decide) rfl ?_
                      refine g_goto hE 107 dX4_meshes_155 (by decide) ?_
                      refine g_locals [2, 3, 4, 5, 6, 7, 1, 0] [(0, .ref (a 0)), (1, .int x), (2, .int y), (3, .int l), (4, .int i), (5, .ref (a 43)), (7, .long (z ||| (1 <<< (Int32.toInt64 (nI ((j + 1) - 1)) &&& 63)))), (9, .int (nI ((j + 1) + 1)))] rfl ?_
                      exact ih_107 (j + 1) (z ||| (1 <<< (Int32.toInt64 (nI ((j + 1) - 1)) &&& 63))) (pA (pA vv 4 (putv (vv 4) 8 x (nI (j + 1)))) 8 h_123) (by first | assumption | omega) (ms_y hE4 hz c125) (shM_pA (h2 := h_123) (show MW (pA vv 4 (putv (vv 4) 8 x (nI (j + 1)))) n sv pl from hVV)) (E4_8 (E4_put hE4 _)) (by omega)
                    · rw [if_neg c125] at h124
                      subst h124
                      show Go E Q 10 0 0 138 [(0, .ref (a 0)), (1, .int x), (2, .int y), (3, .int l), (4, .int i), (5, .ref (a 43)), (7, .long z), (9, .int (nI (j + 1)))] [.int 0] (loftW cI cS a m (pA (pA vv 4 (putv (vv 4) 8 x (nI (j + 1)))) 8 h_123) w (seS T C li ap va le) (tpS B L P F) sh kf)
                      refine g_if_eq hE 152 dX4_meshes_138 (by decide) (fun c127 => ?_) (fun c127 => absurd (by decide) c127)
                      refine g_iinc hE dX4_meshes_152 7 (nI ((j + 1) + 1)) [(9, .int (nI ((j + 1) + 1))), (0, .ref (a 0)), (1, .int x), (2, .int y), (3, .int l), (4, .int i), (5, .ref (a 43)), (7, .long z)] rfl (nI_1 _) (by decide) rfl ?_
                      refine g_goto hE 107 dX4_meshes_155 (by decide) ?_
                      refine g_locals [1, 2, 3, 4, 5, 6, 7, 0] [(0, .ref (a 0)), (1, .int x), (2, .int y), (3, .int l), (4, .int i), (5, .ref (a 43)), (7, .long z), (9, .int (nI ((j + 1) + 1)))] rfl ?_
                      exact ih_107 (j + 1) z (pA (pA vv 4 (putv (vv 4) 8 x (nI (j + 1)))) 8 h_123) (by first | assumption | omega) (ms_n hE4 hz c125) (shM_pA (h2 := h_123) (show MW (pA vv 4 (putv (vv 4) 8 x (nI (j + 1)))) n sv pl from hVV)) (E4_8 (E4_put hE4 _)) (by omega)
              refine g_locals [4, 5, 6, 7, 8, 3, 1, 0] [(0, .ref (a 0)), (1, .int x), (2, .int y), (3, .int l), (4, .int i), (5, .ref (a 43)), (7, .long 0), (9, .int 1)] rfl ?_
              exact L107 _ 0 0 (tkA v m) (Nat.zero_le _) rfl (MW_tk hM) E4_tk (Nat.lt_succ_self _)
            · refine g_iload hE dX4_meshes_86 0 rfl ?_
              refine g_i2l hE dX4_meshes_88 ?_
              exact g_lret hE hQ dX4_meshes_89 (3, (Int32.toInt64 (refS (sh 3 1 0) (sh 3 1 1) l i (m 9 0))), v) rfl rfl ⟨h2, (by show (Int32.toInt64 (refS (sh 3 1 0) (sh 3 1 1) l i (m 9 0))) = fMesh m n pl sh 3 x l i; simp only [fMesh, if_pos c101, if_neg (show ¬ (3 : Nat) = 4 by decide), if_pos c105, if_pos c109, if_neg (show ¬ (atv (m 3) 8 x) = 3 from c113), if_neg (show ¬ (refS (sh 3 1 0) (sh 3 1 1) l i (m 9 0)) = 0 from c116), if_pos trivial]), Or.inr rfl⟩
          · refine g_ldc2 hE dX4_meshes_60 cl_X4_231 ?_
            exact g_lret hE hQ dX4_meshes_63 (3, (-2), v) rfl rfl ⟨h2, (by show (-2) = fMesh m n pl sh 3 x l i; simp only [fMesh, if_pos c101, if_neg (show ¬ (3 : Nat) = 4 by decide), if_pos c105, if_pos c109, if_pos (show (atv (m 3) 8 x) = 3 from c113), if_pos trivial]), Or.inr rfl⟩
        · rw [if_neg c109] at h108
          subst h108
          show Go E Q 10 0 0 42 [(5, .ref (a 43)), (0, .ref (a 0)), (1, .int x), (2, .int y), (3, .int l), (4, .int i)] [.int 0] (loftW cI cS a m v w (seS T C li ap va le) (tpS B L P F) sh kf)
          refine g_if_eq hE 60 dX4_meshes_42 (by decide) (fun c128 => ?_) (fun c128 => absurd (by decide) c128)
          refine g_ldc2 hE dX4_meshes_60 cl_X4_231 ?_
          exact g_lret hE hQ dX4_meshes_63 (3, (-2), v) rfl rfl ⟨h2, (by show (-2) = fMesh m n pl sh 3 x l i; simp only [fMesh, if_pos c101, if_neg (show ¬ (3 : Nat) = 4 by decide), if_pos c105, if_neg c109, if_pos trivial]), Or.inr rfl⟩
      · rw [if_neg c105] at h104
        subst h104
        show Go E Q 10 0 0 27 [(5, .ref (a 43)), (0, .ref (a 0)), (1, .int x), (2, .int y), (3, .int l), (4, .int i)] [.int 0] (loftW cI cS a m v w (seS T C li ap va le) (tpS B L P F) sh kf)
        refine g_if_ne hE 34 dX4_meshes_27 (by decide) (fun c129 => absurd (by decide) c129) (fun c129 => ?_)
        refine g_ldc2 hE dX4_meshes_30 cl_X4_215 ?_
        exact g_lret hE hQ dX4_meshes_33 (3, (-1), v) rfl rfl ⟨h2, (by show (-1) = fMesh m n pl sh 3 x l i; simp only [fMesh, if_pos c101, if_neg (show ¬ (3 : Nat) = 4 by decide), if_neg c105, if_pos trivial]), Or.inr rfl⟩
    · rw [if_neg c101] at h100
      subst h100
      show Go E Q 10 0 0 15 [(5, .ref (a 43)), (0, .ref (a 0)), (1, .int x), (2, .int y), (3, .int l), (4, .int i)] [.int 0] (loftW cI cS a m v w (seS T C li ap va le) (tpS B L P F) sh kf)
      refine g_if_eq hE 30 dX4_meshes_15 (by decide) (fun c130 => ?_) (fun c130 => absurd (by decide) c130)
      refine g_ldc2 hE dX4_meshes_30 cl_X4_215 ?_
      exact g_lret hE hQ dX4_meshes_33 (3, (-1), v) rfl rfl ⟨h2, (by show (-1) = fMesh m n pl sh 3 x l i; simp only [fMesh, if_neg c101, if_pos trivial]), Or.inr rfl⟩
  · show Go E Q 10 0 0 5 [(0, .ref (a 0)), (1, .int x), (2, .int y), (3, .int l), (4, .int i)] [.null] (loftW cI cS a m v w (seS T C li ap va le) (tpS B L P F) sh kf)
    refine g_astoreN hE dX4_meshes_5 [(5, .null), (0, .ref (a 0)), (1, .int x), (2, .int y), (3, .int l), (4, .int i)] (by decide) rfl ?_
    refine g_aload_n hE dX4_meshes_7 1 rfl ?_
    refine g_get hE fl_X4_10 dX4_meshes_8 0 rfl rfl ?_
    refine g_iload_n hE dX4_meshes_11 2 rfl ?_
    refine g_callV hE (c_X0_hasSieve cI cS (fun i => a (i + 1)) m (by first | assumption | exact mw_of (by assumption)) x) mk_X0_hasSieve mv_X0_hasSieve ml_X4_85 dX4_meshes_12 (As := [.int x]) (rest := []) rfl rfl 1 rfl (show vwCl[0]? = some (RX0, TX0, 13) from rfl) (by decide) (by decide) (Nat.le_of_ble_eq_true rfl) (by decide) (by decide) [1, 2, 3, 4, 5, 6, 7, 8, 9, 10] rfl (by decide) (fun u => Nat.le_of_ble_eq_true rfl) (ws' := fun u => loftW cI cS a m v w (seS T C li ap va le) (tpS B L P F) sh kf) (fun u => rfl) (fun u hu => ?_)
    obtain ⟨r_131, rfl⟩ : ∃ z, z = u := ⟨_, rfl⟩
    have h132 : r_131 = if 0 ≤ x ∧ x < m 9 1 then 1 else 0 := hu
    by_cases c133 : 0 ≤ x ∧ x < m 9 1
    · rw [if_pos c133] at h132
      subst h132
      show Go E Q 10 0 0 15 [(5, .null), (0, .ref (a 0)), (1, .int x), (2, .int y), (3, .int l), (4, .int i)] [.int 1] (loftW cI cS a m v w (seS T C li ap va le) (tpS B L P F) sh kf)
      refine g_if_eq hE 30 dX4_meshes_15 (by decide) (fun c134 => absurd c134 (by decide)) (fun c134 => ?_)
      refine g_aloadN hE dX4_meshes_18 0 rfl ?_
      refine g_ifnullN hE 30 dX4_meshes_20 (by decide) ?_
      refine g_ldc2 hE dX4_meshes_30 cl_X4_215 ?_
      exact g_lret hE hQ dX4_meshes_33 (4, (-1), v) rfl rfl ⟨h2, (by show (-1) = fMesh m n pl sh 4 x l i; simp only [fMesh, if_pos c133, if_pos (show (4 : Nat) = 4 by decide), if_pos trivial]), Or.inr rfl⟩
    · rw [if_neg c133] at h132
      subst h132
      show Go E Q 10 0 0 15 [(5, .null), (0, .ref (a 0)), (1, .int x), (2, .int y), (3, .int l), (4, .int i)] [.int 0] (loftW cI cS a m v w (seS T C li ap va le) (tpS B L P F) sh kf)
      refine g_if_eq hE 30 dX4_meshes_15 (by decide) (fun c135 => ?_) (fun c135 => absurd (by decide) c135)
      refine g_ldc2 hE dX4_meshes_30 cl_X4_215 ?_
      exact g_lret hE hQ dX4_meshes_33 (4, (-1), v) rfl rfl ⟨h2, (by show (-1) = fMesh m n pl sh 4 x l i; simp only [fMesh, if_neg c133, if_pos trivial]), Or.inr rfl⟩
set_option maxHeartbeats 4000000 in
set_option maxRecDepth 100000 in
theorem c_X4_torn (cI cS : ClassId) (a : Nat → Nat) (m v w : Nat → Nat → Int32) (T C : Nat → Int32) (li ap va le : Int32) (B : Nat → Int32) (L P : Nat) (F : Int32) (sh : Nat → Nat → Nat → Int32) (kf : Int32) {n sv pl n1 sv1 pl1 n2 sv2 pl2 : Nat} (hM : MW m n sv pl) (hV : MW v n1 sv1 pl1) (hW : MW w n2 sv2 pl2) (hL : L ≤ 120) (x l i : Int32) : CT cI cS yX4_torn cX4_torn 10 (some .int) 6 [.ref (a 0), .int x, .int l, .int i] (loftW cI cS a m v w (seS T C li ap va le) (tpS B L P F) sh kf) 0 0 (fun u : Nat × Int32 × (Nat → Nat → Int32) × (Nat → Int32) => SK u.1 x ∧ u.2.1 = fTorn m n pl sh u.1 l i ∧ (MW u.2.2.1 n sv pl ∨ u.2.2.1 = v)) (fun u => some (.int u.2.1)) (fun u => (loftW cI cS a (pA m 8 u.2.2.2) u.2.2.1 w (seS T C li ap va le) (tpS B L P F) sh kf)) := by
  refine ct_intro (by decide) (Nat.le_of_ble_eq_true rfl) (fun E Q hE hQ hI => ?_)
  have hE : CxOk E cI cS RX4 cX4_torn 10 (some .int) 6 0 0 := hE
  show Go E Q 10 0 0 0 [(0, .ref (a 0)), (1, .int x), (2, .int l), (3, .int i)] [] (loftW cI cS a m v w (seS T C li ap va le) (tpS B L P F) sh kf)
  have hn := hM.1
  have hn6 := hM.2.1
  have hsv := hM.2.2.1
  have hsv8 := hM.2.2.2.1
  have hpl := hM.2.2.2.2.1
  have hpl6 := hM.2.2.2.2.2
  have hn1 := hV.1
  have hn16 := hV.2.1
  have hsv1 := hV.2.2.1
  have hsv18 := hV.2.2.2.1
  have hpl1 := hV.2.2.2.2.1
  have hpl16 := hV.2.2.2.2.2
  refine g_aload_n hE dX4_torn_0 0 rfl ?_
  refine g_iload_n hE dX4_torn_1 1 rfl ?_
  refine g_callV hE (c_X4_sheetAt cI cS a m v w T C li ap va le B L P F sh kf (by first | assumption | exact mw_of (by assumption)) (by first | assumption | exact mw_of (by assumption)) (by first | assumption | exact mw_of (by assumption)) hL x) mk_X4_sheetAt mv_X4_sheetAt ml_X4_221 dX4_torn_2 (As := [.int x]) (rest := []) rfl rfl 0 rfl (show vwCl[4]? = some (RX4, TX4, 7) from rfl) (by decide) (by decide) (Nat.le_of_ble_eq_true rfl) (by decide) (by decide) [0, 1, 2, 3, 4, 5, 6, 7, 8, 9, 10, 11, 12, 13, 14, 15, 16, 17, 18, 19, 20, 21, 22, 23, 24, 25, 26, 27, 28, 29, 30, 31, 32, 33, 34, 35, 36, 37, 38, 39, 40, 41, 42, 43, 44] rfl (by decide) (fun u => Nat.le_of_ble_eq_true rfl) (ws' := fun u => loftW cI cS a m v w (seS T C li ap va le) (tpS B L P F) sh kf) (fun u => rfl) (fun u hu => ?_)
  obtain ⟨k_1, rfl⟩ : ∃ z, z = u := ⟨_, rfl⟩
  have h2 : SK k_1 x := hu
  rcases (show k_1 = 0 ∨ k_1 = 1 ∨ k_1 = 2 ∨ k_1 = 3 ∨ k_1 = 4 by rcases h2 with q | q <;> omega) with rfl | rfl | rfl | rfl | rfl
  · show Go E Q 10 0 0 5 [(0, .ref (a 0)), (1, .int x), (2, .int l), (3, .int i)] [.ref (a 37)] (loftW cI cS a m v w (seS T C li ap va le) (tpS B L P F) sh kf)
    refine g_astore hE dX4_torn_5 [(4, .ref (a 37)), (0, .ref (a 0)), (1, .int x), (2, .int l), (3, .int i)] (by decide) rfl ?_
    refine g_aload hE dX4_torn_7 0 rfl ?_
    refine g_ifnull hE dX4_torn_9 ?_
    refine g_iload_n hE dX4_torn_12 3 rfl ?_
    refine g_callS hE (c_X4_isLane cI cS l) mk_X4_isLane st_X4_isLane ml_X4_225 dX4_torn_13 (As := [.int l]) (rest := []) rfl rfl (by decide) (by decide) (Nat.le_of_ble_eq_true rfl) (by decide) (by decide) [] rfl (by decide) (fun u => Nat.le_of_ble_eq_true rfl) (ws' := fun u => loftW cI cS a m v w (seS T C li ap va le) (tpS B L P F) sh kf) (fun u => rfl) (fun u hu => ?_)
    obtain ⟨r_3, rfl⟩ : ∃ z, z = u := ⟨_, rfl⟩
    have h4 : r_3 = if 0 ≤ l ∧ l ≤ 2 then 1 else 0 := hu
    by_cases c5 : 0 ≤ l ∧ l ≤ 2
    · rw [if_pos c5] at h4
      subst h4
      show Go E Q 10 0 0 16 [(4, .ref (a 37)), (0, .ref (a 0)), (1, .int x), (2, .int l), (3, .int i)] [.int 1] (loftW cI cS a m v w (seS T C li ap va le) (tpS B L P F) sh kf)
      refine g_if_ne hE 21 dX4_torn_16 (by decide) (fun c6 => ?_) (fun c6 => absurd c6 (by decide))
      refine g_aload hE dX4_torn_21 0 rfl ?_
      refine g_iload_n hE dX4_torn_23 3 rfl ?_
      refine g_iload_n hE dX4_torn_24 4 rfl ?_
      refine g_aload_n hE dX4_torn_25 1 rfl ?_
      refine g_get hE fl_X4_10 dX4_torn_26 0 rfl rfl ?_
      refine g_get hE fl_X4_51 dX4_torn_29 1 rfl rfl ?_
      refine g_callV hE (c_X2_refusal cI cS (fun i => a (i + 37)) (sh 0 0) (sh 0 1 0) (sh 0 1 1) l i (m 9 0)) mk_X2_refusal mv_X2_refusal ml_X4_233 dX4_torn_32 (As := [.int l, .int i, .int (m 9 0)]) (rest := []) rfl rfl 37 rfl (show vwCl[2]? = some (RX2, TX2, 3) from rfl) (by decide) (by decide) (Nat.le_of_ble_eq_true rfl) (by decide) (by decide) [37, 38] rfl (by decide) (fun u => Nat.le_of_ble_eq_true rfl) (ws' := fun u => loftW cI cS a m v w (seS T C li ap va le) (tpS B L P F) sh kf) (fun u => rfl) (fun u hu => ?_)
      obtain ⟨r_7, rfl⟩ : ∃ z, z = u := ⟨_, rfl⟩
      have h8 : r_7 = (refS (sh 0 1 0) (sh 0 1 1) l i (m 9 0)) := hu
      subst h8
      show Go E Q 10 0 0 35 [(4, .ref (a 37)), (0, .ref (a 0)), (1, .int x), (2, .int l), (3, .int i)] [.int (refS (sh 0 1 0) (sh 0 1 1) l i (m 9 0))] (loftW cI cS a m v w (seS T C li ap va le) (tpS B L P F) sh kf)
      refine g_istore hE dX4_torn_35 [(5, .int (refS (sh 0 1 0) (sh 0 1 1) l i (m 9 0))), (4, .ref (a 37)), (0, .ref (a 0)), (1, .int x), (2, .int l), (3, .int i)] (by decide) rfl ?_
      refine g_iload hE dX4_torn_37 0 rfl ?_
      refine g_if_eq hE 45 dX4_torn_39 (by decide) (fun c9 => ?_) (fun c9 => ?_)
      · have L65 : ∀ (hq : Nat → Int32) (z : Int32), (z = if boB m n pl (sh 0 0) i n = true then 128 else 0) → Go E Q 10 0 0 65 [(0, .ref (a 0)), (1, .int x), (2, .int l), (3, .int i), (4, .ref (a 37)), (5, .int (refS (sh 0 1 0) (sh 0 1 1) l i (m 9 0)))] [.int z] (loftW cI cS a (pA m 8 hq) v w (seS T C li ap va le) (tpS B L P F) sh kf) := by
          intro hq z hz
          refine g_istore hE dX4_torn_65 [(6, .int z), (0, .ref (a 0)), (1, .int x), (2, .int l), (3, .int i), (4, .ref (a 37)), (5, .int (refS (sh 0 1 0) (sh 0 1 1) l i (m 9 0)))] (by decide) rfl ?_
          refine g_aload_n hE dX4_torn_67 1 rfl ?_
          refine g_get hE fl_X4_16 dX4_torn_68 0 rfl rfl ?_
          refine g_aload_n hE dX4_torn_71 1 rfl ?_
          refine g_get hE fl_X4_10 dX4_torn_72 0 rfl rfl ?_
          refine g_callV hE (c_X0_takeAll_s cI cS (fun i => a (i + 11)) (fun i => a (i + 1)) v (pA m 8 hq)) mk_X0_takeAll mv_X0_takeAll ml_X4_187 dX4_torn_75 (As := [.ref (a 1)]) (rest := []) rfl rfl 11 rfl (show vwCl[0]? = some (RX0, TX0, 13) from rfl) (by decide) (by decide) (Nat.le_of_ble_eq_true rfl) (by decide) (by decide) [1, 2, 3, 4, 5, 6, 7, 8, 9, 10, 11, 12, 13, 14, 15, 16, 17, 18, 19, 20] rfl (by decide) (fun u => Nat.le_of_ble_eq_true rfl) (ws' := fun u => loftW cI cS a (pA m 8 hq) (tkA v (pA m 8 hq)) w (seS T C li ap va le) (tpS B L P F) sh kf) (fun u => rfl) (fun u hu => ?_)
          show Go E Q 10 0 0 78 [(6, .int z), (0, .ref (a 0)), (1, .int x), (2, .int l), (3, .int i), (4, .ref (a 37)), (5, .int (refS (sh 0 1 0) (sh 0 1 1) l i (m 9 0)))] [] (loftW cI cS a (pA m 8 hq) (tkA v (pA m 8 hq)) w (seS T C li ap va le) (tpS B L P F) sh kf)
          refine g_iconst hE dX4_torn_78 0 (by decide) ?_
          refine g_istore hE dX4_torn_79 [(7, .int 0), (6, .int z), (0, .ref (a 0)), (1, .int x), (2, .int l), (3, .int i), (4, .ref (a 37)), (5, .int (refS (sh 0 1 0) (sh 0 1 1) l i (m 9 0)))] (by decide) rfl ?_
          have L81 : ∀ (n_81 : Nat) (p : Nat) (y : Int32) (vv : Nat → Nat → Int32), (p ≤ pl) → (y = trS m n pl (sh 0 0) i p) → (MW vv n sv pl) → (EqM vv m) → (pl - p < n_81) → Go E Q 10 0 0 81 [(0, .ref (a 0)), (1, .int x), (2, .int l), (3, .int i), (4, .ref (a 37)), (5, .int (refS (sh 0 1 0) (sh 0 1 1) l i (m 9 0))), (6, .int y), (7, .int (nI p))] [] (loftW cI cS a (pA m 8 hq) vv w (seS T C li ap va le) (tpS B L P F) sh kf) := by
            intro n_81
            induction n_81 with
            | zero => intro p y vv hp hy hVV hE1 hm_81; exact absurd hm_81 (Nat.not_lt_zero _)
            | succ n_81 ih_81 =>
              intro p y vv hp hy hVV hE1 hm_81
              refine g_iload hE dX4_torn_81 7 rfl ?_
              refine g_aload_n hE dX4_torn_83 0 rfl ?_
              refine g_get hE fl_X4_10 dX4_torn_84 0 rfl rfl ?_
              refine g_get hE fl_X4_125 dX4_torn_87 1 rfl rfl ?_
              refine g_icmp_ge hE 164 dX4_torn_90 (by decide) (fun c11 => ?_) (fun c11 => ?_)
              · have kc11 := nat_le_t (show (m 9 2) = nI pl from hpl) (show (nI p) = nI p from rfl) (by omega) (by omega) c11
                refine g_iload hE dX4_torn_164 6 rfl ?_
                exact g_iret hE hQ dX4_torn_166 rfl (0, y, vv, hq) rfl rfl ⟨h2, (by have e : pl = p := (by omega); rw [hy, ← e]; show trS m n pl (sh 0 0) i pl = fTorn m n pl sh 0 l i; simp only [fTorn, if_neg (show ¬ (0 : Nat) = 4 by decide), if_pos c5, if_pos (show (refS (sh 0 1 0) (sh 0 1 1) l i (m 9 0)) = 0 from c9), if_pos trivial]), Or.inl hVV⟩
              · have kc11 := nat_le_f (show (m 9 2) = nI pl from hpl) (show (nI p) = nI p from rfl) (by omega) (by omega) c11
                refine g_aload_n hE dX4_torn_93 0 rfl ?_
                refine g_get hE fl_X4_10 dX4_torn_94 0 rfl rfl ?_
                refine g_get hE fl_X4_170 dX4_torn_97 1 rfl rfl ?_
                refine g_iload hE dX4_torn_100 7 rfl ?_
                refine g_callS hE (c_X4_at cI cS (a 9) 6 (m 7) (nI p) (by decide)) mk_X4_at st_X4_at ml_X4_91 dX4_torn_102 (As := [.ref (a 9), .int (nI p)]) (rest := []) rfl rfl (by decide) (by decide) (Nat.le_of_ble_eq_true rfl) (by decide) (by decide) [9] rfl (by decide) (fun u => Nat.le_of_ble_eq_true rfl) (ws' := fun u => loftW cI cS a (pA m 8 hq) vv w (seS T C li ap va le) (tpS B L P F) sh kf) (fun u => rfl) (fun u hu => ?_)
                obtain ⟨r_12, rfl⟩ : ∃ z, z = u := ⟨_, rfl⟩
                have h13 : r_12 = ((m 7) p) := hu.trans (by rw [show (nI p) = nI p from rfl]; exact atv_n (by omega) (by decide))
                subst h13
                show Go E Q 10 0 0 105 [(0, .ref (a 0)), (1, .int x), (2, .int l), (3, .int i), (4, .ref (a 37)), (5, .int (refS (sh 0 1 0) (sh 0 1 1) l i (m 9 0))), (6, .int y), (7, .int (nI p))] [.int ((m 7) p)] (loftW cI cS a (pA m 8 hq) vv w (seS T C li ap va le) (tpS B L P F) sh kf)
                refine g_istore hE dX4_torn_105 [(8, .int ((m 7) p)), (0, .ref (a 0)), (1, .int x), (2, .int l), (3, .int i), (4, .ref (a 37)), (5, .int (refS (sh 0 1 0) (sh 0 1 1) l i (m 9 0))), (6, .int y), (7, .int (nI p))] (by decide) rfl ?_
                refine g_aload_n hE dX4_torn_107 1 rfl ?_
                refine g_get hE fl_X4_16 dX4_torn_108 0 rfl rfl ?_
                refine g_get hE fl_X4_88 dX4_torn_111 11 rfl rfl ?_
                refine g_iload hE dX4_torn_114 0 rfl ?_
                refine g_iconst hE dX4_torn_116 3 (by decide) ?_
                refine g_callS hE (c_X4_exchange cI cS (a 15) 8 (vv 3) ((m 7) p) 3 (by decide)) mk_X4_exchange st_X4_exchange ml_X4_67 dX4_torn_117 (As := [.ref (a 15), .int ((m 7) p), .int 3]) (rest := []) rfl rfl (by decide) (by decide) (Nat.le_of_ble_eq_true rfl) (by decide) (by decide) [15] rfl (by decide) (fun u => Nat.le_of_ble_eq_true rfl) (ws' := fun u => loftW cI cS a (pA m 8 hq) (pA vv 3 u.2) w (seS T C li ap va le) (tpS B L P F) sh kf) (fun u => rfl) (fun u hu => ?_)
                obtain ⟨r_14, f_15⟩ := u
                have h16 : r_14 = atv (vv 3) 8 ((m 7) p) ∧ f_15 = putv (vv 3) 8 ((m 7) p) 3 := hu
                have h17 : f_15 = (putv (vv 3) 8 ((m 7) p) 3) := h16.2
                subst h17
                have h18 : r_14 = (atv (vv 3) 8 ((m 7) p)) := h16.1
                subst h18
                show Go E Q 10 0 0 120 [(8, .int ((m 7) p)), (0, .ref (a 0)), (1, .int x), (2, .int l), (3, .int i), (4, .ref (a 37)), (5, .int (refS (sh 0 1 0) (sh 0 1 1) l i (m 9 0))), (6, .int y), (7, .int (nI p))] [.int (atv (vv 3) 8 ((m 7) p))] (loftW cI cS a (pA m 8 hq) (pA vv 3 (putv (vv 3) 8 ((m 7) p) 3)) w (seS T C li ap va le) (tpS B L P F) sh kf)
                refine g_istore hE dX4_torn_120 [(9, .int (atv (vv 3) 8 ((m 7) p))), (8, .int ((m 7) p)), (0, .ref (a 0)), (1, .int x), (2, .int l), (3, .int i), (4, .ref (a 37)), (5, .int (refS (sh 0 1 0) (sh 0 1 1) l i (m 9 0))), (6, .int y), (7, .int (nI p))] (by decide) rfl ?_
                refine g_aload_n hE dX4_torn_122 2 rfl ?_
                refine g_get hE fl_X4_16 dX4_torn_123 0 rfl rfl ?_
                refine g_aload hE dX4_torn_126 6 rfl ?_
                refine g_iload_n hE dX4_torn_128 5 rfl ?_
                refine g_callS hE (c_X4_bearsOut cI cS (fun i => a (i + 11)) (fun i => a (i + 37)) (pA vv 3 (putv (vv 3) 8 ((m 7) p) 3)) (by first | assumption | exact mw_of (by assumption)) (sh 0 0) (sh 0 1 0) (sh 0 1 1) i) mk_X4_bearsOut st_X4_bearsOut ml_X4_240 dX4_torn_129 (As := [.ref (a 11), .ref (a 37), .int i]) (rest := []) rfl rfl (by decide) (by decide) (Nat.le_of_ble_eq_true rfl) (by decide) (by decide) [11, 12, 13, 14, 15, 16, 17, 18, 19, 20, 37, 38] rfl (by decide) (fun u => Nat.le_of_ble_eq_true rfl) (ws' := fun u => loftW cI cS a (pA m 8 hq) (pA (pA vv 3 (putv (vv 3) 8 ((m 7) p) 3)) 8 u.2) w (seS T C li ap va le) (tpS B L P F) sh kf) (fun u => rfl) (fun u hu => ?_)
                obtain ⟨r_19, h_20⟩ := u
                have h21 : r_19 = if boB (pA vv 3 (putv (vv 3) 8 ((m 7) p) 3)) n pl (sh 0 0) i n = true then 1 else 0 := hu
                by_cases c22 : boB (pA vv 3 (putv (vv 3) 8 ((m 7) p) 3)) n pl (sh 0 0) i n = true
                · rw [if_pos c22] at h21
                  subst h21
                  show Go E Q 10 0 0 132 [(9, .int (atv (vv 3) 8 ((m 7) p))), (8, .int ((m 7) p)), (0, .ref (a 0)), (1, .int x), (2, .int l), (3, .int i), (4, .ref (a 37)), (5, .int (refS (sh 0 1 0) (sh 0 1 1) l i (m 9 0))), (6, .int y), (7, .int (nI p))] [.int 1] (loftW cI cS a (pA m 8 hq) (pA (pA vv 3 (putv (vv 3) 8 ((m 7) p) 3)) 8 h_20) w (seS T C li ap va le) (tpS B L P F) sh kf)
                  refine g_if_eq hE 144 dX4_torn_132 (by decide) (fun c23 => absurd c23 (by decide)) (fun c23 => ?_)
                  refine g_iload hE dX4_torn_135 8 rfl ?_
                  refine g_iconst hE dX4_torn_137 1 (by decide) ?_
                  refine g_iload hE dX4_torn_138 9 rfl ?_
                  refine g_ishl hE dX4_torn_140 ?_
                  refine g_ior hE dX4_torn_141 ?_
                  refine g_istore hE dX4_torn_142 [(6, .int (y ||| (1 <<< ((nI p) &&& 31)))), (9, .int (atv (vv 3) 8 ((m 7) p))), (8, .int ((m 7) p)), (0, .ref (a 0)), (1, .int x), (2, .int l), (3, .int i), (4, .ref (a 37)), (5, .int (refS (sh 0 1 0) (sh 0 1 1) l i (m 9 0))), (7, .int (nI p))] (by decide) rfl ?_
                  refine g_aload_n hE dX4_torn_144 3 rfl ?_
                  refine g_get hE fl_X4_16 dX4_torn_145 0 rfl rfl ?_
                  refine g_get hE fl_X4_88 dX4_torn_148 11 rfl rfl ?_
                  refine g_iload hE dX4_torn_151 2 rfl ?_
                  refine g_iload hE dX4_torn_153 1 rfl ?_
                  refine g_callS hE (c_X4_put cI cS (a 15) 8 (putv (vv 3) 8 ((m 7) p) 3) ((m 7) p) (atv (vv 3) 8 ((m 7) p)) (by decide)) mk_X4_put st_X4_put ml_X4_236 dX4_torn_155 (As := [.ref (a 15), .int ((m 7) p), .int (atv (vv 3) 8 ((m 7) p))]) (rest := []) rfl rfl (by decide) (by decide) (Nat.le_of_ble_eq_true rfl) (by decide) (by decide) [15] rfl (by decide) (fun u => Nat.le_of_ble_eq_true rfl) (ws' := fun u => loftW cI cS a (pA m 8 hq) (pA (pA (pA vv 3 (putv (vv 3) 8 ((m 7) p) 3)) 8 h_20) 3 u) w (seS T C li ap va le) (tpS B L P F) sh kf) (fun u => rfl) (fun u hu => ?_)
                  obtain ⟨f_24, rfl⟩ : ∃ z, z = u := ⟨_, rfl⟩
                  have h25 : f_24 = putv (putv (vv 3) 8 ((m 7) p) 3) 8 ((m 7) p) (atv (vv 3) 8 ((m 7) p)) := hu
                  have h26 : f_24 = (putv (putv (vv 3) 8 ((m 7) p) 3) 8 ((m 7) p) (atv (vv 3) 8 ((m 7) p))) := h25
                  subst h26
                  show Go E Q 10 0 0 158 [(6, .int (y ||| (1 <<< ((nI p) &&& 31)))), (9, .int (atv (vv 3) 8 ((m 7) p))), (8, .int ((m 7) p)), (0, .ref (a 0)), (1, .int x), (2, .int l), (3, .int i), (4, .ref (a 37)), (5, .int (refS (sh 0 1 0) (sh 0 1 1) l i (m 9 0))), (7, .int (nI p))] [] (loftW cI cS a (pA m 8 hq) (pA (pA (pA vv 3 (putv (vv 3) 8 ((m 7) p) 3)) 8 h_20) 3 (putv (putv (vv 3) 8 ((m 7) p) 3) 8 ((m 7) p) (atv (vv 3) 8 ((m 7) p)))) w (seS T C li ap va le) (tpS B L P F) sh kf)
                  refine g_iinc hE dX4_torn_158 9 (nI (p + 1)) [(7, .int (nI (p + 1))), (6, .int (y ||| (1 <<< ((nI p) &&& 31)))), (9, .int (atv (vv 3) 8 ((m 7) p))), (8, .int ((m 7) p)), (0, .ref (a 0)), (1, .int x), (2, .int l), (3, .int i), (4, .ref (a 37)), (5, .int (refS (sh 0 1 0) (sh 0 1 1) l i (m 9 0)))] rfl (nI_1 _) (by decide) rfl ?_
                  refine g_goto hE 81 dX4_torn_161 (by decide) ?_
                  refine g_locals [4, 5, 6, 7, 8, 9, 1, 0] [(0, .ref (a 0)), (1, .int x), (2, .int l), (3, .int i), (4, .ref (a 37)), (5, .int (refS (sh 0 1 0) (sh 0 1 1) l i (m 9 0))), (6, .int (y ||| (1 <<< ((nI p) &&& 31)))), (7, .int (nI (p + 1)))] rfl ?_
                  exact ih_81 (p + 1) (y ||| (1 <<< ((nI p) &&& 31))) (pA (pA (pA vv 3 (putv (vv 3) 8 ((m 7) p) 3)) 8 h_20) 3 (putv (putv (vv 3) 8 ((m 7) p) 3) 8 ((m 7) p) (atv (vv 3) 8 ((m 7) p)))) (by first | assumption | omega) (tr_y hE1 hy c22) hVV (tr_E hE1) (by omega)
                · rw [if_neg c22] at h21
                  subst h21
                  show Go E Q 10 0 0 132 [(9, .int (atv (vv 3) 8 ((m 7) p))), (8, .int ((m 7) p)), (0, .ref (a 0)), (1, .int x), (2, .int l), (3, .int i), (4, .ref (a 37)), (5, .int (refS (sh 0 1 0) (sh 0 1 1) l i (m 9 0))), (6, .int y), (7, .int (nI p))] [.int 0] (loftW cI cS a (pA m 8 hq) (pA (pA vv 3 (putv (vv 3) 8 ((m 7) p) 3)) 8 h_20) w (seS T C li ap va le) (tpS B L P F) sh kf)
                  refine g_if_eq hE 144 dX4_torn_132 (by decide) (fun c27 => ?_) (fun c27 => absurd (by decide) c27)
                  refine g_aload_n hE dX4_torn_144 2 rfl ?_
                  refine g_get hE fl_X4_16 dX4_torn_145 0 rfl rfl ?_
                  refine g_get hE fl_X4_88 dX4_torn_148 11 rfl rfl ?_
                  refine g_iload hE dX4_torn_151 1 rfl ?_
                  refine g_iload hE dX4_torn_153 0 rfl ?_
                  refine g_callS hE (c_X4_put cI cS (a 15) 8 (putv (vv 3) 8 ((m 7) p) 3) ((m 7) p) (atv (vv 3) 8 ((m 7) p)) (by decide)) mk_X4_put st_X4_put ml_X4_236 dX4_torn_155 (As := [.ref (a 15), .int ((m 7) p), .int (atv (vv 3) 8 ((m 7) p))]) (rest := []) rfl rfl (by decide) (by decide) (Nat.le_of_ble_eq_true rfl) (by decide) (by decide) [15] rfl (by decide) (fun u => Nat.le_of_ble_eq_true rfl) (ws' := fun u => loftW cI cS a (pA m 8 hq) (pA (pA (pA vv 3 (putv (vv 3) 8 ((m 7) p) 3)) 8 h_20) 3 u) w (seS T C li ap va le) (tpS B L P F) sh kf) (fun u => rfl) (fun u hu => ?_)
                  obtain ⟨f_28, rfl⟩ : ∃ z, z = u := ⟨_, rfl⟩
                  have h29 : f_28 = putv (putv (vv 3) 8 ((m 7) p) 3) 8 ((m 7) p) (atv (vv 3) 8 ((m 7) p)) := hu
                  have h30 : f_28 = (putv (putv (vv 3) 8 ((m 7) p) 3) 8 ((m 7) p) (atv (vv 3) 8 ((m 7) p))) := h29
                  subst h30
                  show Go E Q 10 0 0 158 [(9, .int (atv (vv 3) 8 ((m 7) p))), (8, .int ((m 7) p)), (0, .ref (a 0)), (1, .int x), (2, .int l), (3, .int i), (4, .ref (a 37)), (5, .int (refS (sh 0 1 0) (sh 0 1 1) l i (m 9 0))), (6, .int y), (7, .int (nI p))] [] (loftW cI cS a (pA m 8 hq) (pA (pA (pA vv 3 (putv (vv 3) 8 ((m 7) p) 3)) 8 h_20) 3 (putv (putv (vv 3) 8 ((m 7) p) 3) 8 ((m 7) p) (atv (vv 3) 8 ((m 7) p)))) w (seS T C li ap va le) (tpS B L P F) sh kf)
                  refine g_iinc hE dX4_torn_158 9 (nI (p + 1)) [(7, .int (nI (p + 1))), (9, .int (atv (vv 3) 8 ((m 7) p))), (8, .int ((m 7) p)), (0, .ref (a 0)), (1, .int x), (2, .int l), (3, .int i), (4, .ref (a 37)), (5, .int (refS (sh 0 1 0) (sh 0 1 1) l i (m 9 0))), (6, .int y)] rfl (nI_1 _) (by decide) rfl ?_
                  refine g_goto hE 81 dX4_torn_161 (by decide) ?_
                  refine g_locals [3, 4, 5, 6, 7, 8, 9, 0] [(0, .ref (a 0)), (1, .int x), (2, .int l), (3, .int i), (4, .ref (a 37)), (5, .int (refS (sh 0 1 0) (sh 0 1 1) l i (m 9 0))), (6, .int y), (7, .int (nI (p + 1)))] rfl ?_
                  exact ih_81 (p + 1) y (pA (pA (pA vv 3 (putv (vv 3) 8 ((m 7) p) 3)) 8 h_20) 3 (putv (putv (vv 3) 8 ((m 7) p) 3) 8 ((m 7) p) (atv (vv 3) 8 ((m 7) p)))) (by first | assumption | omega) (tr_n hE1 hy c22) hVV (tr_E hE1) (by omega)
          refine g_locals [2, 3, 4, 5, 6, 7, 1, 0] [(0, .ref (a 0)), (1, .int x), (2, .int l), (3, .int i), (4, .ref (a 37)), (5, .int (refS (sh 0 1 0) (sh 0 1 1) l i (m 9 0))), (6, .int z), (7, .int 0)] rfl ?_
          exact L81 _ 0 z (tkA v (pA m 8 hq)) (Nat.zero_le _) hz (MW_tk (shM_pA hM)) EqM_tk8 (Nat.lt_succ_self _)
        refine g_aload_n hE dX4_torn_45 2 rfl ?_
        refine g_get hE fl_X4_10 dX4_torn_46 0 rfl rfl ?_
        refine g_aload hE dX4_torn_49 1 rfl ?_
        refine g_iload_n hE dX4_torn_51 5 rfl ?_
        refine g_callS hE (c_X4_bearsOut cI cS (fun i => a (i + 1)) (fun i => a (i + 37)) m (by first | assumption | exact mw_of (by assumption)) (sh 0 0) (sh 0 1 0) (sh 0 1 1) i) mk_X4_bearsOut st_X4_bearsOut ml_X4_240 dX4_torn_52 (As := [.ref (a 1), .ref (a 37), .int i]) (rest := []) rfl rfl (by decide) (by decide) (Nat.le_of_ble_eq_true rfl) (by decide) (by decide) [1, 2, 3, 4, 5, 6, 7, 8, 9, 10, 37, 38] rfl (by decide) (fun u => Nat.le_of_ble_eq_true rfl) (ws' := fun u => loftW cI cS a (pA m 8 u.2) v w (seS T C li ap va le) (tpS B L P F) sh kf) (fun u => rfl) (fun u hu => ?_)
        obtain ⟨r_31, h_32⟩ := u
        have h33 : r_31 = if boB m n pl (sh 0 0) i n = true then 1 else 0 := hu
        by_cases c34 : boB m n pl (sh 0 0) i n = true
        · rw [if_pos c34] at h33
          subst h33
          show Go E Q 10 0 0 55 [(5, .int (refS (sh 0 1 0) (sh 0 1 1) l i (m 9 0))), (4, .ref (a 37)), (0, .ref (a 0)), (1, .int x), (2, .int l), (3, .int i)] [.int 1] (loftW cI cS a (pA m 8 h_32) v w (seS T C li ap va le) (tpS B L P F) sh kf)
          refine g_if_eq hE 64 dX4_torn_55 (by decide) (fun c35 => absurd c35 (by decide)) (fun c35 => ?_)
          refine g_sipush hE dX4_torn_58 128 (by decide) ?_
          refine g_goto hE 65 dX4_torn_61 (by decide) ?_
          refine g_locals [2, 3, 4, 5, 1, 0] [(0, .ref (a 0)), (1, .int x), (2, .int l), (3, .int i), (4, .ref (a 37)), (5, .int (refS (sh 0 1 0) (sh 0 1 1) l i (m 9 0)))] rfl ?_
          exact L65 h_32 128 (by rw [if_pos c34])
        · rw [if_neg c34] at h33
          subst h33
          show Go E Q 10 0 0 55 [(5, .int (refS (sh 0 1 0) (sh 0 1 1) l i (m 9 0))), (4, .ref (a 37)), (0, .ref (a 0)), (1, .int x), (2, .int l), (3, .int i)] [.int 0] (loftW cI cS a (pA m 8 h_32) v w (seS T C li ap va le) (tpS B L P F) sh kf)
          refine g_if_eq hE 64 dX4_torn_55 (by decide) (fun c36 => ?_) (fun c36 => absurd (by decide) c36)
          refine g_iconst hE dX4_torn_64 0 (by decide) ?_
          refine g_locals [2, 3, 4, 5, 1, 0] [(0, .ref (a 0)), (1, .int x), (2, .int l), (3, .int i), (4, .ref (a 37)), (5, .int (refS (sh 0 1 0) (sh 0 1 1) l i (m 9 0)))] rfl ?_
          exact L65 h_32 0 (by rw [if_neg c34])
      · refine g_iload hE dX4_torn_42 0 rfl ?_
        refine g_world (loftW cI cS a (pA m 8 (m 8)) v w (seS T C li ap va le) (tpS B L P F) sh kf) (by rfl) ?_
        exact g_iret hE hQ dX4_torn_44 rfl (0, (refS (sh 0 1 0) (sh 0 1 1) l i (m 9 0)), v, (m 8)) rfl rfl ⟨h2, (by show (refS (sh 0 1 0) (sh 0 1 1) l i (m 9 0)) = fTorn m n pl sh 0 l i; simp only [fTorn, if_neg (show ¬ (0 : Nat) = 4 by decide), if_pos c5, if_neg (show ¬ (refS (sh 0 1 0) (sh 0 1 1) l i (m 9 0)) = 0 from c9), if_pos trivial]), Or.inr rfl⟩
    · rw [if_neg c5] at h4
      subst h4
      show Go E Q 10 0 0 16 [(4, .ref (a 37)), (0, .ref (a 0)), (1, .int x), (2, .int l), (3, .int i)] [.int 0] (loftW cI cS a m v w (seS T C li ap va le) (tpS B L P F) sh kf)
      refine g_if_ne hE 21 dX4_torn_16 (by decide) (fun c37 => absurd (by decide) c37) (fun c37 => ?_)
      refine g_iconst hE dX4_torn_19 (-1) (by decide) ?_
      refine g_world (loftW cI cS a (pA m 8 (m 8)) v w (seS T C li ap va le) (tpS B L P F) sh kf) (by rfl) ?_
      exact g_iret hE hQ dX4_torn_20 rfl (0, (-1), v, (m 8)) rfl rfl ⟨h2, (by show (-1) = fTorn m n pl sh 0 l i; simp only [fTorn, if_neg (show ¬ (0 : Nat) = 4 by decide), if_neg c5, if_pos trivial]), Or.inr rfl⟩
  · show Go E Q 10 0 0 5 [(0, .ref (a 0)), (1, .int x), (2, .int l), (3, .int i)] [.ref (a 39)] (loftW cI cS a m v w (seS T C li ap va le) (tpS B L P F) sh kf)
    refine g_astore hE dX4_torn_5 [(4, .ref (a 39)), (0, .ref (a 0)), (1, .int x), (2, .int l), (3, .int i)] (by decide) rfl ?_
    refine g_aload hE dX4_torn_7 0 rfl ?_
    refine g_ifnull hE dX4_torn_9 ?_
    refine g_iload_n hE dX4_torn_12 3 rfl ?_
    refine g_callS hE (c_X4_isLane cI cS l) mk_X4_isLane st_X4_isLane ml_X4_225 dX4_torn_13 (As := [.int l]) (rest := []) rfl rfl (by decide) (by decide) (Nat.le_of_ble_eq_true rfl) (by decide) (by decide) [] rfl (by decide) (fun u => Nat.le_of_ble_eq_true rfl) (ws' := fun u => loftW cI cS a m v w (seS T C li ap va le) (tpS B L P F) sh kf) (fun u => rfl) (fun u hu => ?_)
    obtain ⟨r_38, rfl⟩ : ∃ z, z = u := ⟨_, rfl⟩
    have h39 : r_38 = if 0 ≤ l ∧ l ≤ 2 then 1 else 0 := hu
    by_cases c40 : 0 ≤ l ∧ l ≤ 2
    · rw [if_pos c40] at h39
      subst h39
      show Go E Q 10 0 0 16 [(4, .ref (a 39)), (0, .ref (a 0)), (1, .int x), (2, .int l), (3, .int i)] [.int 1] (loftW cI cS a m v w (seS T C li ap va le) (tpS B L P F) sh kf)
      refine g_if_ne hE 21 dX4_torn_16 (by decide) (fun c41 => ?_) (fun c41 => absurd c41 (by decide))
      refine g_aload hE dX4_torn_21 0 rfl ?_
      refine g_iload_n hE dX4_torn_23 3 rfl ?_
      refine g_iload_n hE dX4_torn_24 4 rfl ?_
      refine g_aload_n hE dX4_torn_25 1 rfl ?_
      refine g_get hE fl_X4_10 dX4_torn_26 0 rfl rfl ?_
      refine g_get hE fl_X4_51 dX4_torn_29 1 rfl rfl ?_
      refine g_callV hE (c_X2_refusal cI cS (fun i => a (i + 39)) (sh 1 0) (sh 1 1 0) (sh 1 1 1) l i (m 9 0)) mk_X2_refusal mv_X2_refusal ml_X4_233 dX4_torn_32 (As := [.int l, .int i, .int (m 9 0)]) (rest := []) rfl rfl 39 rfl (show vwCl[2]? = some (RX2, TX2, 3) from rfl) (by decide) (by decide) (Nat.le_of_ble_eq_true rfl) (by decide) (by decide) [39, 40] rfl (by decide) (fun u => Nat.le_of_ble_eq_true rfl) (ws' := fun u => loftW cI cS a m v w (seS T C li ap va le) (tpS B L P F) sh kf) (fun u => rfl) (fun u hu => ?_)
      obtain ⟨r_42, rfl⟩ : ∃ z, z = u := ⟨_, rfl⟩
      have h43 : r_42 = (refS (sh 1 1 0) (sh 1 1 1) l i (m 9 0)) := hu
      subst h43
      show Go E Q 10 0 0 35 [(4, .ref (a 39)), (0, .ref (a 0)), (1, .int x), (2, .int l), (3, .int i)] [.int (refS (sh 1 1 0) (sh 1 1 1) l i (m 9 0))] (loftW cI cS a m v w (seS T C li ap va le) (tpS B L P F) sh kf)
      refine g_istore hE dX4_torn_35 [(5, .int (refS (sh 1 1 0) (sh 1 1 1) l i (m 9 0))), (4, .ref (a 39)), (0, .ref (a 0)), (1, .int x), (2, .int l), (3, .int i)] (by decide) rfl ?_
      refine g_iload hE dX4_torn_37 0 rfl ?_
      refine g_if_eq hE 45 dX4_torn_39 (by decide) (fun c44 => ?_) (fun c44 => ?_)
      · have L65 : ∀ (hq : Nat → Int32) (z : Int32), (z = if boB m n pl (sh 1 0) i n = true then 128 else 0) → Go E Q 10 0 0 65 [(0, .ref (a 0)), (1, .int x), (2, .int l), (3, .int i), (4, .ref (a 39)), (5, .int (refS (sh 1 1 0) (sh 1 1 1) l i (m 9 0)))] [.int z] (loftW cI cS a (pA m 8 hq) v w (seS T C li ap va le) (tpS B L P F) sh kf) := by
          intro hq z hz
          refine g_istore hE dX4_torn_65 [(6, .int z), (0, .ref (a 0)), (1, .int x), (2, .int l), (3, .int i), (4, .ref (a 39)), (5, .int (refS (sh 1 1 0) (sh 1 1 1) l i (m 9 0)))] (by decide) rfl ?_
          refine g_aload_n hE dX4_torn_67 1 rfl ?_
          refine g_get hE fl_X4_16 dX4_torn_68 0 rfl rfl ?_
          refine g_aload_n hE dX4_torn_71 1 rfl ?_
          refine g_get hE fl_X4_10 dX4_torn_72 0 rfl rfl ?_
          refine g_callV hE (c_X0_takeAll_s cI cS (fun i => a (i + 11)) (fun i => a (i + 1)) v (pA m 8 hq)) mk_X0_takeAll mv_X0_takeAll ml_X4_187 dX4_torn_75 (As := [.ref (a 1)]) (rest := []) rfl rfl 11 rfl (show vwCl[0]? = some (RX0, TX0, 13) from rfl) (by decide) (by decide) (Nat.le_of_ble_eq_true rfl) (by decide) (by decide) [1, 2, 3, 4, 5, 6, 7, 8, 9, 10, 11, 12, 13, 14, 15, 16, 17, 18, 19, 20] rfl (by decide) (fun u => Nat.le_of_ble_eq_true rfl) (ws' := fun u => loftW cI cS a (pA m 8 hq) (tkA v (pA m 8 hq)) w (seS T C li ap va le) (tpS B L P F) sh kf) (fun u => rfl) (fun u hu => ?_)
          show Go E Q 10 0 0 78 [(6, .int z), (0, .ref (a 0)), (1, .int x), (2, .int l), (3, .int i), (4, .ref (a 39)), (5, .int (refS (sh 1 1 0) (sh 1 1 1) l i (m 9 0)))] [] (loftW cI cS a (pA m 8 hq) (tkA v (pA m 8 hq)) w (seS T C li ap va le) (tpS B L P F) sh kf)
          refine g_iconst hE dX4_torn_78 0 (by decide) ?_
          refine g_istore hE dX4_torn_79 [(7, .int 0), (6, .int z), (0, .ref (a 0)), (1, .int x), (2, .int l), (3, .int i), (4, .ref (a 39)), (5, .int (refS (sh 1 1 0) (sh 1 1 1) l i (m 9 0)))] (by decide) rfl ?_
          have L81 : ∀ (n_81 : Nat) (p : Nat) (y : Int32) (vv : Nat → Nat → Int32), (p ≤ pl) → (y = trS m n pl (sh 1 0) i p) → (MW vv n sv pl) → (EqM vv m) → (pl - p < n_81) → Go E Q 10 0 0 81 [(0, .ref (a 0)), (1, .int x), (2, .int l), (3, .int i), (4, .ref (a 39)), (5, .int (refS (sh 1 1 0) (sh 1 1 1) l i (m 9 0))), (6, .int y), (7, .int (nI p))] [] (loftW cI cS a (pA m 8 hq) vv w (seS T C li ap va le) (tpS B L P F) sh kf) := by
            intro n_81
            induction n_81 with
            | zero => intro p y vv hp hy hVV hE1 hm_81; exact absurd hm_81 (Nat.not_lt_zero _)
            | succ n_81 ih_81 =>
              intro p y vv hp hy hVV hE1 hm_81
              refine g_iload hE dX4_torn_81 7 rfl ?_
              refine g_aload_n hE dX4_torn_83 0 rfl ?_
              refine g_get hE fl_X4_10 dX4_torn_84 0 rfl rfl ?_
              refine g_get hE fl_X4_125 dX4_torn_87 1 rfl rfl ?_
              refine g_icmp_ge hE 164 dX4_torn_90 (by decide) (fun c46 => ?_) (fun c46 => ?_)
              · have kc46 := nat_le_t (show (m 9 2) = nI pl from hpl) (show (nI p) = nI p from rfl) (by omega) (by omega) c46
                refine g_iload hE dX4_torn_164 6 rfl ?_
                exact g_iret hE hQ dX4_torn_166 rfl (1, y, vv, hq) rfl rfl ⟨h2, (by have e : pl = p := (by omega); rw [hy, ← e]; show trS m n pl (sh 1 0) i pl = fTorn m n pl sh 1 l i; simp only [fTorn, if_neg (show ¬ (1 : Nat) = 4 by decide), if_pos c40, if_pos (show (refS (sh 1 1 0) (sh 1 1 1) l i (m 9 0)) = 0 from c44), if_pos trivial]), Or.inl hVV⟩
              · have kc46 := nat_le_f (show (m 9 2) = nI pl from hpl) (show (nI p) = nI p from rfl) (by omega) (by omega) c46
                refine g_aload_n hE dX4_torn_93 0 rfl ?_
                refine g_get hE fl_X4_10 dX4_torn_94 0 rfl rfl ?_
                refine g_get hE fl_X4_170 dX4_torn_97 1 rfl rfl ?_
                refine g_iload hE dX4_torn_100 7 rfl ?_
                refine g_callS hE (c_X4_at cI cS (a 9) 6 (m 7) (nI p) (by decide)) mk_X4_at st_X4_at ml_X4_91 dX4_torn_102 (As := [.ref (a 9), .int (nI p)]) (rest := []) rfl rfl (by decide) (by decide) (Nat.le_of_ble_eq_true rfl) (by decide) (by decide) [9] rfl (by decide) (fun u => Nat.le_of_ble_eq_true rfl) (ws' := fun u => loftW cI cS a (pA m 8 hq) vv w (seS T C li ap va le) (tpS B L P F) sh kf) (fun u => rfl) (fun u hu => ?_)
                obtain ⟨r_47, rfl⟩ : ∃ z, z = u := ⟨_, rfl⟩
                have h48 : r_47 = ((m 7) p) := hu.trans (by rw [show (nI p) = nI p from rfl]; exact atv_n (by omega) (by decide))
                subst h48
                show Go E Q 10 0 0 105 [(0, .ref (a 0)), (1, .int x), (2, .int l), (3, .int i), (4, .ref (a 39)), (5, .int (refS (sh 1 1 0) (sh 1 1 1) l i (m 9 0))), (6, .int y), (7, .int (nI p))] [.int ((m 7) p)] (loftW cI cS a (pA m 8 hq) vv w (seS T C li ap va le) (tpS B L P F) sh kf)
                refine g_istore hE dX4_torn_105 [(8, .int ((m 7) p)), (0, .ref (a 0)), (1, .int x), (2, .int l), (3, .int i), (4, .ref (a 39)), (5, .int (refS (sh 1 1 0) (sh 1 1 1) l i (m 9 0))), (6, .int y), (7, .int (nI p))] (by decide) rfl ?_
                refine g_aload_n hE dX4_torn_107 1 rfl ?_
                refine g_get hE fl_X4_16 dX4_torn_108 0 rfl rfl ?_
                refine g_get hE fl_X4_88 dX4_torn_111 11 rfl rfl ?_
                refine g_iload hE dX4_torn_114 0 rfl ?_
                refine g_iconst hE dX4_torn_116 3 (by decide) ?_
                refine g_callS hE (c_X4_exchange cI cS (a 15) 8 (vv 3) ((m 7) p) 3 (by decide)) mk_X4_exchange st_X4_exchange ml_X4_67 dX4_torn_117 (As := [.ref (a 15), .int ((m 7) p), .int 3]) (rest := []) rfl rfl (by decide) (by decide) (Nat.le_of_ble_eq_true rfl) (by decide) (by decide) [15] rfl (by decide) (fun u => Nat.le_of_ble_eq_true rfl) (ws' := fun u => loftW cI cS a (pA m 8 hq) (pA vv 3 u.2) w (seS T C li ap va le) (tpS B L P F) sh kf) (fun u => rfl) (fun u hu => ?_)
                obtain ⟨r_49, f_50⟩ := u
                have h51 : r_49 = atv (vv 3) 8 ((m 7) p) ∧ f_50 = putv (vv 3) 8 ((m 7) p) 3 := hu
                have h52 : f_50 = (putv (vv 3) 8 ((m 7) p) 3) := h51.2
                subst h52
                have h53 : r_49 = (atv (vv 3) 8 ((m 7) p)) := h51.1
                subst h53
                show Go E Q 10 0 0 120 [(8, .int ((m 7) p)), (0, .ref (a 0)), (1, .int x), (2, .int l), (3, .int i), (4, .ref (a 39)), (5, .int (refS (sh 1 1 0) (sh 1 1 1) l i (m 9 0))), (6, .int y), (7, .int (nI p))] [.int (atv (vv 3) 8 ((m 7) p))] (loftW cI cS a (pA m 8 hq) (pA vv 3 (putv (vv 3) 8 ((m 7) p) 3)) w (seS T C li ap va le) (tpS B L P F) sh kf)
                refine g_istore hE dX4_torn_120 [(9, .int (atv (vv 3) 8 ((m 7) p))), (8, .int ((m 7) p)), (0, .ref (a 0)), (1, .int x), (2, .int l), (3, .int i), (4, .ref (a 39)), (5, .int (refS (sh 1 1 0) (sh 1 1 1) l i (m 9 0))), (6, .int y), (7, .int (nI p))] (by decide) rfl ?_
                refine g_aload_n hE dX4_torn_122 2 rfl ?_
                refine g_get hE fl_X4_16 dX4_torn_123 0 rfl rfl ?_
                refine g_aload hE dX4_torn_126 6 rfl ?_
                refine g_iload_n hE dX4_torn_128 5 rfl ?_
                refine g_callS hE (c_X4_bearsOut cI cS (fun i => a (i + 11)) (fun i => a (i + 39)) (pA vv 3 (putv (vv 3) 8 ((m 7) p) 3)) (by first | assumption | exact mw_of (by assumption)) (sh 1 0) (sh 1 1 0) (sh 1 1 1) i) mk_X4_bearsOut st_X4_bearsOut ml_X4_240 dX4_torn_129 (As := [.ref (a 11), .ref (a 39), .int i]) (rest := []) rfl rfl (by decide) (by decide) (Nat.le_of_ble_eq_true rfl) (by decide) (by decide) [11, 12, 13, 14, 15, 16, 17, 18, 19, 20, 39, 40] rfl (by decide) (fun u => Nat.le_of_ble_eq_true rfl) (ws' := fun u => loftW cI cS a (pA m 8 hq) (pA (pA vv 3 (putv (vv 3) 8 ((m 7) p) 3)) 8 u.2) w (seS T C li ap va le) (tpS B L P F) sh kf) (fun u => rfl) (fun u hu => ?_)
                obtain ⟨r_54, h_55⟩ := u
                have h56 : r_54 = if boB (pA vv 3 (putv (vv 3) 8 ((m 7) p) 3)) n pl (sh 1 0) i n = true then 1 else 0 := hu
                by_cases c57 : boB (pA vv 3 (putv (vv 3) 8 ((m 7) p) 3)) n pl (sh 1 0) i n = true
                · rw [if_pos c57] at h56
                  subst h56
                  show Go E Q 10 0 0 132 [(9, .int (atv (vv 3) 8 ((m 7) p))), (8, .int ((m 7) p)), (0, .ref (a 0)), (1, .int x), (2, .int l), (3, .int i), (4, .ref (a 39)), (5, .int (refS (sh 1 1 0) (sh 1 1 1) l i (m 9 0))), (6, .int y), (7, .int (nI p))] [.int 1] (loftW cI cS a (pA m 8 hq) (pA (pA vv 3 (putv (vv 3) 8 ((m 7) p) 3)) 8 h_55) w (seS T C li ap va le) (tpS B L P F) sh kf)
                  refine g_if_eq hE 144 dX4_torn_132 (by decide) (fun c58 => absurd c58 (by decide)) (fun c58 => ?_)
                  refine g_iload hE dX4_torn_135 8 rfl ?_
                  refine g_iconst hE dX4_torn_137 1 (by decide) ?_
                  refine g_iload hE dX4_torn_138 9 rfl ?_
                  refine g_ishl hE dX4_torn_140 ?_
                  refine g_ior hE dX4_torn_141 ?_
                  refine g_istore hE dX4_torn_142 [(6, .int (y ||| (1 <<< ((nI p) &&& 31)))), (9, .int (atv (vv 3) 8 ((m 7) p))), (8, .int ((m 7) p)), (0, .ref (a 0)), (1, .int x), (2, .int l), (3, .int i), (4, .ref (a 39)), (5, .int (refS (sh 1 1 0) (sh 1 1 1) l i (m 9 0))), (7, .int (nI p))] (by decide) rfl ?_
                  refine g_aload_n hE dX4_torn_144 3 rfl ?_
                  refine g_get hE fl_X4_16 dX4_torn_145 0 rfl rfl ?_
                  refine g_get hE fl_X4_88 dX4_torn_148 11 rfl rfl ?_
                  refine g_iload hE dX4_torn_151 2 rfl ?_
                  refine g_iload hE dX4_torn_153 1 rfl ?_
                  refine g_callS hE (c_X4_put cI cS (a 15) 8 (putv (vv 3) 8 ((m 7) p) 3) ((m 7) p) (atv (vv 3) 8 ((m 7) p)) (by decide)) mk_X4_put st_X4_put ml_X4_236 dX4_torn_155 (As := [.ref (a 15), .int ((m 7) p), .int (atv (vv 3) 8 ((m 7) p))]) (rest := []) rfl rfl (by decide) (by decide) (Nat.le_of_ble_eq_true rfl) (by decide) (by decide) [15] rfl (by decide) (fun u => Nat.le_of_ble_eq_true rfl) (ws' := fun u => loftW cI cS a (pA m 8 hq) (pA (pA (pA vv 3 (putv (vv 3) 8 ((m 7) p) 3)) 8 h_55) 3 u) w (seS T C li ap va le) (tpS B L P F) sh kf) (fun u => rfl) (fun u hu => ?_)
                  obtain ⟨f_59, rfl⟩ : ∃ z, z = u := ⟨_, rfl⟩
                  have h60 : f_59 = putv (putv (vv 3) 8 ((m 7) p) 3) 8 ((m 7) p) (atv (vv 3) 8 ((m 7) p)) := hu
                  have h61 : f_59 = (putv (putv (vv 3) 8 ((m 7) p) 3) 8 ((m 7) p) (atv (vv 3) 8 ((m 7) p))) := h60
                  subst h61
                  show Go E Q 10 0 0 158 [(6, .int (y ||| (1 <<< ((nI p) &&& 31)))), (9, .int (atv (vv 3) 8 ((m 7) p))), (8, .int ((m 7) p)), (0, .ref (a 0)), (1, .int x), (2, .int l), (3, .int i), (4, .ref (a 39)), (5, .int (refS (sh 1 1 0) (sh 1 1 1) l i (m 9 0))), (7, .int (nI p))] [] (loftW cI cS a (pA m 8 hq) (pA (pA (pA vv 3 (putv (vv 3) 8 ((m 7) p) 3)) 8 h_55) 3 (putv (putv (vv 3) 8 ((m 7) p) 3) 8 ((m 7) p) (atv (vv 3) 8 ((m 7) p)))) w (seS T C li ap va le) (tpS B L P F) sh kf)
                  refine g_iinc hE dX4_torn_158 9 (nI (p + 1)) [(7, .int (nI (p + 1))), (6, .int (y ||| (1 <<< ((nI p) &&& 31)))), (9, .int (atv (vv 3) 8 ((m 7) p))), (8, .int ((m 7) p)), (0, .ref (a 0)), (1, .int x), (2, .int l), (3, .int i), (4, .ref (a 39)), (5, .int (refS (sh 1 1 0) (sh 1 1 1) l i (m 9 0)))] rfl (nI_1 _) (by decide) rfl ?_
                  refine g_goto hE 81 dX4_torn_161 (by decide) ?_
                  refine g_locals [4, 5, 6, 7, 8, 9, 1, 0] [(0, .ref (a 0)), (1, .int x), (2, .int l), (3, .int i), (4, .ref (a 39)), (5, .int (refS (sh 1 1 0) (sh 1 1 1) l i (m 9 0))), (6, .int (y ||| (1 <<< ((nI p) &&& 31)))), (7, .int (nI (p + 1)))] rfl ?_
                  exact ih_81 (p + 1) (y ||| (1 <<< ((nI p) &&& 31))) (pA (pA (pA vv 3 (putv (vv 3) 8 ((m 7) p) 3)) 8 h_55) 3 (putv (putv (vv 3) 8 ((m 7) p) 3) 8 ((m 7) p) (atv (vv 3) 8 ((m 7) p)))) (by first | assumption | omega) (tr_y hE1 hy c57) hVV (tr_E hE1) (by omega)
                · rw [if_neg c57] at h56
                  subst h56
                  show Go E Q 10 0 0 132 [(9, .int (atv (vv 3) 8 ((m 7) p))), (8, .int ((m 7) p)), (0, .ref (a 0)), (1, .int x), (2, .int l), (3, .int i), (4, .ref (a 39)), (5, .int (refS (sh 1 1 0) (sh 1 1 1) l i (m 9 0))), (6, .int y), (7, .int (nI p))] [.int 0] (loftW cI cS a (pA m 8 hq) (pA (pA vv 3 (putv (vv 3) 8 ((m 7) p) 3)) 8 h_55) w (seS T C li ap va le) (tpS B L P F) sh kf)
                  refine g_if_eq hE 144 dX4_torn_132 (by decide) (fun c62 => ?_) (fun c62 => absurd (by decide) c62)
                  refine g_aload_n hE dX4_torn_144 2 rfl ?_
                  refine g_get hE fl_X4_16 dX4_torn_145 0 rfl rfl ?_
                  refine g_get hE fl_X4_88 dX4_torn_148 11 rfl rfl ?_
                  refine g_iload hE dX4_torn_151 1 rfl ?_
                  refine g_iload hE dX4_torn_153 0 rfl ?_
                  refine g_callS hE (c_X4_put cI cS (a 15) 8 (putv (vv 3) 8 ((m 7) p) 3) ((m 7) p) (atv (vv 3) 8 ((m 7) p)) (by decide)) mk_X4_put st_X4_put ml_X4_236 dX4_torn_155 (As := [.ref (a 15), .int ((m 7) p), .int (atv (vv 3) 8 ((m 7) p))]) (rest := []) rfl rfl (by decide) (by decide) (Nat.le_of_ble_eq_true rfl) (by decide) (by decide) [15] rfl (by decide) (fun u => Nat.le_of_ble_eq_true rfl) (ws' := fun u => loftW cI cS a (pA m 8 hq) (pA (pA (pA vv 3 (putv (vv 3) 8 ((m 7) p) 3)) 8 h_55) 3 u) w (seS T C li ap va le) (tpS B L P F) sh kf) (fun u => rfl) (fun u hu => ?_)
                  obtain ⟨f_63, rfl⟩ : ∃ z, z = u := ⟨_, rfl⟩
                  have h64 : f_63 = putv (putv (vv 3) 8 ((m 7) p) 3) 8 ((m 7) p) (atv (vv 3) 8 ((m 7) p)) := hu
                  have h65 : f_63 = (putv (putv (vv 3) 8 ((m 7) p) 3) 8 ((m 7) p) (atv (vv 3) 8 ((m 7) p))) := h64
                  subst h65
                  show Go E Q 10 0 0 158 [(9, .int (atv (vv 3) 8 ((m 7) p))), (8, .int ((m 7) p)), (0, .ref (a 0)), (1, .int x), (2, .int l), (3, .int i), (4, .ref (a 39)), (5, .int (refS (sh 1 1 0) (sh 1 1 1) l i (m 9 0))), (6, .int y), (7, .int (nI p))] [] (loftW cI cS a (pA m 8 hq) (pA (pA (pA vv 3 (putv (vv 3) 8 ((m 7) p) 3)) 8 h_55) 3 (putv (putv (vv 3) 8 ((m 7) p) 3) 8 ((m 7) p) (atv (vv 3) 8 ((m 7) p)))) w (seS T C li ap va le) (tpS B L P F) sh kf)
                  refine g_iinc hE dX4_torn_158 9 (nI (p + 1)) [(7, .int (nI (p + 1))), (9, .int (atv (vv 3) 8 ((m 7) p))), (8, .int ((m 7) p)), (0, .ref (a 0)), (1, .int x), (2, .int l), (3, .int i), (4, .ref (a 39)), (5, .int (refS (sh 1 1 0) (sh 1 1 1) l i (m 9 0))), (6, .int y)] rfl (nI_1 _) (by decide) rfl ?_
                  refine g_goto hE 81 dX4_torn_161 (by decide) ?_
                  refine g_locals [3, 4, 5, 6, 7, 8, 9, 0] [(0, .ref (a 0)), (1, .int x), (2, .int l), (3, .int i), (4, .ref (a 39)), (5, .int (refS (sh 1 1 0) (sh 1 1 1) l i (m 9 0))), (6, .int y), (7, .int (nI (p + 1)))] rfl ?_
                  exact ih_81 (p + 1) y (pA (pA (pA vv 3 (putv (vv 3) 8 ((m 7) p) 3)) 8 h_55) 3 (putv (putv (vv 3) 8 ((m 7) p) 3) 8 ((m 7) p) (atv (vv 3) 8 ((m 7) p)))) (by first | assumption | omega) (tr_n hE1 hy c57) hVV (tr_E hE1) (by omega)
          refine g_locals [2, 3, 4, 5, 6, 7, 1, 0] [(0, .ref (a 0)), (1, .int x), (2, .int l), (3, .int i), (4, .ref (a 39)), (5, .int (refS (sh 1 1 0) (sh 1 1 1) l i (m 9 0))), (6, .int z), (7, .int 0)] rfl ?_
          exact L81 _ 0 z (tkA v (pA m 8 hq)) (Nat.zero_le _) hz (MW_tk (shM_pA hM)) EqM_tk8 (Nat.lt_succ_self _)
        refine g_aload_n hE dX4_torn_45 2 rfl ?_
        refine g_get hE fl_X4_10 dX4_torn_46 0 rfl rfl ?_
        refine g_aload hE dX4_torn_49 1 rfl ?_
        refine g_iload_n hE dX4_torn_51 5 rfl ?_
        refine g_callS hE (c_X4_bearsOut cI cS (fun i => a (i + 1)) (fun i => a (i + 39)) m (by first | assumption | exact mw_of (by assumption)) (sh 1 0) (sh 1 1 0) (sh 1 1 1) i) mk_X4_bearsOut st_X4_bearsOut ml_X4_240 dX4_torn_52 (As := [.ref (a 1), .ref (a 39), .int i]) (rest := []) rfl rfl (by decide) (by decide) (Nat.le_of_ble_eq_true rfl) (by decide) (by decide) [1, 2, 3, 4, 5, 6, 7, 8, 9, 10, 39, 40] rfl (by decide) (fun u => Nat.le_of_ble_eq_true rfl) (ws' := fun u => loftW cI cS a (pA m 8 u.2) v w (seS T C li ap va le) (tpS B L P F) sh kf) (fun u => rfl) (fun u hu => ?_)
        obtain ⟨r_66, h_67⟩ := u
        have h68 : r_66 = if boB m n pl (sh 1 0) i n = true then 1 else 0 := hu
        by_cases c69 : boB m n pl (sh 1 0) i n = true
        · rw [if_pos c69] at h68
          subst h68
          show Go E Q 10 0 0 55 [(5, .int (refS (sh 1 1 0) (sh 1 1 1) l i (m 9 0))), (4, .ref (a 39)), (0, .ref (a 0)), (1, .int x), (2, .int l), (3, .int i)] [.int 1] (loftW cI cS a (pA m 8 h_67) v w (seS T C li ap va le) (tpS B L P F) sh kf)
          refine g_if_eq hE 64 dX4_torn_55 (by decide) (fun c70 => absurd c70 (by decide)) (fun c70 => ?_)
          refine g_sipush hE dX4_torn_58 128 (by decide) ?_
          refine g_goto hE 65 dX4_torn_61 (by decide) ?_
          refine g_locals [2, 3, 4, 5, 1, 0] [(0, .ref (a 0)), (1, .int x), (2, .int l), (3, .int i), (4, .ref (a 39)), (5, .int (refS (sh 1 1 0) (sh 1 1 1) l i (m 9 0)))] rfl ?_
          exact L65 h_67 128 (by rw [if_pos c69])
        · rw [if_neg c69] at h68
          subst h68
          show Go E Q 10 0 0 55 [(5, .int (refS (sh 1 1 0) (sh 1 1 1) l i (m 9 0))), (4, .ref (a 39)), (0, .ref (a 0)), (1, .int x), (2, .int l), (3, .int i)] [.int 0] (loftW cI cS a (pA m 8 h_67) v w (seS T C li ap va le) (tpS B L P F) sh kf)
          refine g_if_eq hE 64 dX4_torn_55 (by decide) (fun c71 => ?_) (fun c71 => absurd (by decide) c71)
          refine g_iconst hE dX4_torn_64 0 (by decide) ?_
          refine g_locals [2, 3, 4, 5, 1, 0] [(0, .ref (a 0)), (1, .int x), (2, .int l), (3, .int i), (4, .ref (a 39)), (5, .int (refS (sh 1 1 0) (sh 1 1 1) l i (m 9 0)))] rfl ?_
          exact L65 h_67 0 (by rw [if_neg c69])
      · refine g_iload hE dX4_torn_42 0 rfl ?_
        refine g_world (loftW cI cS a (pA m 8 (m 8)) v w (seS T C li ap va le) (tpS B L P F) sh kf) (by rfl) ?_
        exact g_iret hE hQ dX4_torn_44 rfl (1, (refS (sh 1 1 0) (sh 1 1 1) l i (m 9 0)), v, (m 8)) rfl rfl ⟨h2, (by show (refS (sh 1 1 0) (sh 1 1 1) l i (m 9 0)) = fTorn m n pl sh 1 l i; simp only [fTorn, if_neg (show ¬ (1 : Nat) = 4 by decide), if_pos c40, if_neg (show ¬ (refS (sh 1 1 0) (sh 1 1 1) l i (m 9 0)) = 0 from c44), if_pos trivial]), Or.inr rfl⟩
    · rw [if_neg c40] at h39
      subst h39
      show Go E Q 10 0 0 16 [(4, .ref (a 39)), (0, .ref (a 0)), (1, .int x), (2, .int l), (3, .int i)] [.int 0] (loftW cI cS a m v w (seS T C li ap va le) (tpS B L P F) sh kf)
      refine g_if_ne hE 21 dX4_torn_16 (by decide) (fun c72 => absurd (by decide) c72) (fun c72 => ?_)
      refine g_iconst hE dX4_torn_19 (-1) (by decide) ?_
      refine g_world (loftW cI cS a (pA m 8 (m 8)) v w (seS T C li ap va le) (tpS B L P F) sh kf) (by rfl) ?_
      exact g_iret hE hQ dX4_torn_20 rfl (1, (-1), v, (m 8)) rfl rfl ⟨h2, (by show (-1) = fTorn m n pl sh 1 l i; simp only [fTorn, if_neg (show ¬ (1 : Nat) = 4 by decide), if_neg c40, if_pos trivial]), Or.inr rfl⟩
  · show Go E Q 10 0 0 5 [(0, .ref (a 0)), (1, .int x), (2, .int l), (3, .int i)] [.ref (a 41)] (loftW cI cS a m v w (seS T C li ap va le) (tpS B L P F) sh kf)
    refine g_astore hE dX4_torn_5 [(4, .ref (a 41)), (0, .ref (a 0)), (1, .int x), (2, .int l), (3, .int i)] (by decide) rfl ?_
    refine g_aload hE dX4_torn_7 0 rfl ?_
    refine g_ifnull hE dX4_torn_9 ?_
    refine g_iload_n hE dX4_torn_12 3 rfl ?_
    refine g_callS hE (c_X4_isLane cI cS l) mk_X4_isLane st_X4_isLane ml_X4_225 dX4_torn_13 (As := [.int l]) (rest := []) rfl rfl (by decide) (by decide) (Nat.le_of_ble_eq_true rfl) (by decide) (by decide) [] rfl (by decide) (fun u => Nat.le_of_ble_eq_true rfl) (ws' := fun u => loftW cI cS a m v w (seS T C li ap va le) (tpS B L P F) sh kf) (fun u => rfl) (fun u hu => ?_)
    obtain ⟨r_73, rfl⟩ : ∃ z, z = u := ⟨_, rfl⟩
    have h74 : r_73 = if 0 ≤ l ∧ l ≤ 2 then 1 else 0 := hu
    by_cases c75 : 0 ≤ l ∧ l ≤ 2
    · rw [if_pos c75] at h74
      subst h74
      show Go E Q 10 0 0 16 [(4, .ref (a 41)), (0, .ref (a 0)), (1, .int x), (2, .int l), (3, .int i)] [.int 1] (loftW cI cS a m v w (seS T C li ap va le) (tpS B L P F) sh kf)
      refine g_if_ne hE 21 dX4_torn_16 (by decide) (fun c76 => ?_) (fun c76 => absurd c76 (by decide))
      refine g_aload hE dX4_torn_21 0 rfl ?_
      refine g_iload_n hE dX4_torn_23 3 rfl ?_
      refine g_iload_n hE dX4_torn_24 4 rfl ?_
      refine g_aload_n hE dX4_torn_25 1 rfl ?_
      refine g_get hE fl_X4_10 dX4_torn_26 0 rfl rfl ?_
      refine g_get hE fl_X4_51 dX4_torn_29 1 rfl rfl ?_
      refine g_callV hE (c_X2_refusal cI cS (fun i => a (i + 41)) (sh 2 0) (sh 2 1 0) (sh 2 1 1) l i (m 9 0)) mk_X2_refusal mv_X2_refusal ml_X4_233 dX4_torn_32 (As := [.int l, .int i, .int (m 9 0)]) (rest := []) rfl rfl 41 rfl (show vwCl[2]? = some (RX2, TX2, 3) from rfl) (by decide) (by decide) (Nat.le_of_ble_eq_true rfl) (by decide) (by decide) [41, 42] rfl (by decide) (fun u => Nat.le_of_ble_eq_true rfl) (ws' := fun u => loftW cI cS a m v w (seS T C li ap va le) (tpS B L P F) sh kf) (fun u => rfl) (fun u hu => ?_)
      obtain ⟨r_77, rfl⟩ : ∃ z, z = u := ⟨_, rfl⟩
      have h78 : r_77 = (refS (sh 2 1 0) (sh 2 1 1) l i (m 9 0)) := hu
      subst h78
      show Go E Q 10 0 0 35 [(4, .ref (a 41)), (0, .ref (a 0)), (1, .int x), (2, .int l), (3, .int i)] [.int (refS (sh 2 1 0) (sh 2 1 1) l i (m 9 0))] (loftW cI cS a m v w (seS T C li ap va le) (tpS B L P F) sh kf)
      refine g_istore hE dX4_torn_35 [(5, .int (refS (sh 2 1 0) (sh 2 1 1) l i (m 9 0))), (4, .ref (a 41)), (0, .ref (a 0)), (1, .int x), (2, .int l), (3, .int i)] (by decide) rfl ?_
      refine g_iload hE dX4_torn_37 0 rfl ?_
      refine g_if_eq hE 45 dX4_torn_39 (by decide) (fun c79 => ?_) (fun c79 => ?_)
      · have L65 : ∀ (hq : Nat → Int32) (z : Int32), (z = if boB m n pl (sh 2 0) i n = true then 128 else 0) → Go E Q 10 0 0 65 [(0, .ref (a 0)), (1, .int x), (2, .int l), (3, .int i), (4, .ref (a 41)), (5, .int (refS (sh 2 1 0) (sh 2 1 1) l i (m 9 0)))] [.int z] (loftW cI cS a (pA m 8 hq) v w (seS T C li ap va le) (tpS B L P F) sh kf) := by
          intro hq z hz
          refine g_istore hE dX4_torn_65 [(6, .int z), (0, .ref (a 0)), (1, .int x), (2, .int l), (3, .int i), (4, .ref (a 41)), (5, .int (refS (sh 2 1 0) (sh 2 1 1) l i (m 9 0)))] (by decide) rfl ?_
          refine g_aload_n hE dX4_torn_67 1 rfl ?_
          refine g_get hE fl_X4_16 dX4_torn_68 0 rfl rfl ?_
          refine g_aload_n hE dX4_torn_71 1 rfl ?_
          refine g_get hE fl_X4_10 dX4_torn_72 0 rfl rfl ?_
          refine g_callV hE (c_X0_takeAll_s cI cS (fun i => a (i + 11)) (fun i => a (i + 1)) v (pA m 8 hq)) mk_X0_takeAll mv_X0_takeAll ml_X4_187 dX4_torn_75 (As := [.ref (a 1)]) (rest := []) rfl rfl 11 rfl (show vwCl[0]? = some (RX0, TX0, 13) from rfl) (by decide) (by decide) (Nat.le_of_ble_eq_true rfl) (by decide) (by decide) [1, 2, 3, 4, 5, 6, 7, 8, 9, 10, 11, 12, 13, 14, 15, 16, 17, 18, 19, 20] rfl (by decide) (fun u => Nat.le_of_ble_eq_true rfl) (ws' := fun u => loftW cI cS a (pA m 8 hq) (tkA v (pA m 8 hq)) w (seS T C li ap va le) (tpS B L P F) sh kf) (fun u => rfl) (fun u hu => ?_)
          show Go E Q 10 0 0 78 [(6, .int z), (0, .ref (a 0)), (1, .int x), (2, .int l), (3, .int i), (4, .ref (a 41)), (5, .int (refS (sh 2 1 0) (sh 2 1 1) l i (m 9 0)))] [] (loftW cI cS a (pA m 8 hq) (tkA v (pA m 8 hq)) w (seS T C li ap va le) (tpS B L P F) sh kf)
          refine g_iconst hE dX4_torn_78 0 (by decide) ?_
          refine g_istore hE dX4_torn_79 [(7, .int 0), (6, .int z), (0, .ref (a 0)), (1, .int x), (2, .int l), (3, .int i), (4, .ref (a 41)), (5, .int (refS (sh 2 1 0) (sh 2 1 1) l i (m 9 0)))] (by decide) rfl ?_
          have L81 : ∀ (n_81 : Nat) (p : Nat) (y : Int32) (vv : Nat → Nat → Int32), (p ≤ pl) → (y = trS m n pl (sh 2 0) i p) → (MW vv n sv pl) → (EqM vv m) → (pl - p < n_81) → Go E Q 10 0 0 81 [(0, .ref (a 0)), (1, .int x), (2, .int l), (3, .int i), (4, .ref (a 41)), (5, .int (refS (sh 2 1 0) (sh 2 1 1) l i (m 9 0))), (6, .int y), (7, .int (nI p))] [] (loftW cI cS a (pA m 8 hq) vv w (seS T C li ap va le) (tpS B L P F) sh kf) := by
            intro n_81
            induction n_81 with
            | zero => intro p y vv hp hy hVV hE1 hm_81; exact absurd hm_81 (Nat.not_lt_zero _)
            | succ n_81 ih_81 =>
              intro p y vv hp hy hVV hE1 hm_81
              refine g_iload hE dX4_torn_81 7 rfl ?_
              refine g_aload_n hE dX4_torn_83 0 rfl ?_
              refine g_get hE fl_X4_10 dX4_torn_84 0 rfl rfl ?_
              refine g_get hE fl_X4_125 dX4_torn_87 1 rfl rfl ?_
              refine g_icmp_ge hE 164 dX4_torn_90 (by decide) (fun c81 => ?_) (fun c81 => ?_)
              · have kc81 := nat_le_t (show (m 9 2) = nI pl from hpl) (show (nI p) = nI p from rfl) (by omega) (by omega) c81
                refine g_iload hE dX4_torn_164 6 rfl ?_
                exact g_iret hE hQ dX4_torn_166 rfl (2, y, vv, hq) rfl rfl ⟨h2, (by have e : pl = p := (by omega); rw [hy, ← e]; show trS m n pl (sh 2 0) i pl = fTorn m n pl sh 2 l i; simp only [fTorn, if_neg (show ¬ (2 : Nat) = 4 by decide), if_pos c75, if_pos (show (refS (sh 2 1 0) (sh 2 1 1) l i (m 9 0)) = 0 from c79), if_pos trivial]), Or.inl hVV⟩
              · have kc81 := nat_le_f (show (m 9 2) = nI pl from hpl) (show (nI p) = nI p from rfl) (by omega) (by omega) c81
                refine g_aload_n hE dX4_torn_93 0 rfl ?_
                refine g_get hE fl_X4_10 dX4_torn_94 0 rfl rfl ?_
                refine g_get hE fl_X4_170 dX4_torn_97 1 rfl rfl ?_
                refine g_iload hE dX4_torn_100 7 rfl ?_
                refine g_callS hE (c_X4_at cI cS (a 9) 6 (m 7) (nI p) (by decide)) mk_X4_at st_X4_at ml_X4_91 dX4_torn_102 (As := [.ref (a 9), .int (nI p)]) (rest := []) rfl rfl (by decide) (by decide) (Nat.le_of_ble_eq_true rfl) (by decide) (by decide) [9] rfl (by decide) (fun u => Nat.le_of_ble_eq_true rfl) (ws' := fun u => loftW cI cS a (pA m 8 hq) vv w (seS T C li ap va le) (tpS B L P F) sh kf) (fun u => rfl) (fun u hu => ?_)
                obtain ⟨r_82, rfl⟩ : ∃ z, z = u := ⟨_, rfl⟩
                have h83 : r_82 = ((m 7) p) := hu.trans (by rw [show (nI p) = nI p from rfl]; exact atv_n (by omega) (by decide))
                subst h83
                show Go E Q 10 0 0 105 [(0, .ref (a 0)), (1, .int x), (2, .int l), (3, .int i), (4, .ref (a 41)), (5, .int (refS (sh 2 1 0) (sh 2 1 1) l i (m 9 0))), (6, .int y), (7, .int (nI p))] [.int ((m 7) p)] (loftW cI cS a (pA m 8 hq) vv w (seS T C li ap va le) (tpS B L P F) sh kf)
                refine g_istore hE dX4_torn_105 [(8, .int ((m 7) p)), (0, .ref (a 0)), (1, .int x), (2, .int l), (3, .int i), (4, .ref (a 41)), (5, .int (refS (sh 2 1 0) (sh 2 1 1) l i (m 9 0))), (6, .int y), (7, .int (nI p))] (by decide) rfl ?_
                refine g_aload_n hE dX4_torn_107 1 rfl ?_
                refine g_get hE fl_X4_16 dX4_torn_108 0 rfl rfl ?_
                refine g_get hE fl_X4_88 dX4_torn_111 11 rfl rfl ?_
                refine g_iload hE dX4_torn_114 0 rfl ?_
                refine g_iconst hE dX4_torn_116 3 (by decide) ?_
                refine g_callS hE (c_X4_exchange cI cS (a 15) 8 (vv 3) ((m 7) p) 3 (by decide)) mk_X4_exchange st_X4_exchange ml_X4_67 dX4_torn_117 (As := [.ref (a 15), .int ((m 7) p), .int 3]) (rest := []) rfl rfl (by decide) (by decide) (Nat.le_of_ble_eq_true rfl) (by decide) (by decide) [15] rfl (by decide) (fun u => Nat.le_of_ble_eq_true rfl) (ws' := fun u => loftW cI cS a (pA m 8 hq) (pA vv 3 u.2) w (seS T C li ap va le) (tpS B L P F) sh kf) (fun u => rfl) (fun u hu => ?_)
                obtain ⟨r_84, f_85⟩ := u
                have h86 : r_84 = atv (vv 3) 8 ((m 7) p) ∧ f_85 = putv (vv 3) 8 ((m 7) p) 3 := hu
                have h87 : f_85 = (putv (vv 3) 8 ((m 7) p) 3) := h86.2
                subst h87
                have h88 : r_84 = (atv (vv 3) 8 ((m 7) p)) := h86.1
                subst h88
                show Go E Q 10 0 0 120 [(8, .int ((m 7) p)), (0, .ref (a 0)), (1, .int x), (2, .int l), (3, .int i), (4, .ref (a 41)), (5, .int (refS (sh 2 1 0) (sh 2 1 1) l i (m 9 0))), (6, .int y), (7, .int (nI p))] [.int (atv (vv 3) 8 ((m 7) p))] (loftW cI cS a (pA m 8 hq) (pA vv 3 (putv (vv 3) 8 ((m 7) p) 3)) w (seS T C li ap va le) (tpS B L P F) sh kf)
                refine g_istore hE dX4_torn_120 [(9, .int (atv (vv 3) 8 ((m 7) p))), (8, .int ((m 7) p)), (0, .ref (a 0)), (1, .int x), (2, .int l), (3, .int i), (4, .ref (a 41)), (5, .int (refS (sh 2 1 0) (sh 2 1 1) l i (m 9 0))), (6, .int y), (7, .int (nI p))] (by decide) rfl ?_
                refine g_aload_n hE dX4_torn_122 2 rfl ?_
                refine g_get hE fl_X4_16 dX4_torn_123 0 rfl rfl ?_
                refine g_aload hE dX4_torn_126 6 rfl ?_
                refine g_iload_n hE dX4_torn_128 5 rfl ?_
                refine g_callS hE (c_X4_bearsOut cI cS (fun i => a (i + 11)) (fun i => a (i + 41)) (pA vv 3 (putv (vv 3) 8 ((m 7) p) 3)) (by first | assumption | exact mw_of (by assumption)) (sh 2 0) (sh 2 1 0) (sh 2 1 1) i) mk_X4_bearsOut st_X4_bearsOut ml_X4_240 dX4_torn_129 (As := [.ref (a 11), .ref (a 41), .int i]) (rest := []) rfl rfl (by decide) (by decide) (Nat.le_of_ble_eq_true rfl) (by decide) (by decide) [11, 12, 13, 14, 15, 16, 17, 18, 19, 20, 41, 42] rfl (by decide) (fun u => Nat.le_of_ble_eq_true rfl) (ws' := fun u => loftW cI cS a (pA m 8 hq) (pA (pA vv 3 (putv (vv 3) 8 ((m 7) p) 3)) 8 u.2) w (seS T C li ap va le) (tpS B L P F) sh kf) (fun u => rfl) (fun u hu => ?_)
                obtain ⟨r_89, h_90⟩ := u
                have h91 : r_89 = if boB (pA vv 3 (putv (vv 3) 8 ((m 7) p) 3)) n pl (sh 2 0) i n = true then 1 else 0 := hu
                by_cases c92 : boB (pA vv 3 (putv (vv 3) 8 ((m 7) p) 3)) n pl (sh 2 0) i n = true
                · rw [if_pos c92] at h91
                  subst h91
                  show Go E Q 10 0 0 132 [(9, .int (atv (vv 3) 8 ((m 7) p))), (8, .int ((m 7) p)), (0, .ref (a 0)), (1, .int x), (2, .int l), (3, .int i), (4, .ref (a 41)), (5, .int (refS (sh 2 1 0) (sh 2 1 1) l i (m 9 0))), (6, .int y), (7, .int (nI p))] [.int 1] (loftW cI cS a (pA m 8 hq) (pA (pA vv 3 (putv (vv 3) 8 ((m 7) p) 3)) 8 h_90) w (seS T C li ap va le) (tpS B L P F) sh kf)
                  refine g_if_eq hE 144 dX4_torn_132 (by decide) (fun c93 => absurd c93 (by decide)) (fun c93 => ?_)
                  refine g_iload hE dX4_torn_135 8 rfl ?_
                  refine g_iconst hE dX4_torn_137 1 (by decide) ?_
                  refine g_iload hE dX4_torn_138 9 rfl ?_
                  refine g_ishl hE dX4_torn_140 ?_
                  refine g_ior hE dX4_torn_141 ?_
                  refine g_istore hE dX4_torn_142 [(6, .int (y ||| (1 <<< ((nI p) &&& 31)))), (9, .int (atv (vv 3) 8 ((m 7) p))), (8, .int ((m 7) p)), (0, .ref (a 0)), (1, .int x), (2, .int l), (3, .int i), (4, .ref (a 41)), (5, .int (refS (sh 2 1 0) (sh 2 1 1) l i (m 9 0))), (7, .int (nI p))] (by decide) rfl ?_
                  refine g_aload_n hE dX4_torn_144 3 rfl ?_
                  refine g_get hE fl_X4_16 dX4_torn_145 0 rfl rfl ?_
                  refine g_get hE fl_X4_88 dX4_torn_148 11 rfl rfl ?_
                  refine g_iload hE dX4_torn_151 2 rfl ?_
                  refine g_iload hE dX4_torn_153 1 rfl ?_
                  refine g_callS hE (c_X4_put cI cS (a 15) 8 (putv (vv 3) 8 ((m 7) p) 3) ((m 7) p) (atv (vv 3) 8 ((m 7) p)) (by decide)) mk_X4_put st_X4_put ml_X4_236 dX4_torn_155 (As := [.ref (a 15), .int ((m 7) p), .int (atv (vv 3) 8 ((m 7) p))]) (rest := []) rfl rfl (by decide) (by decide) (Nat.le_of_ble_eq_true rfl) (by decide) (by decide) [15] rfl (by decide) (fun u => Nat.le_of_ble_eq_true rfl) (ws' := fun u => loftW cI cS a (pA m 8 hq) (pA (pA (pA vv 3 (putv (vv 3) 8 ((m 7) p) 3)) 8 h_90) 3 u) w (seS T C li ap va le) (tpS B L P F) sh kf) (fun u => rfl) (fun u hu => ?_)
                  obtain ⟨f_94, rfl⟩ : ∃ z, z = u := ⟨_, rfl⟩
                  have h95 : f_94 = putv (putv (vv 3) 8 ((m 7) p) 3) 8 ((m 7) p) (atv (vv 3) 8 ((m 7) p)) := hu
                  have h96 : f_94 = (putv (putv (vv 3) 8 ((m 7) p) 3) 8 ((m 7) p) (atv (vv 3) 8 ((m 7) p))) := h95
                  subst h96
                  show Go E Q 10 0 0 158 [(6, .int (y ||| (1 <<< ((nI p) &&& 31)))), (9, .int (atv (vv 3) 8 ((m 7) p))), (8, .int ((m 7) p)), (0, .ref (a 0)), (1, .int x), (2, .int l), (3, .int i), (4, .ref (a 41)), (5, .int (refS (sh 2 1 0) (sh 2 1 1) l i (m 9 0))), (7, .int (nI p))] [] (loftW cI cS a (pA m 8 hq) (pA (pA (pA vv 3 (putv (vv 3) 8 ((m 7) p) 3)) 8 h_90) 3 (putv (putv (vv 3) 8 ((m 7) p) 3) 8 ((m 7) p) (atv (vv 3) 8 ((m 7) p)))) w (seS T C li ap va le) (tpS B L P F) sh kf)
                  refine g_iinc hE dX4_torn_158 9 (nI (p + 1)) [(7, .int (nI (p + 1))), (6, .int (y ||| (1 <<< ((nI p) &&& 31)))), (9, .int (atv (vv 3) 8 ((m 7) p))), (8, .int ((m 7) p)), (0, .ref (a 0)), (1, .int x), (2, .int l), (3, .int i), (4, .ref (a 41)), (5, .int (refS (sh 2 1 0) (sh 2 1 1) l i (m 9 0)))] rfl (nI_1 _) (by decide) rfl ?_
                  refine g_goto hE 81 dX4_torn_161 (by decide) ?_
                  refine g_locals [4, 5, 6, 7, 8, 9, 1, 0] [(0, .ref (a 0)), (1, .int x), (2, .int l), (3, .int i), (4, .ref (a 41)), (5, .int (refS (sh 2 1 0) (sh 2 1 1) l i (m 9 0))), (6, .int (y ||| (1 <<< ((nI p) &&& 31)))), (7, .int (nI (p + 1)))] rfl ?_
                  exact ih_81 (p + 1) (y ||| (1 <<< ((nI p) &&& 31))) (pA (pA (pA vv 3 (putv (vv 3) 8 ((m 7) p) 3)) 8 h_90) 3 (putv (putv (vv 3) 8 ((m 7) p) 3) 8 ((m 7) p) (atv (vv 3) 8 ((m 7) p)))) (by first | assumption | omega) (tr_y hE1 hy c92) hVV (tr_E hE1) (by omega)
                · rw [if_neg c92] at h91
                  subst h91
                  show Go E Q 10 0 0 132 [(9, .int (atv (vv 3) 8 ((m 7) p))), (8, .int ((m 7) p)), (0, .ref (a 0)), (1, .int x), (2, .int l), (3, .int i), (4, .ref (a 41)), (5, .int (refS (sh 2 1 0) (sh 2 1 1) l i (m 9 0))), (6, .int y), (7, .int (nI p))] [.int 0] (loftW cI cS a (pA m 8 hq) (pA (pA vv 3 (putv (vv 3) 8 ((m 7) p) 3)) 8 h_90) w (seS T C li ap va le) (tpS B L P F) sh kf)
                  refine g_if_eq hE 144 dX4_torn_132 (by decide) (fun c97 => ?_) (fun c97 => absurd (by decide) c97)
                  refine g_aload_n hE dX4_torn_144 2 rfl ?_
                  refine g_get hE fl_X4_16 dX4_torn_145 0 rfl rfl ?_
                  refine g_get hE fl_X4_88 dX4_torn_148 11 rfl rfl ?_
                  refine g_iload hE dX4_torn_151 1 rfl ?_
                  refine g_iload hE dX4_torn_153 0 rfl ?_
                  refine g_callS hE (c_X4_put cI cS (a 15) 8 (putv (vv 3) 8 ((m 7) p) 3) ((m 7) p) (atv (vv 3) 8 ((m 7) p)) (by decide)) mk_X4_put st_X4_put ml_X4_236 dX4_torn_155 (As := [.ref (a 15), .int ((m 7) p), .int (atv (vv 3) 8 ((m 7) p))]) (rest := []) rfl rfl (by decide) (by decide) (Nat.le_of_ble_eq_true rfl) (by decide) (by decide) [15] rfl (by decide) (fun u => Nat.le_of_ble_eq_true rfl) (ws' := fun u => loftW cI cS a (pA m 8 hq) (pA (pA (pA vv 3 (putv (vv 3) 8 ((m 7) p) 3)) 8 h_90) 3 u) w (seS T C li ap va le) (tpS B L P F) sh kf) (fun u => rfl) (fun u hu => ?_)
                  obtain ⟨f_98, rfl⟩ : ∃ z, z = u := ⟨_, rfl⟩
                  have h99 : f_98 = putv (putv (vv 3) 8 ((m 7) p) 3) 8 ((m 7) p) (atv (vv 3) 8 ((m 7) p)) := hu
                  have h100 : f_98 = (putv (putv (vv 3) 8 ((m 7) p) 3) 8 ((m 7) p) (atv (vv 3) 8 ((m 7) p))) := h99
                  subst h100
                  show Go E Q 10 0 0 158 [(9, .int (atv (vv 3) 8 ((m 7) p))), (8, .int ((m 7) p)), (0, .ref (a 0)), (1, .int x), (2, .int l), (3, .int i), (4, .ref (a 41)), (5, .int (refS (sh 2 1 0) (sh 2 1 1) l i (m 9 0))), (6, .int y), (7, .int (nI p))] [] (loftW cI cS a (pA m 8 hq) (pA (pA (pA vv 3 (putv (vv 3) 8 ((m 7) p) 3)) 8 h_90) 3 (putv (putv (vv 3) 8 ((m 7) p) 3) 8 ((m 7) p) (atv (vv 3) 8 ((m 7) p)))) w (seS T C li ap va le) (tpS B L P F) sh kf)
                  refine g_iinc hE dX4_torn_158 9 (nI (p + 1)) [(7, .int (nI (p + 1))), (9, .int (atv (vv 3) 8 ((m 7) p))), (8, .int ((m 7) p)), (0, .ref (a 0)), (1, .int x), (2, .int l), (3, .int i), (4, .ref (a 41)), (5, .int (refS (sh 2 1 0) (sh 2 1 1) l i (m 9 0))), (6, .int y)] rfl (nI_1 _) (by decide) rfl ?_
                  refine g_goto hE 81 dX4_torn_161 (by decide) ?_
                  refine g_locals [3, 4, 5, 6, 7, 8, 9, 0] [(0, .ref (a 0)), (1, .int x), (2, .int l), (3, .int i), (4, .ref (a 41)), (5, .int (refS (sh 2 1 0) (sh 2 1 1) l i (m 9 0))), (6, .int y), (7, .int (nI (p + 1)))] rfl ?_
                  exact ih_81 (p + 1) y (pA (pA (pA vv 3 (putv (vv 3) 8 ((m 7) p) 3)) 8 h_90) 3 (putv (putv (vv 3) 8 ((m 7) p) 3) 8 ((m 7) p) (atv (vv 3) 8 ((m 7) p)))) (by first | assumption | omega) (tr_n hE1 hy c92) hVV (tr_E hE1) (by omega)
          refine g_locals [2, 3, 4, 5, 6, 7, 1, 0] [(0, .ref (a 0)), (1, .int x), (2, .int l), (3, .int i), (4, .ref (a 41)), (5, .int (refS (sh 2 1 0) (sh 2 1 1) l i (m 9 0))), (6, .int z), (7, .int 0)] rfl ?_
          exact L81 _ 0 z (tkA v (pA m 8 hq)) (Nat.zero_le _) hz (MW_tk (shM_pA hM)) EqM_tk8 (Nat.lt_succ_self _)
        refine g_aload_n hE dX4_torn_45 2 rfl ?_
        refine g_get hE fl_X4_10 dX4_torn_46 0 rfl rfl ?_
        refine g_aload hE dX4_torn_49 1 rfl ?_
        refine g_iload_n hE dX4_torn_51 5 rfl ?_
        refine g_callS hE (c_X4_bearsOut cI cS (fun i => a (i + 1)) (fun i => a (i + 41)) m (by first | assumption | exact mw_of (by assumption)) (sh 2 0) (sh 2 1 0) (sh 2 1 1) i) mk_X4_bearsOut st_X4_bearsOut ml_X4_240 dX4_torn_52 (As := [.ref (a 1), .ref (a 41), .int i]) (rest := []) rfl rfl (by decide) (by decide) (Nat.le_of_ble_eq_true rfl) (by decide) (by decide) [1, 2, 3, 4, 5, 6, 7, 8, 9, 10, 41, 42] rfl (by decide) (fun u => Nat.le_of_ble_eq_true rfl) (ws' := fun u => loftW cI cS a (pA m 8 u.2) v w (seS T C li ap va le) (tpS B L P F) sh kf) (fun u => rfl) (fun u hu => ?_)
        obtain ⟨r_101, h_102⟩ := u
        have h103 : r_101 = if boB m n pl (sh 2 0) i n = true then 1 else 0 := hu
        by_cases c104 : boB m n pl (sh 2 0) i n = true
        · rw [if_pos c104] at h103
          subst h103
          show Go E Q 10 0 0 55 [(5, .int (refS (sh 2 1 0) (sh 2 1 1) l i (m 9 0))), (4, .ref (a 41)), (0, .ref (a 0)), (1, .int x), (2, .int l), (3, .int i)] [.int 1] (loftW cI cS a (pA m 8 h_102) v w (seS T C li ap va le) (tpS B L P F) sh kf)
          refine g_if_eq hE 64 dX4_torn_55 (by decide) (fun c105 => absurd c105 (by decide)) (fun c105 => ?_)
          refine g_sipush hE dX4_torn_58 128 (by decide) ?_
          refine g_goto hE 65 dX4_torn_61 (by decide) ?_
          refine g_locals [2, 3, 4, 5, 1, 0] [(0, .ref (a 0)), (1, .int x), (2, .int l), (3, .int i), (4, .ref (a 41)), (5, .int (refS (sh 2 1 0) (sh 2 1 1) l i (m 9 0)))] rfl ?_
          exact L65 h_102 128 (by rw [if_pos c104])
        · rw [if_neg c104] at h103
          subst h103
          show Go E Q 10 0 0 55 [(5, .int (refS (sh 2 1 0) (sh 2 1 1) l i (m 9 0))), (4, .ref (a 41)), (0, .ref (a 0)), (1, .int x), (2, .int l), (3, .int i)] [.int 0] (loftW cI cS a (pA m 8 h_102) v w (seS T C li ap va le) (tpS B L P F) sh kf)
          refine g_if_eq hE 64 dX4_torn_55 (by decide) (fun c106 => ?_) (fun c106 => absurd (by decide) c106)
          refine g_iconst hE dX4_torn_64 0 (by decide) ?_
          refine g_locals [2, 3, 4, 5, 1, 0] [(0, .ref (a 0)), (1, .int x), (2, .int l), (3, .int i), (4, .ref (a 41)), (5, .int (refS (sh 2 1 0) (sh 2 1 1) l i (m 9 0)))] rfl ?_
          exact L65 h_102 0 (by rw [if_neg c104])
      · refine g_iload hE dX4_torn_42 0 rfl ?_
        refine g_world (loftW cI cS a (pA m 8 (m 8)) v w (seS T C li ap va le) (tpS B L P F) sh kf) (by rfl) ?_
        exact g_iret hE hQ dX4_torn_44 rfl (2, (refS (sh 2 1 0) (sh 2 1 1) l i (m 9 0)), v, (m 8)) rfl rfl ⟨h2, (by show (refS (sh 2 1 0) (sh 2 1 1) l i (m 9 0)) = fTorn m n pl sh 2 l i; simp only [fTorn, if_neg (show ¬ (2 : Nat) = 4 by decide), if_pos c75, if_neg (show ¬ (refS (sh 2 1 0) (sh 2 1 1) l i (m 9 0)) = 0 from c79), if_pos trivial]), Or.inr rfl⟩
    · rw [if_neg c75] at h74
      subst h74
      show Go E Q 10 0 0 16 [(4, .ref (a 41)), (0, .ref (a 0)), (1, .int x), (2, .int l), (3, .int i)] [.int 0] (loftW cI cS a m v w (seS T C li ap va le) (tpS B L P F) sh kf)
      refine g_if_ne hE 21 dX4_torn_16 (by decide) (fun c107 => absurd (by decide) c107) (fun c107 => ?_)
      refine g_iconst hE dX4_torn_19 (-1) (by decide) ?_
      refine g_world (loftW cI cS a (pA m 8 (m 8)) v w (seS T C li ap va le) (tpS B L P F) sh kf) (by rfl) ?_
      exact g_iret hE hQ dX4_torn_20 rfl (2, (-1), v, (m 8)) rfl rfl ⟨h2, (by show (-1) = fTorn m n pl sh 2 l i; simp only [fTorn, if_neg (show ¬ (2 : Nat) = 4 by decide), if_neg c75, if_pos trivial]), Or.inr rfl⟩
  · show Go E Q 10 0 0 5 [(0, .ref (a 0)), (1, .int x), (2, .int l), (3, .int i)] [.ref (a 43)] (loftW cI cS a m v w (seS T C li ap va le) (tpS B L P F) sh kf)
    refine g_astore hE dX4_torn_5 [(4, .ref (a 43)), (0, .ref (a 0)), (1, .int x), (2, .int l), (3, .int i)] (by decide) rfl ?_
    refine g_aload hE dX4_torn_7 0 rfl ?_
    refine g_ifnull hE dX4_torn_9 ?_
    refine g_iload_n hE dX4_torn_12 3 rfl ?_
    refine g_callS hE (c_X4_isLane cI cS l) mk_X4_isLane st_X4_isLane ml_X4_225 dX4_torn_13 (As := [.int l]) (rest := []) rfl rfl (by decide) (by decide) (Nat.le_of_ble_eq_true rfl) (by decide) (by decide) [] rfl (by decide) (fun u => Nat.le_of_ble_eq_true rfl) (ws' := fun u => loftW cI cS a m v w (seS T C li ap va le) (tpS B L P F) sh kf) (fun u => rfl) (fun u hu => ?_)
    obtain ⟨r_108, rfl⟩ : ∃ z, z = u := ⟨_, rfl⟩
    have h109 : r_108 = if 0 ≤ l ∧ l ≤ 2 then 1 else 0 := hu
    by_cases c110 : 0 ≤ l ∧ l ≤ 2
    · rw [if_pos c110] at h109
      subst h109
      show Go E Q 10 0 0 16 [(4, .ref (a 43)), (0, .ref (a 0)), (1, .int x), (2, .int l), (3, .int i)] [.int 1] (loftW cI cS a m v w (seS T C li ap va le) (tpS B L P F) sh kf)
      refine g_if_ne hE 21 dX4_torn_16 (by decide) (fun c111 => ?_) (fun c111 => absurd c111 (by decide))
      refine g_aload hE dX4_torn_21 0 rfl ?_
      refine g_iload_n hE dX4_torn_23 3 rfl ?_
      refine g_iload_n hE dX4_torn_24 4 rfl ?_
      refine g_aload_n hE dX4_torn_25 1 rfl ?_
      refine g_get hE fl_X4_10 dX4_torn_26 0 rfl rfl ?_
      refine g_get hE fl_X4_51 dX4_torn_29 1 rfl rfl ?_
      refine g_callV hE (c_X2_refusal cI cS (fun i => a (i + 43)) (sh 3 0) (sh 3 1 0) (sh 3 1 1) l i (m 9 0)) mk_X2_refusal mv_X2_refusal ml_X4_233 dX4_torn_32 (As := [.int l, .int i, .int (m 9 0)]) (rest := []) rfl rfl 43 rfl (show vwCl[2]? = some (RX2, TX2, 3) from rfl) (by decide) (by decide) (Nat.le_of_ble_eq_true rfl) (by decide) (by decide) [43, 44] rfl (by decide) (fun u => Nat.le_of_ble_eq_true rfl) (ws' := fun u => loftW cI cS a m v w (seS T C li ap va le) (tpS B L P F) sh kf) (fun u => rfl) (fun u hu => ?_)
      obtain ⟨r_112, rfl⟩ : ∃ z, z = u := ⟨_, rfl⟩
      have h113 : r_112 = (refS (sh 3 1 0) (sh 3 1 1) l i (m 9 0)) := hu
      subst h113
      show Go E Q 10 0 0 35 [(4, .ref (a 43)), (0, .ref (a 0)), (1, .int x), (2, .int l), (3, .int i)] [.int (refS (sh 3 1 0) (sh 3 1 1) l i (m 9 0))] (loftW cI cS a m v w (seS T C li ap va le) (tpS B L P F) sh kf)
      refine g_istore hE dX4_torn_35 [(5, .int (refS (sh 3 1 0) (sh 3 1 1) l i (m 9 0))), (4, .ref (a 43)), (0, .ref (a 0)), (1, .int x), (2, .int l), (3, .int i)] (by decide) rfl ?_
      refine g_iload hE dX4_torn_37 0 rfl ?_
      refine g_if_eq hE 45 dX4_torn_39 (by decide) (fun c114 => ?_) (fun c114 => ?_)
      · have L65 : ∀ (hq : Nat → Int32) (z : Int32), (z = if boB m n pl (sh 3 0) i n = true then 128 else 0) → Go E Q 10 0 0 65 [(0, .ref (a 0)), (1, .int x), (2, .int l), (3, .int i), (4, .ref (a 43)), (5, .int (refS (sh 3 1 0) (sh 3 1 1) l i (m 9 0)))] [.int z] (loftW cI cS a (pA m 8 hq) v w (seS T C li ap va le) (tpS B L P F) sh kf) := by
          intro hq z hz
          refine g_istore hE dX4_torn_65 [(6, .int z), (0, .ref (a 0)), (1, .int x), (2, .int l), (3, .int i), (4, .ref (a 43)), (5, .int (refS (sh 3 1 0) (sh 3 1 1) l i (m 9 0)))] (by decide) rfl ?_
          refine g_aload_n hE dX4_torn_67 1 rfl ?_
          refine g_get hE fl_X4_16 dX4_torn_68 0 rfl rfl ?_
          refine g_aload_n hE dX4_torn_71 1 rfl ?_
          refine g_get hE fl_X4_10 dX4_torn_72 0 rfl rfl ?_
          refine g_callV hE (c_X0_takeAll_s cI cS (fun i => a (i + 11)) (fun i => a (i + 1)) v (pA m 8 hq)) mk_X0_takeAll mv_X0_takeAll ml_X4_187 dX4_torn_75 (As := [.ref (a 1)]) (rest := []) rfl rfl 11 rfl (show vwCl[0]? = some (RX0, TX0, 13) from rfl) (by decide) (by decide) (Nat.le_of_ble_eq_true rfl) (by decide) (by decide) [1, 2, 3, 4, 5, 6, 7, 8, 9, 10, 11, 12, 13, 14, 15, 16, 17, 18, 19, 20] rfl (by decide) (fun u => Nat.le_of_ble_eq_true rfl) (ws' := fun u => loftW cI cS a (pA m 8 hq) (tkA v (pA m 8 hq)) w (seS T C li ap va le) (tpS B L P F) sh kf) (fun u => rfl) (fun u hu => ?_)
          show Go E Q 10 0 0 78 [(6, .int z), (0, .ref (a 0)), (1, .int x), (2, .int l), (3, .int i), (4, .ref (a 43)), (5, .int (refS (sh 3 1 0) (sh 3 1 1) l i (m 9 0)))] [] (loftW cI cS a (pA m 8 hq) (tkA v (pA m 8 hq)) w (seS T C li ap va le) (tpS B L P F) sh kf)
          refine g_iconst hE dX4_torn_78 0 (by decide) ?_
          refine g_istore hE dX4_torn_79 [(7, .int 0), (6, .int z), (0, .ref (a 0)), (1, .int x), (2, .int l), (3, .int i), (4, .ref (a 43)), (5, .int (refS (sh 3 1 0) (sh 3 1 1) l i (m 9 0)))] (by decide) rfl ?_
          have L81 : ∀ (n_81 : Nat) (p : Nat) (y : Int32) (vv : Nat → Nat → Int32), (p ≤ pl) → (y = trS m n pl (sh 3 0) i p) → (MW vv n sv pl) → (EqM vv m) → (pl - p < n_81) → Go E Q 10 0 0 81 [(0, .ref (a 0)), (1, .int x), (2, .int l), (3, .int i), (4, .ref (a 43)), (5, .int (refS (sh 3 1 0) (sh 3 1 1) l i (m 9 0))), (6, .int y), (7, .int (nI p))] [] (loftW cI cS a (pA m 8 hq) vv w (seS T C li ap va le) (tpS B L P F) sh kf) := by
            intro n_81
            induction n_81 with
            | zero => intro p y vv hp hy hVV hE1 hm_81; exact absurd hm_81 (Nat.not_lt_zero _)
            | succ n_81 ih_81 =>
              intro p y vv hp hy hVV hE1 hm_81
              refine g_iload hE dX4_torn_81 7 rfl ?_
              refine g_aload_n hE dX4_torn_83 0 rfl ?_
              refine g_get hE fl_X4_10 dX4_torn_84 0 rfl rfl ?_
              refine g_get hE fl_X4_125 dX4_torn_87 1 rfl rfl ?_
              refine g_icmp_ge hE 164 dX4_torn_90 (by decide) (fun c116 => ?_) (fun c116 => ?_)
              · have kc116 := nat_le_t (show (m 9 2) = nI pl from hpl) (show (nI p) = nI p from rfl) (by omega) (by omega) c116
                refine g_iload hE dX4_torn_164 6 rfl ?_
                exact g_iret hE hQ dX4_torn_166 rfl (3, y, vv, hq) rfl rfl ⟨h2, (by have e : pl = p := (by omega); rw [hy, ← e]; show trS m n pl (sh 3 0) i pl = fTorn m n pl sh 3 l i; simp only [fTorn, if_neg (show ¬ (3 : Nat) = 4 by decide), if_pos c110, if_pos (show (refS (sh 3 1 0) (sh 3 1 1) l i (m 9 0)) = 0 from c114), if_pos trivial]), Or.inl hVV⟩
              · have kc116 := nat_le_f (show (m 9 2) = nI pl from hpl) (show (nI p) = nI p from rfl) (by omega) (by omega) c116
                refine g_aload_n hE dX4_torn_93 0 rfl ?_
                refine g_get hE fl_X4_10 dX4_torn_94 0 rfl rfl ?_
                refine g_get hE fl_X4_170 dX4_torn_97 1 rfl rfl ?_
                refine g_iload hE dX4_torn_100 7 rfl ?_
                refine g_callS hE (c_X4_at cI cS (a 9) 6 (m 7) (nI p) (by decide)) mk_X4_at st_X4_at ml_X4_91 dX4_torn_102 (As := [.ref (a 9), .int (nI p)]) (rest := []) rfl rfl (by decide) (by decide) (Nat.le_of_ble_eq_true rfl) (by decide) (by decide) [9] rfl (by decide) (fun u => Nat.le_of_ble_eq_true rfl) (ws' := fun u => loftW cI cS a (pA m 8 hq) vv w (seS T C li ap va le) (tpS B L P F) sh kf) (fun u => rfl) (fun u hu => ?_)
                obtain ⟨r_117, rfl⟩ : ∃ z, z = u := ⟨_, rfl⟩
                have h118 : r_117 = ((m 7) p) := hu.trans (by rw [show (nI p) = nI p from rfl]; exact atv_n (by omega) (by decide))
                subst h118
                show Go E Q 10 0 0 105 [(0, .ref (a 0)), (1, .int x), (2, .int l), (3, .int i), (4, .ref (a 43)), (5, .int (refS (sh 3 1 0) (sh 3 1 1) l i (m 9 0))), (6, .int y), (7, .int (nI p))] [.int ((m 7) p)] (loftW cI cS a (pA m 8 hq) vv w (seS T C li ap va le) (tpS B L P F) sh kf)
                refine g_istore hE dX4_torn_105 [(8, .int ((m 7) p)), (0, .ref (a 0)), (1, .int x), (2, .int l), (3, .int i), (4, .ref (a 43)), (5, .int (refS (sh 3 1 0) (sh 3 1 1) l i (m 9 0))), (6, .int y), (7, .int (nI p))] (by decide) rfl ?_
                refine g_aload_n hE dX4_torn_107 1 rfl ?_
                refine g_get hE fl_X4_16 dX4_torn_108 0 rfl rfl ?_
                refine g_get hE fl_X4_88 dX4_torn_111 11 rfl rfl ?_
                refine g_iload hE dX4_torn_114 0 rfl ?_
                refine g_iconst hE dX4_torn_116 3 (by decide) ?_
                refine g_callS hE (c_X4_exchange cI cS (a 15) 8 (vv 3) ((m 7) p) 3 (by decide)) mk_X4_exchange st_X4_exchange ml_X4_67 dX4_torn_117 (As := [.ref (a 15), .int ((m 7) p), .int 3]) (rest := []) rfl rfl (by decide) (by decide) (Nat.le_of_ble_eq_true rfl) (by decide) (by decide) [15] rfl (by decide) (fun u => Nat.le_of_ble_eq_true rfl) (ws' := fun u => loftW cI cS a (pA m 8 hq) (pA vv 3 u.2) w (seS T C li ap va le) (tpS B L P F) sh kf) (fun u => rfl) (fun u hu => ?_)
                obtain ⟨r_119, f_120⟩ := u
                have h121 : r_119 = atv (vv 3) 8 ((m 7) p) ∧ f_120 = putv (vv 3) 8 ((m 7) p) 3 := hu
                have h122 : f_120 = (putv (vv 3) 8 ((m 7) p) 3) := h121.2
                subst h122
                have h123 : r_119 = (atv (vv 3) 8 ((m 7) p)) := h121.1
                subst h123
                show Go E Q 10 0 0 120 [(8, .int ((m 7) p)), (0, .ref (a 0)), (1, .int x), (2, .int l), (3, .int i), (4, .ref (a 43)), (5, .int (refS (sh 3 1 0) (sh 3 1 1) l i (m 9 0))), (6, .int y), (7, .int (nI p))] [.int (atv (vv 3) 8 ((m 7) p))] (loftW cI cS a (pA m 8 hq) (pA vv 3 (putv (vv 3) 8 ((m 7) p) 3)) w (seS T C li ap va le) (tpS B L P F) sh kf)
                refine g_istore hE dX4_torn_120 [(9, .int (atv (vv 3) 8 ((m 7) p))), (8, .int ((m 7) p)), (0, .ref (a 0)), (1, .int x), (2, .int l), (3, .int i), (4, .ref (a 43)), (5, .int (refS (sh 3 1 0) (sh 3 1 1) l i (m 9 0))), (6, .int y), (7, .int (nI p))] (by decide) rfl ?_
                refine g_aload_n hE dX4_torn_122 2 rfl ?_
                refine g_get hE fl_X4_16 dX4_torn_123 0 rfl rfl ?_
                refine g_aload hE dX4_torn_126 6 rfl ?_
                refine g_iload_n hE dX4_torn_128 5 rfl ?_
                refine g_callS hE (c_X4_bearsOut cI cS (fun i => a (i + 11)) (fun i => a (i + 43)) (pA vv 3 (putv (vv 3) 8 ((m 7) p) 3)) (by first | assumption | exact mw_of (by assumption)) (sh 3 0) (sh 3 1 0) (sh 3 1 1) i) mk_X4_bearsOut st_X4_bearsOut ml_X4_240 dX4_torn_129 (As := [.ref (a 11), .ref (a 43), .int i]) (rest := []) rfl rfl (by decide) (by decide) (Nat.le_of_ble_eq_true rfl) (by decide) (by decide) [11, 12, 13, 14, 15, 16, 17, 18, 19, 20, 43, 44] rfl (by decide) (fun u => Nat.le_of_ble_eq_true rfl) (ws' := fun u => loftW cI cS a (pA m 8 hq) (pA (pA vv 3 (putv (vv 3) 8 ((m 7) p) 3)) 8 u.2) w (seS T C li ap va le) (tpS B L P F) sh kf) (fun u => rfl) (fun u hu => ?_)
                obtain ⟨r_124, h_125⟩ := u
                have h126 : r_124 = if boB (pA vv 3 (putv (vv 3) 8 ((m 7) p) 3)) n pl (sh 3 0) i n = true then 1 else 0 := hu
                by_cases c127 : boB (pA vv 3 (putv (vv 3) 8 ((m 7) p) 3)) n pl (sh 3 0) i n = true
                · rw [if_pos c127] at h126
                  subst h126
                  show Go E Q 10 0 0 132 [(9, .int (atv (vv 3) 8 ((m 7) p))), (8, .int ((m 7) p)), (0, .ref (a 0)), (1, .int x), (2, .int l), (3, .int i), (4, .ref (a 43)), (5, .int (refS (sh 3 1 0) (sh 3 1 1) l i (m 9 0))), (6, .int y), (7, .int (nI p))] [.int 1] (loftW cI cS a (pA m 8 hq) (pA (pA vv 3 (putv (vv 3) 8 ((m 7) p) 3)) 8 h_125) w (seS T C li ap va le) (tpS B L P F) sh kf)
                  refine g_if_eq hE 144 dX4_torn_132 (by decide) (fun c128 => absurd c128 (by decide)) (fun c128 => ?_)
                  refine g_iload hE dX4_torn_135 8 rfl ?_
                  refine g_iconst hE dX4_torn_137 1 (by decide) ?_
                  refine g_iload hE dX4_torn_138 9 rfl ?_
                  refine g_ishl hE dX4_torn_140 ?_
                  refine g_ior hE dX4_torn_141 ?_
                  refine g_istore hE dX4_torn_142 [(6, .int (y ||| (1 <<< ((nI p) &&& 31)))), (9, .int (atv (vv 3) 8 ((m 7) p))), (8, .int ((m 7) p)), (0, .ref (a 0)), (1, .int x), (2, .int l), (3, .int i), (4, .ref (a 43)), (5, .int (refS (sh 3 1 0) (sh 3 1 1) l i (m 9 0))), (7, .int (nI p))] (by decide) rfl ?_
                  refine g_aload_n hE dX4_torn_144 3 rfl ?_
                  refine g_get hE fl_X4_16 dX4_torn_145 0 rfl rfl ?_
                  refine g_get hE fl_X4_88 dX4_torn_148 11 rfl rfl ?_
                  refine g_iload hE dX4_torn_151 2 rfl ?_
                  refine g_iload hE dX4_torn_153 1 rfl ?_
                  refine g_callS hE (c_X4_put cI cS (a 15) 8 (putv (vv 3) 8 ((m 7) p) 3) ((m 7) p) (atv (vv 3) 8 ((m 7) p)) (by decide)) mk_X4_put st_X4_put ml_X4_236 dX4_torn_155 (As := [.ref (a 15), .int ((m 7) p), .int (atv (vv 3) 8 ((m 7) p))]) (rest := []) rfl rfl (by decide) (by decide) (Nat.le_of_ble_eq_true rfl) (by decide) (by decide) [15] rfl (by decide) (fun u => Nat.le_of_ble_eq_true rfl) (ws' := fun u => loftW cI cS a (pA m 8 hq) (pA (pA (pA vv 3 (putv (vv 3) 8 ((m 7) p) 3)) 8 h_125) 3 u) w (seS T C li ap va le) (tpS B L P F) sh kf) (fun u => rfl) (fun u hu => ?_)
                  obtain ⟨f_129, rfl⟩ : ∃ z, z = u := ⟨_, rfl⟩
                  have h130 : f_129 = putv (putv (vv 3) 8 ((m 7) p) 3) 8 ((m 7) p) (atv (vv 3) 8 ((m 7) p)) := hu
                  have h131 : f_129 = (putv (putv (vv 3) 8 ((m 7) p) 3) 8 ((m 7) p) (atv (vv 3) 8 ((m 7) p))) := h130
                  subst h131
                  show Go E Q 10 0 0 158 [(6, .int (y ||| (1 <<< ((nI p) &&& 31)))), (9, .int (atv (vv 3) 8 ((m 7) p))), (8, .int ((m 7) p)), (0, .ref (a 0)), (1, .int x), (2, .int l), (3, .int i), (4, .ref (a 43)), (5, .int (refS (sh 3 1 0) (sh 3 1 1) l i (m 9 0))), (7, .int (nI p))] [] (loftW cI cS a (pA m 8 hq) (pA (pA (pA vv 3 (putv (vv 3) 8 ((m 7) p) 3)) 8 h_125) 3 (putv (putv (vv 3) 8 ((m 7) p) 3) 8 ((m 7) p) (atv (vv 3) 8 ((m 7) p)))) w (seS T C li ap va le) (tpS B L P F) sh kf)
                  refine g_iinc hE dX4_torn_158 9 (nI (p + 1)) [(7, .int (nI (p + 1))), (6, .int (y ||| (1 <<< ((nI p) &&& 31)))), (9, .int (atv (vv 3) 8 ((m 7) p))), (8, .int ((m 7) p)), (0, .ref (a 0)), (1, .int x), (2, .int l), (3, .int i), (4, .ref (a 43)), (5, .int (refS (sh 3 1 0) (sh 3 1 1) l i (m 9 0)))] rfl (nI_1 _) (by decide) rfl ?_
                  refine g_goto hE 81 dX4_torn_161 (by decide) ?_
                  refine g_locals [4, 5, 6, 7, 8, 9, 1, 0] [(0, .ref (a 0)), (1, .int x), (2, .int l), (3, .int i), (4, .ref (a 43)), (5, .int (refS (sh 3 1 0) (sh 3 1 1) l i (m 9 0))), (6, .int (y ||| (1 <<< ((nI p) &&& 31)))), (7, .int (nI (p + 1)))] rfl ?_
                  exact ih_81 (p + 1) (y ||| (1 <<< ((nI p) &&& 31))) (pA (pA (pA vv 3 (putv (vv 3) 8 ((m 7) p) 3)) 8 h_125) 3 (putv (putv (vv 3) 8 ((m 7) p) 3) 8 ((m 7) p) (atv (vv 3) 8 ((m 7) p)))) (by first | assumption | omega) (tr_y hE1 hy c127) hVV (tr_E hE1) (by omega)
                · rw [if_neg c127] at h126
                  subst h126
                  show Go E Q 10 0 0 132 [(9, .int (atv (vv 3) 8 ((m 7) p))), (8, .int ((m 7) p)), (0, .ref (a 0)), (1, .int x), (2, .int l), (3, .int i), (4, .ref (a 43)), (5, .int (refS (sh 3 1 0) (sh 3 1 1) l i (m 9 0))), (6, .int y), (7, .int (nI p))] [.int 0] (loftW cI cS a (pA m 8 hq) (pA (pA vv 3 (putv (vv 3) 8 ((m 7) p) 3)) 8 h_125) w (seS T C li ap va le) (tpS B L P F) sh kf)
                  refine g_if_eq hE 144 dX4_torn_132 (by decide) (fun c132 => ?_) (fun c132 => absurd (by decide) c132)
                  refine g_aload_n hE dX4_torn_144 2 rfl ?_
                  refine g_get hE fl_X4_16 dX4_torn_145 0 rfl rfl ?_
                  refine g_get hE fl_X4_88 dX4_torn_148 11 rfl rfl ?_
                  refine g_iload hE dX4_torn_151 1 rfl ?_
                  refine g_iload hE dX4_torn_153 0 rfl ?_
                  refine g_callS hE (c_X4_put cI cS (a 15) 8 (putv (vv 3) 8 ((m 7) p) 3) ((m 7) p) (atv (vv 3) 8 ((m 7) p)) (by decide)) mk_X4_put st_X4_put ml_X4_236 dX4_torn_155 (As := [.ref (a 15), .int ((m 7) p), .int (atv (vv 3) 8 ((m 7) p))]) (rest := []) rfl rfl (by decide) (by decide) (Nat.le_of_ble_eq_true rfl) (by decide) (by decide) [15] rfl (by decide) (fun u => Nat.le_of_ble_eq_true rfl) (ws' := fun u => loftW cI cS a (pA m 8 hq) (pA (pA (pA vv 3 (putv (vv 3) 8 ((m 7) p) 3)) 8 h_125) 3 u) w (seS T C li ap va le) (tpS B L P F) sh kf) (fun u => rfl) (fun u hu => ?_)
                  obtain ⟨f_133, rfl⟩ : ∃ z, z = u := ⟨_, rfl⟩
                  have h134 : f_133 = putv (putv (vv 3) 8 ((m 7) p) 3) 8 ((m 7) p) (atv (vv 3) 8 ((m 7) p)) := hu
                  have h135 : f_133 = (putv (putv (vv 3) 8 ((m 7) p) 3) 8 ((m 7) p) (atv (vv 3) 8 ((m 7) p))) := h134
                  subst h135
                  show Go E Q 10 0 0 158 [(9, .int (atv (vv 3) 8 ((m 7) p))), (8, .int ((m 7) p)), (0, .ref (a 0)), (1, .int x), (2, .int l), (3, .int i), (4, .ref (a 43)), (5, .int (refS (sh 3 1 0) (sh 3 1 1) l i (m 9 0))), (6, .int y), (7, .int (nI p))] [] (loftW cI cS a (pA m 8 hq) (pA (pA (pA vv 3 (putv (vv 3) 8 ((m 7) p) 3)) 8 h_125) 3 (putv (putv (vv 3) 8 ((m 7) p) 3) 8 ((m 7) p) (atv (vv 3) 8 ((m 7) p)))) w (seS T C li ap va le) (tpS B L P F) sh kf)
                  refine g_iinc hE dX4_torn_158 9 (nI (p + 1)) [(7, .int (nI (p + 1))), (9, .int (atv (vv 3) 8 ((m 7) p))), (8, .int ((m 7) p)), (0, .ref (a 0)), (1, .int x), (2, .int l), (3, .int i), (4, .ref (a 43)), (5, .int (refS (sh 3 1 0) (sh 3 1 1) l i (m 9 0))), (6, .int y)] rfl (nI_1 _) (by decide) rfl ?_
                  refine g_goto hE 81 dX4_torn_161 (by decide) ?_
                  refine g_locals [3, 4, 5, 6, 7, 8, 9, 0] [(0, .ref (a 0)), (1, .int x), (2, .int l), (3, .int i), (4, .ref (a 43)), (5, .int (refS (sh 3 1 0) (sh 3 1 1) l i (m 9 0))), (6, .int y), (7, .int (nI (p + 1)))] rfl ?_
                  exact ih_81 (p + 1) y (pA (pA (pA vv 3 (putv (vv 3) 8 ((m 7) p) 3)) 8 h_125) 3 (putv (putv (vv 3) 8 ((m 7) p) 3) 8 ((m 7) p) (atv (vv 3) 8 ((m 7) p)))) (by first | assumption | omega) (tr_n hE1 hy c127) hVV (tr_E hE1) (by omega)
          refine g_locals [2, 3, 4, 5, 6, 7, 1, 0] [(0, .ref (a 0)), (1, .int x), (2, .int l), (3, .int i), (4, .ref (a 43)), (5, .int (refS (sh 3 1 0) (sh 3 1 1) l i (m 9 0))), (6, .int z), (7, .int 0)] rfl ?_
          exact L81 _ 0 z (tkA v (pA m 8 hq)) (Nat.zero_le _) hz (MW_tk (shM_pA hM)) EqM_tk8 (Nat.lt_succ_self _)
        refine g_aload_n hE dX4_torn_45 2 rfl ?_
        refine g_get hE fl_X4_10 dX4_torn_46 0 rfl rfl ?_
        refine g_aload hE dX4_torn_49 1 rfl ?_
        refine g_iload_n hE dX4_torn_51 5 rfl ?_
        refine g_callS hE (c_X4_bearsOut cI cS (fun i => a (i + 1)) (fun i => a (i + 43)) m (by first | assumption | exact mw_of (by assumption)) (sh 3 0) (sh 3 1 0) (sh 3 1 1) i) mk_X4_bearsOut st_X4_bearsOut ml_X4_240 dX4_torn_52 (As := [.ref (a 1), .ref (a 43), .int i]) (rest := []) rfl rfl (by decide) (by decide) (Nat.le_of_ble_eq_true rfl) (by decide) (by decide) [1, 2, 3, 4, 5, 6, 7, 8, 9, 10, 43, 44] rfl (by decide) (fun u => Nat.le_of_ble_eq_true rfl) (ws' := fun u => loftW cI cS a (pA m 8 u.2) v w (seS T C li ap va le) (tpS B L P F) sh kf) (fun u => rfl) (fun u hu => ?_)
        obtain ⟨r_136, h_137⟩ := u
        have h138 : r_136 = if boB m n pl (sh 3 0) i n = true then 1 else 0 := hu
        by_cases c139 : boB m n pl (sh 3 0) i n = true
        · rw [if_pos c139] at h138
          subst h138
          show Go E Q 10 0 0 55 [(5, .int (refS (sh 3 1 0) (sh 3 1 1) l i (m 9 0))), (4, .ref (a 43)), (0, .ref (a 0)), (1, .int x), (2, .int l), (3, .int i)] [.int 1] (loftW cI cS a (pA m 8 h_137) v w (seS T C li ap va le) (tpS B L P F) sh kf)
          refine g_if_eq hE 64 dX4_torn_55 (by decide) (fun c140 => absurd c140 (by decide)) (fun c140 => ?_)
          refine g_sipush hE dX4_torn_58 128 (by decide) ?_
          refine g_goto hE 65 dX4_torn_61 (by decide) ?_
          refine g_locals [2, 3, 4, 5, 1, 0] [(0, .ref (a 0)), (1, .int x), (2, .int l), (3, .int i), (4, .ref (a 43)), (5, .int (refS (sh 3 1 0) (sh 3 1 1) l i (m 9 0)))] rfl ?_
          exact L65 h_137 128 (by rw [if_pos c139])
        · rw [if_neg c139] at h138
          subst h138
          show Go E Q 10 0 0 55 [(5, .int (refS (sh 3 1 0) (sh 3 1 1) l i (m 9 0))), (4, .ref (a 43)), (0, .ref (a 0)), (1, .int x), (2, .int l), (3, .int i)] [.int 0] (loftW cI cS a (pA m 8 h_137) v w (seS T C li ap va le) (tpS B L P F) sh kf)
          refine g_if_eq hE 64 dX4_torn_55 (by decide) (fun c141 => ?_) (fun c141 => absurd (by decide) c141)
          refine g_iconst hE dX4_torn_64 0 (by decide) ?_
          refine g_locals [2, 3, 4, 5, 1, 0] [(0, .ref (a 0)), (1, .int x), (2, .int l), (3, .int i), (4, .ref (a 43)), (5, .int (refS (sh 3 1 0) (sh 3 1 1) l i (m 9 0)))] rfl ?_
          exact L65 h_137 0 (by rw [if_neg c139])
      · refine g_iload hE dX4_torn_42 0 rfl ?_
        refine g_world (loftW cI cS a (pA m 8 (m 8)) v w (seS T C li ap va le) (tpS B L P F) sh kf) (by rfl) ?_
        exact g_iret hE hQ dX4_torn_44 rfl (3, (refS (sh 3 1 0) (sh 3 1 1) l i (m 9 0)), v, (m 8)) rfl rfl ⟨h2, (by show (refS (sh 3 1 0) (sh 3 1 1) l i (m 9 0)) = fTorn m n pl sh 3 l i; simp only [fTorn, if_neg (show ¬ (3 : Nat) = 4 by decide), if_pos c110, if_neg (show ¬ (refS (sh 3 1 0) (sh 3 1 1) l i (m 9 0)) = 0 from c114), if_pos trivial]), Or.inr rfl⟩
    · rw [if_neg c110] at h109
      subst h109
      show Go E Q 10 0 0 16 [(4, .ref (a 43)), (0, .ref (a 0)), (1, .int x), (2, .int l), (3, .int i)] [.int 0] (loftW cI cS a m v w (seS T C li ap va le) (tpS B L P F) sh kf)
      refine g_if_ne hE 21 dX4_torn_16 (by decide) (fun c142 => absurd (by decide) c142) (fun c142 => ?_)
      refine g_iconst hE dX4_torn_19 (-1) (by decide) ?_
      refine g_world (loftW cI cS a (pA m 8 (m 8)) v w (seS T C li ap va le) (tpS B L P F) sh kf) (by rfl) ?_
      exact g_iret hE hQ dX4_torn_20 rfl (3, (-1), v, (m 8)) rfl rfl ⟨h2, (by show (-1) = fTorn m n pl sh 3 l i; simp only [fTorn, if_neg (show ¬ (3 : Nat) = 4 by decide), if_neg c110, if_pos trivial]), Or.inr rfl⟩
  · show Go E Q 10 0 0 5 [(0, .ref (a 0)), (1, .int x), (2, .int l), (3, .int i)] [.null] (loftW cI cS a m v w (seS T C li ap va le) (tpS B L P F) sh kf)
    refine g_astoreN hE dX4_torn_5 [(4, .null), (0, .ref (a 0)), (1, .int x), (2, .int l), (3, .int i)] (by decide) rfl ?_
    refine g_aloadN hE dX4_torn_7 0 rfl ?_
    refine g_ifnullN hE 19 dX4_torn_9 (by decide) ?_
    refine g_iconst hE dX4_torn_19 (-1) (by decide) ?_
    refine g_world (loftW cI cS a (pA m 8 (m 8)) v w (seS T C li ap va le) (tpS B L P F) sh kf) (by rfl) ?_
    exact g_iret hE hQ dX4_torn_20 rfl (4, (-1), v, (m 8)) rfl rfl ⟨h2, (by show (-1) = fTorn m n pl sh 4 l i; simp only [fTorn, if_pos (show (4 : Nat) = 4 by decide), if_pos trivial]), Or.inr rfl⟩
