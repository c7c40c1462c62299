/-! the mill: its row, its heaps -/
def inRb (m : Nat → Nat → Int32) (s : Int32) : Nat → Bool
  | 0 => false
  | k + 1 => inRb m s k || decide (m 7 k = s)
theorem inRb_n {m : Nat → Nat → Int32} {s : Int32} {k : Nat} (h : inRb m s k = false) (h2 : ¬ m 7 k = s) : inRb m s (k + 1) = false := by rw [inRb, h, decide_eq_false h2]; rfl
theorem inRb_at {m : Nat → Nat → Int32} {s : Int32} {k : Nat} (h : m 7 k = s) : ∀ {l : Nat}, k < l → inRb m s l = true
  | 0, q => absurd q (Nat.not_lt_zero _)
  | l + 1, q => by
    rw [inRb]
    by_cases e : k = l
    · subst e; rw [decide_eq_true h, Bool.or_true]
    · rw [inRb_at h (show k < l by omega), Bool.true_or]
theorem inRb_y {m : Nat → Nat → Int32} {s : Int32} {k l : Nat} (q : k < l) (h : m 7 k = s) : inRb m s l = true := inRb_at h q
theorem inRb_of {m : Nat → Nat → Int32} {s : Int32} : ∀ {l : Nat}, inRb m s l = true → ∃ k, k < l ∧ m 7 k = s
  | 0, h => by cases h
  | l + 1, h => by
    rw [inRb, Bool.or_eq_true] at h
    rcases h with h | h
    · obtain ⟨k, h1, h2⟩ := inRb_of h
      exact ⟨k, by omega, h2⟩
    · exact ⟨l, by omega, of_decide_eq_true h⟩
def hoR (hp : Nat → Nat) (g : Nat) : Nat → Nat → Int32
  | 0, _ => -4
  | f + 1, k => if (hp k).testBit g = true then nI k else hoR hp g f (k + 1)
theorem ho_t {x z : Int32} {s g : Nat} (hz : z = nI g) (hh : x = nI s ∧ s < 64) (hg : g < 6) (h : ¬ ((x >>> (z &&& 31)) &&& 1) = 0) : s.testBit g = true := by subst hz; exact bit_t hh.1 hh.2 hg h
theorem ho_f {x z : Int32} {s g : Nat} (hz : z = nI g) (hh : x = nI s ∧ s < 64) (hg : g < 6) (h : ((x >>> (z &&& 31)) &&& 1) = 0) : s.testBit g = false := by subst hz; exact bit_f hh.1 hh.2 hg h
def hzR (m : Nat → Nat → Int32) (z : Int32) : Nat → Nat → Int32
  | 0, k => nI k
  | f + 1, k => if atv (m 3) 8 (m 7 k) = 3 ∨ z ≤ atv (m 4) 8 (m 7 k) then hzR m z f (k + 1) else nI k
theorem spread_end {m : Nat → Nat → Int32} {n p pl : Nat} {h : Nat → Int32} {z : Int32} (hh : ∀ j, j < p → h j = nI (hpS m n (m 7) pl j)) (e : p = pl) (hz : z = nI (cmS m n (m 7) p)) : ∀ j, j ≤ pl → upd h pl z j = nI (hpS m n (m 7) pl j) := by
  subst e
  intro j hj
  unfold upd
  by_cases q : j = p
  · rw [if_pos q, q, hz, hpS, if_neg (by omega)]
  · rw [if_neg q, hh j (by omega)]
def tmS (k : Int32) : Int32 := if k = 1 then 0 else if k = 0 then 1 else 2
theorem tm1 {k : Int32} (h : k = 1) : tmS k = 0 := by unfold tmS; rw [if_pos h]
theorem tm0 {k : Int32} (h : k = 0) : tmS k = 1 := by subst h; rfl
theorem tm2 {k : Int32} (h : ¬ k = 1) (h2 : ¬ k = 0) : tmS k = 2 := by unfold tmS; rw [if_neg h, if_neg h2]
def widS (m : Nat → Nat → Int32) (v : Int32) : Nat → Nat → Int32 := pA m 4 (putv (m 4) 8 v (if 60 < (atv (m 4) 8 v + tmS (atv (m 3) 8 v) * atv (m 6) 8 v) then 60 else (atv (m 4) 8 v + tmS (atv (m 3) 8 v) * atv (m 6) 8 v)))
set_option maxHeartbeats 4000000 in
set_option maxRecDepth 100000 in
theorem c_X0_isInRow (cI cS : ClassId) (a : Nat → Nat) (m : Nat → Nat → Int32) {n sv pl : Nat} (hM : MW m n sv pl) (s : Int32) : CT cI cS yX0_isInRow cX0_isInRow 3 (some .boolean) 1 [.ref (a 0), .int s] (millW cI a m) 0 0 (fun u : Int32 => u = if inRb m s pl = true then 1 else 0) (fun u => some (.int u)) (fun u => (millW cI a m)) := by
  refine ct_intro (by decide) (Nat.le_of_ble_eq_true rfl) (fun E Q hE hQ hI => ?_)
  have hE : CxOk E cI cS RX0 cX0_isInRow 3 (some .boolean) 1 0 0 := hE
  show Go E Q 3 0 0 0 [(0, .ref (a 0)), (1, .int s)] [] (millW cI a m)
  have hn := hM.1
  have hn6 := hM.2.1
  have hsv := hM.2.2.1
  have hsv8 := hM.2.2.2.1
  have hpl := hM.2.2.2.2.1
  have hpl6 := hM.2.2.2.2.2
  refine g_iconst hE dX0_isInRow_0 0 (by decide) ?_
  refine g_istore_n hE dX0_isInRow_1 [(2, .int 0), (0, .ref (a 0)), (1, .int s)] rfl (by decide) rfl ?_
  have L2 : ∀ (n_2 : Nat) (p : Nat), (p ≤ pl) → (inRb m s p = false) → (pl - p < n_2) → Go E Q 3 0 0 2 [(0, .ref (a 0)), (1, .int s), (2, .int (nI p))] [] (millW cI a m) := by
    intro n_2
    induction n_2 with
    | zero => intro p hp hq hm_2; exact absurd hm_2 (Nat.not_lt_zero _)
    | succ n_2 ih_2 =>
      intro p hp hq hm_2
      refine g_iload_n hE dX0_isInRow_2 2 rfl ?_
      refine g_aload_n hE dX0_isInRow_3 0 rfl ?_
      refine g_get hE fl_X0_46 dX0_isInRow_4 0 rfl rfl ?_
      refine g_icmp_ge hE 30 dX0_isInRow_7 (by decide) (fun c1 => ?_) (fun c1 => ?_)
      · have kc1 := nat_le_t (show (m 9 2) = nI pl from hpl) (show (nI p) = nI p from rfl) (by omega) (by omega) c1
        refine g_iconst hE dX0_isInRow_30 0 (by decide) ?_
        exact g_iret hE hQ dX0_isInRow_31 (by first | rfl | decide) 0 rfl rfl (by rw [if_neg]; rw [show pl = p by omega, hq]; decide)
      · have kc1 := nat_le_f (show (m 9 2) = nI pl from hpl) (show (nI p) = nI p from rfl) (by omega) (by omega) c1
        refine g_aload_n hE dX0_isInRow_10 0 rfl ?_
        refine g_get hE fl_X0_33 dX0_isInRow_11 0 rfl rfl ?_
        refine g_iload_n hE dX0_isInRow_14 2 rfl ?_
        refine g_callSN hE (c_X4_at cI cS (a 8) 6 (m 7) (nI p) (by decide)) mk_X4_at st_X4_at nl_X0_49 dX0_isInRow_15 (As := [.ref (a 8), .int (nI p)]) (rest := []) rfl rfl (by decide) (by decide) (Nat.le_of_ble_eq_true rfl) (by decide) (by decide) [8] rfl (by decide) (fun u => Nat.le_of_ble_eq_true rfl) (ws' := fun u => millW cI a m) (fun u => rfl) (fun u hu => ?_)
        obtain ⟨r_2, rfl⟩ : ∃ z, z = u := ⟨_, rfl⟩
        have h3 : r_2 = ((m 7) p) := hu.trans (by rw [show (nI p) = nI p from rfl]; exact atv_n (by omega) (by decide))
        subst h3
        show Go E Q 3 0 0 18 [(0, .ref (a 0)), (1, .int s), (2, .int (nI p))] [.int ((m 7) p)] (millW cI a m)
        refine g_iload_n hE dX0_isInRow_18 1 rfl ?_
        refine g_icmp_ne hE 24 dX0_isInRow_19 (by decide) (fun c4 => ?_) (fun c4 => ?_)
        · refine g_iinc hE dX0_isInRow_24 2 (nI (p + 1)) [(2, .int (nI (p + 1))), (0, .ref (a 0)), (1, .int s)] rfl (nI_1 _) (by decide) rfl ?_
          refine g_goto hE 2 dX0_isInRow_27 (by decide) ?_
          refine g_locals [1, 2, 0] [(0, .ref (a 0)), (1, .int s), (2, .int (nI (p + 1)))] rfl ?_
          exact ih_2 (p + 1) (by first | assumption | omega) (inRb_n hq (by assumption)) (by omega)
        · refine g_iconst hE dX0_isInRow_22 1 (by decide) ?_
          exact g_iret hE hQ dX0_isInRow_23 (by first | rfl | decide) 1 rfl rfl (if_pos (inRb_y (by assumption) (by assumption))).symm
  refine g_locals [1, 2, 0] [(0, .ref (a 0)), (1, .int s), (2, .int 0)] rfl ?_
  exact L2 _ 0 (Nat.zero_le _) rfl (Nat.lt_succ_self _)
set_option maxHeartbeats 4000000 in
set_option maxRecDepth 100000 in
theorem c_X0_heapOf (cI cS : ClassId) (a : Nat → Nat) (m : Nat → Nat → Int32) {n sv pl : Nat} (hM : MW m n sv pl) (z : Int32) (g : Nat) (hz : z = nI g) (hg : g < 6) (hp : Nat → Nat) (hh : ∀ j, j ≤ pl → m 8 j = nI (hp j) ∧ hp j < 64) : CT cI cS yX0_heapOf cX0_heapOf 3 (some .int) 1 [.ref (a 0), .int z] (millW cI a m) 0 0 (fun u : Int32 => u = hoR hp g (pl + 1) 0) (fun u => some (.int u)) (fun u => (millW cI a m)) := by
  refine ct_intro (by decide) (Nat.le_of_ble_eq_true rfl) (fun E Q hE hQ hI => ?_)
  have hE : CxOk E cI cS RX0 cX0_heapOf 3 (some .int) 1 0 0 := hE
  show Go E Q 3 0 0 0 [(0, .ref (a 0)), (1, .int z)] [] (millW cI a m)
  have hn := hM.1
  have hn6 := hM.2.1
  have hsv := hM.2.2.1
  have hsv8 := hM.2.2.2.1
  have hpl := hM.2.2.2.2.1
  have hpl6 := hM.2.2.2.2.2
  refine g_iconst hE dX0_heapOf_0 0 (by decide) ?_
  refine g_istore_n hE dX0_heapOf_1 [(2, .int 0), (0, .ref (a 0)), (1, .int z)] rfl (by decide) rfl ?_
  have L2 : ∀ (n_2 : Nat) (k : Nat), (k ≤ pl + 1) → (hoR hp g (pl + 1) 0 = hoR hp g (pl + 1 - k) k) → (pl + 1 - k < n_2) → Go E Q 3 0 0 2 [(0, .ref (a 0)), (1, .int z), (2, .int (nI k))] [] (millW cI a m) := by
    intro n_2
    induction n_2 with
    | zero => intro k hk hq hm_2; exact absurd hm_2 (Nat.not_lt_zero _)
    | succ n_2 ih_2 =>
      intro k hk hq hm_2
      refine g_iload_n hE dX0_heapOf_2 2 rfl ?_
      refine g_aload_n hE dX0_heapOf_3 0 rfl ?_
      refine g_get hE fl_X0_46 dX0_heapOf_4 0 rfl rfl ?_
      refine g_icmp_gt hE 33 dX0_heapOf_7 (by decide) (fun c1 => ?_) (fun c1 => ?_)
      · have kc1 := nat_lt_t (show (m 9 2) = nI pl from hpl) (show (nI k) = nI k from rfl) (by omega) (by omega) c1
        refine g_bipush hE dX0_heapOf_33 (-4) (by decide) ?_
        exact g_iret hE hQ dX0_heapOf_35 rfl (-4) rfl rfl (by rw [hq, show pl + 1 - k = 0 by omega]; rfl)
      · have kc1 := nat_lt_f (show (m 9 2) = nI pl from hpl) (show (nI k) = nI k from rfl) (by omega) (by omega) c1
        refine g_aload_n hE dX0_heapOf_10 0 rfl ?_
        refine g_get hE fl_X0_36 dX0_heapOf_11 0 rfl rfl ?_
        refine g_iload_n hE dX0_heapOf_14 2 rfl ?_
        refine g_callSN hE (c_X4_at cI cS (a 9) 7 (m 8) (nI k) (by decide)) mk_X4_at st_X4_at nl_X0_49 dX0_heapOf_15 (As := [.ref (a 9), .int (nI k)]) (rest := []) rfl rfl (by decide) (by decide) (Nat.le_of_ble_eq_true rfl) (by decide) (by decide) [9] rfl (by decide) (fun u => Nat.le_of_ble_eq_true rfl) (ws' := fun u => millW cI a m) (fun u => rfl) (fun u hu => ?_)
        obtain ⟨r_2, rfl⟩ : ∃ z, z = u := ⟨_, rfl⟩
        have h3 : r_2 = ((m 8) k) := hu.trans (by rw [show (nI k) = nI k from rfl]; exact atv_n (by omega) (by decide))
        subst h3
        show Go E Q 3 0 0 18 [(0, .ref (a 0)), (1, .int z), (2, .int (nI k))] [.int ((m 8) k)] (millW cI a m)
        refine g_iload_n hE dX0_heapOf_18 1 rfl ?_
        refine g_ishr hE dX0_heapOf_19 ?_
        refine g_iconst hE dX0_heapOf_20 1 (by decide) ?_
        refine g_iand hE dX0_heapOf_21 ?_
        refine g_if_eq hE 27 dX0_heapOf_22 (by decide) (fun c4 => ?_) (fun c4 => ?_)
        · refine g_iinc hE dX0_heapOf_27 2 (nI (k + 1)) [(2, .int (nI (k + 1))), (0, .ref (a 0)), (1, .int z)] rfl (nI_1 _) (by decide) rfl ?_
          refine g_goto hE 2 dX0_heapOf_30 (by decide) ?_
          refine g_locals [1, 2, 0] [(0, .ref (a 0)), (1, .int z), (2, .int (nI (k + 1)))] rfl ?_
          exact ih_2 (k + 1) (by first | assumption | omega) (by rw [hq, show pl + 1 - k = (pl + 1 - (k + 1)) + 1 by omega, hoR, if_neg (by rw [ho_f hz (hh k (by omega)) hg (by assumption)]; decide)]) (by omega)
        · refine g_iload_n hE dX0_heapOf_25 2 rfl ?_
          exact g_iret hE hQ dX0_heapOf_26 rfl (nI k) rfl rfl (by rw [hq, show pl + 1 - k = (pl - k) + 1 by omega, hoR, if_pos (ho_t hz (hh k (by omega)) hg (by assumption))])
  refine g_locals [1, 2, 0] [(0, .ref (a 0)), (1, .int z), (2, .int 0)] rfl ?_
  exact L2 _ 0 (Nat.zero_le _) rfl (Nat.lt_succ_self _)
set_option maxHeartbeats 4000000 in
set_option maxRecDepth 100000 in
theorem c_X0_heapOfSize (cI cS : ClassId) (a : Nat → Nat) (m : Nat → Nat → Int32) {n sv pl : Nat} (hM : MW m n sv pl) (z : Int32) : CT cI cS yX0_heapOfSize cX0_heapOfSize 3 (some .int) 2 [.ref (a 0), .int z] (millW cI a m) 0 0 (fun u : Int32 => u = hzR m z pl 0) (fun u => some (.int u)) (fun u => (millW cI a m)) := by
  refine ct_intro (by decide) (Nat.le_of_ble_eq_true rfl) (fun E Q hE hQ hI => ?_)
  have hE : CxOk E cI cS RX0 cX0_heapOfSize 3 (some .int) 2 0 0 := hE
  show Go E Q 3 0 0 0 [(0, .ref (a 0)), (1, .int z)] [] (millW cI a m)
  have hn := hM.1
  have hn6 := hM.2.1
  have hsv := hM.2.2.1
  have hsv8 := hM.2.2.2.1
  have hpl := hM.2.2.2.2.1
  have hpl6 := hM.2.2.2.2.2
  refine g_iconst hE dX0_heapOfSize_0 0 (by decide) ?_
  refine g_istore_n hE dX0_heapOfSize_1 [(2, .int 0), (0, .ref (a 0)), (1, .int z)] rfl (by decide) rfl ?_
  have L2 : ∀ (n_2 : Nat) (k : Nat), (k ≤ pl) → (hzR m z pl 0 = hzR m z (pl - k) k) → (pl - k < n_2) → Go E Q 3 0 0 2 [(0, .ref (a 0)), (1, .int z), (2, .int (nI k))] [] (millW cI a m) := by
    intro n_2
    induction n_2 with
    | zero => intro k hk hq hm_2; exact absurd hm_2 (Nat.not_lt_zero _)
    | succ n_2 ih_2 =>
      intro k hk hq hm_2
      refine g_iload_n hE dX0_heapOfSize_2 2 rfl ?_
      refine g_aload_n hE dX0_heapOfSize_3 0 rfl ?_
      refine g_get hE fl_X0_46 dX0_heapOfSize_4 0 rfl rfl ?_
      refine g_icmp_ge hE 34 dX0_heapOfSize_7 (by decide) (fun c1 => ?_) (fun c1 => ?_)
      · have kc1 := nat_le_t (show (m 9 2) = nI pl from hpl) (show (nI k) = nI k from rfl) (by omega) (by omega) c1
        refine g_aload_n hE dX0_heapOfSize_34 0 rfl ?_
        refine g_get hE fl_X0_46 dX0_heapOfSize_35 0 rfl rfl ?_
        exact g_iret hE hQ dX0_heapOfSize_38 rfl (m 9 2) rfl rfl (by rw [hq]; first | (rw [show pl - k = (pl - (k + 1)) + 1 by omega, hzR, if_neg (by assumption)]; done) | (rw [show pl - k = 0 by omega, hpl, show pl = k by omega]; rfl))
      · have kc1 := nat_le_f (show (m 9 2) = nI pl from hpl) (show (nI k) = nI k from rfl) (by omega) (by omega) c1
        refine g_aload_n hE dX0_heapOfSize_10 0 rfl ?_
        refine g_aload_n hE dX0_heapOfSize_11 0 rfl ?_
        refine g_get hE fl_X0_33 dX0_heapOfSize_12 0 rfl rfl ?_
        refine g_iload_n hE dX0_heapOfSize_15 2 rfl ?_
        refine g_callSN hE (c_X4_at cI cS (a 8) 6 (m 7) (nI k) (by decide)) mk_X4_at st_X4_at nl_X0_49 dX0_heapOfSize_16 (As := [.ref (a 8), .int (nI k)]) (rest := [.ref (a 0)]) rfl rfl (by decide) (by decide) (Nat.le_of_ble_eq_true rfl) (by decide) (by decide) [8] rfl (by decide) (fun u => Nat.le_of_ble_eq_true rfl) (ws' := fun u => millW cI a m) (fun u => rfl) (fun u hu => ?_)
        obtain ⟨r_2, rfl⟩ : ∃ z, z = u := ⟨_, rfl⟩
        have h3 : r_2 = ((m 7) k) := hu.trans (by rw [show (nI k) = nI k from rfl]; exact atv_n (by omega) (by decide))
        subst h3
        show Go E Q 3 0 0 19 [(0, .ref (a 0)), (1, .int z), (2, .int (nI k))] [.int ((m 7) k), .ref (a 0)] (millW cI a m)
        refine g_iload_n hE dX0_heapOfSize_19 1 rfl ?_
        refine g_callV hE (c_X0_letsFall cI cS a m (by first | assumption | exact mw_of (by assumption)) ((m 7) k) z) mk_X0_letsFall mv_X0_letsFall ml_X0_84 dX0_heapOfSize_20 (As := [.int ((m 7) k), .int z]) (rest := []) rfl rfl 0 rfl (show vwCl[0]? = some (RX0, TX0, 13) from rfl) (by decide) (by decide) (Nat.le_of_ble_eq_true rfl) (by decide) (by decide) [0, 1, 2, 3, 4, 5, 6, 7, 8, 9] rfl (by decide) (fun u => Nat.le_of_ble_eq_true rfl) (ws' := fun u => millW cI a m) (fun u => rfl) (fun u hu => ?_)
        obtain ⟨r_4, rfl⟩ : ∃ z, z = u := ⟨_, rfl⟩
        have h5 : r_4 = if atv (m 3) 8 ((m 7) k) = 3 ∨ z ≤ atv (m 4) 8 ((m 7) k) then 1 else 0 := hu
        by_cases c6 : atv (m 3) 8 ((m 7) k) = 3 ∨ z ≤ atv (m 4) 8 ((m 7) k)
        · rw [if_pos c6] at h5
          subst h5
          show Go E Q 3 0 0 23 [(0, .ref (a 0)), (1, .int z), (2, .int (nI k))] [.int 1] (millW cI a m)
          refine g_if_ne hE 28 dX0_heapOfSize_23 (by decide) (fun c7 => ?_) (fun c7 => absurd c7 (by decide))
          refine g_iinc hE dX0_heapOfSize_28 2 (nI (k + 1)) [(2, .int (nI (k + 1))), (0, .ref (a 0)), (1, .int z)] rfl (nI_1 _) (by decide) rfl ?_
          refine g_goto hE 2 dX0_heapOfSize_31 (by decide) ?_
          refine g_locals [1, 2, 0] [(0, .ref (a 0)), (1, .int z), (2, .int (nI (k + 1)))] rfl ?_
          exact ih_2 (k + 1) (by first | assumption | omega) (by rw [hq, show pl - k = (pl - (k + 1)) + 1 by omega, hzR, if_pos (by assumption)]) (by omega)
        · rw [if_neg c6] at h5
          subst h5
          show Go E Q 3 0 0 23 [(0, .ref (a 0)), (1, .int z), (2, .int (nI k))] [.int 0] (millW cI a m)
          refine g_if_ne hE 28 dX0_heapOfSize_23 (by decide) (fun c8 => absurd (by decide) c8) (fun c8 => ?_)
          refine g_iload_n hE dX0_heapOfSize_26 2 rfl ?_
          exact g_iret hE hQ dX0_heapOfSize_27 rfl (nI k) rfl rfl (by rw [hq]; first | (rw [show pl - k = (pl - (k + 1)) + 1 by omega, hzR, if_neg (by assumption)]; done) | (rw [show pl - k = 0 by omega, hpl, show pl = k by omega]; rfl))
  refine g_locals [1, 2, 0] [(0, .ref (a 0)), (1, .int z), (2, .int 0)] rfl ?_
  exact L2 _ 0 (Nat.zero_le _) rfl (Nat.lt_succ_self _)
set_option maxHeartbeats 4000000 in
set_option maxRecDepth 100000 in
theorem c_X0_spread (cI cS : ClassId) (a : Nat → Nat) (m : Nat → Nat → Int32) {n sv pl : Nat} (hM : MW m n sv pl) : CT cI cS yX0_spread cX0_spread 4 none 4 [.ref (a 0)] (millW cI a m) 0 0 (fun u : (Nat → Int32) => ∀ j, j ≤ pl → u j = nI (hpS m n (m 7) pl j)) (fun u => none) (fun u => (millW cI a (pA m 8 u))) := by
  refine ct_intro (by decide) (Nat.le_of_ble_eq_true rfl) (fun E Q hE hQ hI => ?_)
  have hE : CxOk E cI cS RX0 cX0_spread 4 none 4 0 0 := hE
  show Go E Q 4 0 0 0 [(0, .ref (a 0))] [] (millW cI a m)
  have hn := hM.1
  have hn6 := hM.2.1
  have hsv := hM.2.2.1
  have hsv8 := hM.2.2.2.1
  have hpl := hM.2.2.2.2.1
  have hpl6 := hM.2.2.2.2.2
  refine g_aload_n hE dX0_spread_0 0 rfl ?_
  refine g_callV hE (c_X0_load cI cS a m (by first | assumption | exact mw_of (by assumption))) mk_X0_load mv_X0_load ml_X0_94 dX0_spread_1 (As := []) (rest := []) rfl rfl 0 rfl (show vwCl[0]? = some (RX0, TX0, 13) from rfl) (by decide) (by decide) (Nat.le_of_ble_eq_true rfl) (by decide) (by decide) [0, 1, 2, 3, 4, 5, 6, 7, 8, 9] rfl (by decide) (fun u => Nat.le_of_ble_eq_true rfl) (ws' := fun u => millW cI a m) (fun u => rfl) (fun u hu => ?_)
  obtain ⟨r_1, rfl⟩ : ∃ z, z = u := ⟨_, rfl⟩
  have h2 : r_1 = (nI (ldS m n)) := hu
  subst h2
  show Go E Q 4 0 0 4 [(0, .ref (a 0))] [.int (nI (ldS m n))] (millW cI a m)
  refine g_istore_n hE dX0_spread_4 [(1, .int (nI (ldS m n))), (0, .ref (a 0))] rfl (by decide) rfl ?_
  refine g_iconst hE dX0_spread_5 0 (by decide) ?_
  refine g_istore_n hE dX0_spread_6 [(2, .int 0), (1, .int (nI (ldS m n))), (0, .ref (a 0))] rfl (by decide) rfl ?_
  have L7 : ∀ (n_7 : Nat) (p : Nat) (z : Int32) (h : Nat → Int32), (p ≤ pl) → (z = nI (cmS m n (m 7) p)) → (∀ j, j < p → h j = nI (hpS m n (m 7) pl j)) → (pl - p < n_7) → Go E Q 4 0 0 7 [(0, .ref (a 0)), (1, .int z), (2, .int (nI p))] [] (millW cI a (pA m 8 h)) := by
    intro n_7
    induction n_7 with
    | zero => intro p z h hp hz hh hm_7; exact absurd hm_7 (Nat.not_lt_zero _)
    | succ n_7 ih_7 =>
      intro p z h hp hz hh hm_7
      have hcm := cmS_lt (m := m) (row := m 7) hn6 p
      refine g_iload_n hE dX0_spread_7 2 rfl ?_
      refine g_aload_n hE dX0_spread_8 0 rfl ?_
      refine g_get hE fl_X0_46 dX0_spread_9 0 rfl rfl ?_
      refine g_icmp_ge hE 50 dX0_spread_12 (by decide) (fun c3 => ?_) (fun c3 => ?_)
      · have kc3 := nat_le_t (show (m 9 2) = nI pl from hpl) (show (nI p) = nI p from rfl) (by omega) (by omega) c3
        refine g_aload_n hE dX0_spread_50 0 rfl ?_
        refine g_get hE fl_X0_36 dX0_spread_51 0 rfl rfl ?_
        refine g_aload_n hE dX0_spread_54 0 rfl ?_
        refine g_get hE fl_X0_46 dX0_spread_55 0 rfl rfl ?_
        refine g_iload_n hE dX0_spread_58 1 rfl ?_
        refine g_callSN hE (c_X4_put cI cS (a 9) 7 h (m 9 2) z (by decide)) mk_X4_put st_X4_put nl_X0_53 dX0_spread_59 (As := [.ref (a 9), .int (m 9 2), .int z]) (rest := []) rfl rfl (by decide) (by decide) (Nat.le_of_ble_eq_true rfl) (by decide) (by decide) [9] rfl (by decide) (fun u => Nat.le_of_ble_eq_true rfl) (ws' := fun u => millW cI a (pA (pA m 8 h) 8 u)) (fun u => rfl) (fun u hu => ?_)
        obtain ⟨f_4, rfl⟩ : ∃ z, z = u := ⟨_, rfl⟩
        have h5 : f_4 = putv h 7 (m 9 2) z := hu
        have h6 : f_4 = (upd h pl z) := h5.trans (by rw [show (m 9 2) = nI pl from hpl]; exact putv_n (by omega) (by decide))
        subst h6
        show Go E Q 4 0 0 62 [(0, .ref (a 0)), (1, .int z), (2, .int (nI p))] [] (millW cI a (pA (pA m 8 h) 8 (upd h pl z)))
        exact g_vret hE hQ dX0_spread_62 (upd h pl z) rfl rfl (spread_end hh (show p = pl by omega) hz)
      · have kc3 := nat_le_f (show (m 9 2) = nI pl from hpl) (show (nI p) = nI p from rfl) (by omega) (by omega) c3
        refine g_aload_n hE dX0_spread_15 0 rfl ?_
        refine g_aload_n hE dX0_spread_16 0 rfl ?_
        refine g_get hE fl_X0_33 dX0_spread_17 0 rfl rfl ?_
        refine g_iload_n hE dX0_spread_20 2 rfl ?_
        refine g_callSN hE (c_X4_at cI cS (a 8) 6 (m 7) (nI p) (by decide)) mk_X4_at st_X4_at nl_X0_49 dX0_spread_21 (As := [.ref (a 8), .int (nI p)]) (rest := [.ref (a 0)]) rfl rfl (by decide) (by decide) (Nat.le_of_ble_eq_true rfl) (by decide) (by decide) [8] rfl (by decide) (fun u => Nat.le_of_ble_eq_true rfl) (ws' := fun u => millW cI a (pA m 8 h)) (fun u => rfl) (fun u hu => ?_)
        obtain ⟨r_7, rfl⟩ : ∃ z, z = u := ⟨_, rfl⟩
        have h8 : r_7 = ((m 7) p) := hu.trans (by rw [show (nI p) = nI p from rfl]; exact atv_n (by omega) (by decide))
        subst h8
        show Go E Q 4 0 0 24 [(0, .ref (a 0)), (1, .int z), (2, .int (nI p))] [.int ((m 7) p), .ref (a 0)] (millW cI a (pA m 8 h))
        refine g_iload_n hE dX0_spread_24 1 rfl ?_
        refine g_callV hE (c_X0_falling cI cS a (pA m 8 h) (by first | assumption | exact mw_of (by assumption)) ((m 7) p) z (cmS m n (m 7) p) (show z = nI (cmS m n (m 7) p) from hz) (by first | assumption | exact bs_lt64 _ (by assumption) | exact fallS_lt (by assumption) (by assumption) | exact nd_lt (by assumption) (by assumption) | exact nd_lt (by assumption) (fallS_lt (by assumption) (by assumption)) | exact nd_lt (by assumption) (bs_lt64 _ (by assumption)) | decide)) mk_X0_falling mv_X0_falling ml_X0_98 dX0_spread_25 (As := [.int ((m 7) p), .int z]) (rest := []) rfl rfl 0 rfl (show vwCl[0]? = some (RX0, TX0, 13) from rfl) (by decide) (by decide) (Nat.le_of_ble_eq_true rfl) (by decide) (by decide) [0, 1, 2, 3, 4, 5, 6, 7, 8, 9] rfl (by decide) (fun u => Nat.le_of_ble_eq_true rfl) (ws' := fun u => millW cI a (pA m 8 h)) (fun u => rfl) (fun u hu => ?_)
        obtain ⟨r_9, rfl⟩ : ∃ z, z = u := ⟨_, rfl⟩
        have h10 : r_9 = (nI (fallS m n ((m 7) p) (cmS m n (m 7) p))) := hu
        subst h10
        show Go E Q 4 0 0 28 [(0, .ref (a 0)), (1, .int z), (2, .int (nI p))] [.int (nI (fallS m n ((m 7) p) (cmS m n (m 7) p)))] (millW cI a (pA m 8 h))
        refine g_istore_n hE dX0_spread_28 [(3, .int (nI (fallS m n ((m 7) p) (cmS m n (m 7) p)))), (0, .ref (a 0)), (1, .int z), (2, .int (nI p))] rfl (by decide) rfl ?_
        refine g_aload_n hE dX0_spread_29 1 rfl ?_
        refine g_get hE fl_X0_36 dX0_spread_30 0 rfl rfl ?_
        refine g_iload_n hE dX0_spread_33 3 rfl ?_
        refine g_iload_n hE dX0_spread_34 2 rfl ?_
        refine g_iload_n hE dX0_spread_35 0 rfl ?_
        refine g_iconst hE dX0_spread_36 (-1) (by decide) ?_
        refine g_ixor hE dX0_spread_37 ?_
        refine g_iand hE dX0_spread_38 ?_
        refine g_callSN hE (c_X4_put cI cS (a 9) 7 h (nI p) (z &&& ((nI (fallS m n ((m 7) p) (cmS m n (m 7) p))) ^^^ (-1))) (by decide)) mk_X4_put st_X4_put nl_X0_53 dX0_spread_39 (As := [.ref (a 9), .int (nI p), .int (z &&& ((nI (fallS m n ((m 7) p) (cmS m n (m 7) p))) ^^^ (-1)))]) (rest := []) rfl rfl (by decide) (by decide) (Nat.le_of_ble_eq_true rfl) (by decide) (by decide) [9] rfl (by decide) (fun u => Nat.le_of_ble_eq_true rfl) (ws' := fun u => millW cI a (pA (pA m 8 h) 8 u)) (fun u => rfl) (fun u hu => ?_)
        obtain ⟨f_11, rfl⟩ : ∃ z, z = u := ⟨_, rfl⟩
        have h12 : f_11 = putv h 7 (nI p) (z &&& ((nI (fallS m n ((m 7) p) (cmS m n (m 7) p))) ^^^ (-1))) := hu
        have h13 : f_11 = (upd h p (z &&& ((nI (fallS m n ((m 7) p) (cmS m n (m 7) p))) ^^^ (-1)))) := h12.trans (by rw [show (nI p) = nI p from rfl]; exact putv_n (by omega) (by decide))
        subst h13
        show Go E Q 4 0 0 42 [(3, .int (nI (fallS m n ((m 7) p) (cmS m n (m 7) p)))), (0, .ref (a 0)), (1, .int z), (2, .int (nI p))] [] (millW cI a (pA (pA m 8 h) 8 (upd h p (z &&& ((nI (fallS m n ((m 7) p) (cmS m n (m 7) p))) ^^^ (-1))))))
        refine g_iload_n hE dX0_spread_42 0 rfl ?_
        refine g_istore_n hE dX0_spread_43 [(1, .int (nI (fallS m n ((m 7) p) (cmS m n (m 7) p)))), (3, .int (nI (fallS m n ((m 7) p) (cmS m n (m 7) p)))), (0, .ref (a 0)), (2, .int (nI p))] rfl (by decide) rfl ?_
        refine g_iinc hE dX0_spread_44 3 (nI (p + 1)) [(2, .int (nI (p + 1))), (1, .int (nI (fallS m n ((m 7) p) (cmS m n (m 7) p)))), (3, .int (nI (fallS m n ((m 7) p) (cmS m n (m 7) p)))), (0, .ref (a 0))] rfl (nI_1 _) (by decide) rfl ?_
        refine g_goto hE 7 dX0_spread_47 (by decide) ?_
        refine g_locals [3, 1, 0] [(0, .ref (a 0)), (1, .int (nI (fallS m n ((m 7) p) (cmS m n (m 7) p)))), (2, .int (nI (p + 1)))] rfl ?_
        exact ih_7 (p + 1) (nI (fallS m n ((m 7) p) (cmS m n (m 7) p))) (upd h p (z &&& ((nI (fallS m n ((m 7) p) (cmS m n (m 7) p))) ^^^ (-1)))) (by first | assumption | omega) rfl (upd_pre hh (by rw [hpS, if_pos (by omega)]; exact nd_i hz rfl hcm (fallS_lt hn6 hcm))) (by omega)
  refine g_locals [2, 1, 0] [(0, .ref (a 0)), (1, .int (nI (ldS m n))), (2, .int 0)] rfl ?_
  exact L7 _ 0 (nI (ldS m n)) (m 8) (Nat.zero_le _) rfl (fun j hj => absurd hj (Nat.not_lt_zero _)) (Nat.lt_succ_self _)
set_option maxHeartbeats 4000000 in
set_option maxRecDepth 100000 in
theorem c_X0_widen (cI cS : ClassId) (a : Nat → Nat) (m : Nat → Nat → Int32) {n sv pl : Nat} (hM : MW m n sv pl) (v : Int32) : CT cI cS yX0_widen cX0_widen 3 none 1 [.ref (a 0), .int v] (millW cI a m) 0 0 (fun u : Unit => True) (fun u => none) (fun u => (millW cI a (widS m v))) := by
  refine ct_intro (by decide) (Nat.le_of_ble_eq_true rfl) (fun E Q hE hQ hI => ?_)
  have hE : CxOk E cI cS RX0 cX0_widen 3 none 1 0 0 := hE
  show Go E Q 3 0 0 0 [(0, .ref (a 0)), (1, .int v)] [] (millW cI a m)
  have hn := hM.1
  have hn6 := hM.2.1
  have hsv := hM.2.2.1
  have hsv8 := hM.2.2.2.1
  have hpl := hM.2.2.2.2.1
  have hpl6 := hM.2.2.2.2.2
  refine g_aload_n hE dX0_widen_0 0 rfl ?_
  refine g_get hE fl_X0_21 dX0_widen_1 0 rfl rfl ?_
  refine g_iload_n hE dX0_widen_4 1 rfl ?_
  refine g_callSN hE (c_X4_at cI cS (a 4) 8 (m 3) v (by decide)) mk_X4_at st_X4_at nl_X0_49 dX0_widen_5 (As := [.ref (a 4), .int v]) (rest := []) rfl rfl (by decide) (by decide) (Nat.le_of_ble_eq_true rfl) (by decide) (by decide) [4] rfl (by decide) (fun u => Nat.le_of_ble_eq_true rfl) (ws' := fun u => millW cI a m) (fun u => rfl) (fun u hu => ?_)
  obtain ⟨r_1, rfl⟩ : ∃ z, z = u := ⟨_, rfl⟩
  have h2 : r_1 = (atv (m 3) 8 v) := hu
  subst h2
  show Go E Q 3 0 0 8 [(0, .ref (a 0)), (1, .int v)] [.int (atv (m 3) 8 v)] (millW cI a m)
  refine g_iconst hE dX0_widen_8 1 (by decide) ?_
  refine g_icmp_ne hE 16 dX0_widen_9 (by decide) (fun c3 => ?_) (fun c3 => ?_)
  · refine g_aload_n hE dX0_widen_16 0 rfl ?_
    refine g_get hE fl_X0_21 dX0_widen_17 0 rfl rfl ?_
    refine g_iload_n hE dX0_widen_20 1 rfl ?_
    refine g_callSN hE (c_X4_at cI cS (a 4) 8 (m 3) v (by decide)) mk_X4_at st_X4_at nl_X0_49 dX0_widen_21 (As := [.ref (a 4), .int v]) (rest := []) rfl rfl (by decide) (by decide) (Nat.le_of_ble_eq_true rfl) (by decide) (by decide) [4] rfl (by decide) (fun u => Nat.le_of_ble_eq_true rfl) (ws' := fun u => millW cI a m) (fun u => rfl) (fun u hu => ?_)
    obtain ⟨r_4, rfl⟩ : ∃ z, z = u := ⟨_, rfl⟩
    have h5 : r_4 = (atv (m 3) 8 v) := hu
    subst h5
    show Go E Q 3 0 0 24 [(0, .ref (a 0)), (1, .int v)] [.int (atv (m 3) 8 v)] (millW cI a m)
    refine g_if_ne hE 31 dX0_widen_24 (by decide) (fun c6 => ?_) (fun c6 => ?_)
    · refine g_iconst hE dX0_widen_31 2 (by decide) ?_
      refine g_istore_n hE dX0_widen_32 [(2, .int 2), (0, .ref (a 0)), (1, .int v)] rfl (by decide) rfl ?_
      refine g_aload_n hE dX0_widen_33 1 rfl ?_
      refine g_get hE fl_X0_24 dX0_widen_34 0 rfl rfl ?_
      refine g_iload_n hE dX0_widen_37 2 rfl ?_
      refine g_aload_n hE dX0_widen_38 1 rfl ?_
      refine g_get hE fl_X0_24 dX0_widen_39 0 rfl rfl ?_
      refine g_iload_n hE dX0_widen_42 2 rfl ?_
      refine g_callSN hE (c_X4_at cI cS (a 5) 8 (m 4) v (by decide)) mk_X4_at st_X4_at nl_X0_49 dX0_widen_43 (As := [.ref (a 5), .int v]) (rest := [.int v, .ref (a 5)]) rfl rfl (by decide) (by decide) (Nat.le_of_ble_eq_true rfl) (by decide) (by decide) [5] rfl (by decide) (fun u => Nat.le_of_ble_eq_true rfl) (ws' := fun u => millW cI a m) (fun u => rfl) (fun u hu => ?_)
      obtain ⟨r_7, rfl⟩ : ∃ z, z = u := ⟨_, rfl⟩
      have h8 : r_7 = (atv (m 4) 8 v) := hu
      subst h8
      show Go E Q 3 0 0 46 [(2, .int 2), (0, .ref (a 0)), (1, .int v)] [.int (atv (m 4) 8 v), .int v, .ref (a 5)] (millW cI a m)
      refine g_iload_n hE dX0_widen_46 0 rfl ?_
      refine g_aload_n hE dX0_widen_47 1 rfl ?_
      refine g_get hE fl_X0_30 dX0_widen_48 0 rfl rfl ?_
      refine g_iload_n hE dX0_widen_51 2 rfl ?_
      refine g_callSN hE (c_X4_at cI cS (a 7) 8 (m 6) v (by decide)) mk_X4_at st_X4_at nl_X0_49 dX0_widen_52 (As := [.ref (a 7), .int v]) (rest := [.int 2, .int (atv (m 4) 8 v), .int v, .ref (a 5)]) rfl rfl (by decide) (by decide) (Nat.le_of_ble_eq_true rfl) (by decide) (by decide) [7] rfl (by decide) (fun u => Nat.le_of_ble_eq_true rfl) (ws' := fun u => millW cI a m) (fun u => rfl) (fun u hu => ?_)
      obtain ⟨r_9, rfl⟩ : ∃ z, z = u := ⟨_, rfl⟩
      have h10 : r_9 = (atv (m 6) 8 v) := hu
      subst h10
      show Go E Q 3 0 0 55 [(2, .int 2), (0, .ref (a 0)), (1, .int v)] [.int (atv (m 6) 8 v), .int 2, .int (atv (m 4) 8 v), .int v, .ref (a 5)] (millW cI a m)
      refine g_imul hE dX0_widen_55 ?_
      refine g_iadd hE dX0_widen_56 ?_
      refine g_bipush hE dX0_widen_57 60 (by decide) ?_
      refine g_min hE (by decide) (by decide) (by decide) ml_X0_74 mi_st mi_in mi_co dX0_widen_59 (Nat.le_of_ble_eq_true rfl) ?_
      refine g_callSN hE (c_X4_put cI cS (a 5) 8 (m 4) v (if 60 < ((atv (m 4) 8 v) + (2 * (atv (m 6) 8 v))) then 60 else ((atv (m 4) 8 v) + (2 * (atv (m 6) 8 v)))) (by decide)) mk_X4_put st_X4_put nl_X0_53 dX0_widen_62 (As := [.ref (a 5), .int v, .int (if 60 < ((atv (m 4) 8 v) + (2 * (atv (m 6) 8 v))) then 60 else ((atv (m 4) 8 v) + (2 * (atv (m 6) 8 v))))]) (rest := []) rfl rfl (by decide) (by decide) (Nat.le_of_ble_eq_true rfl) (by decide) (by decide) [5] rfl (by decide) (fun u => Nat.le_of_ble_eq_true rfl) (ws' := fun u => millW cI a (pA m 4 u)) (fun u => rfl) (fun u hu => ?_)
      obtain ⟨f_11, rfl⟩ : ∃ z, z = u := ⟨_, rfl⟩
      have h12 : f_11 = putv (m 4) 8 v (if 60 < ((atv (m 4) 8 v) + (2 * (atv (m 6) 8 v))) then 60 else ((atv (m 4) 8 v) + (2 * (atv (m 6) 8 v)))) := hu
      have h13 : f_11 = (putv (m 4) 8 v (if 60 < ((atv (m 4) 8 v) + (2 * (atv (m 6) 8 v))) then 60 else ((atv (m 4) 8 v) + (2 * (atv (m 6) 8 v))))) := h12
      subst h13
      show Go E Q 3 0 0 65 [(2, .int 2), (0, .ref (a 0)), (1, .int v)] [] (millW cI a (pA m 4 (putv (m 4) 8 v (if 60 < ((atv (m 4) 8 v) + (2 * (atv (m 6) 8 v))) then 60 else ((atv (m 4) 8 v) + (2 * (atv (m 6) 8 v)))))))
      refine g_world (millW cI a (widS m v)) (congrArg (millW cI a) (show (pA m 4 (putv (m 4) 8 v (if 60 < ((atv (m 4) 8 v) + (2 * (atv (m 6) 8 v))) then 60 else ((atv (m 4) 8 v) + (2 * (atv (m 6) 8 v)))))) = widS m v from by unfold widS; first | rw [tm1 (k := atv (m 3) 8 v) (by assumption)] | rw [tm0 (k := atv (m 3) 8 v) (by assumption)] | rw [tm2 (k := atv (m 3) 8 v) (by assumption) (by assumption)])) ?_
      exact g_vret hE hQ dX0_widen_65 () rfl rfl trivial
    · refine g_iconst hE dX0_widen_27 1 (by decide) ?_
      refine g_goto hE 32 dX0_widen_28 (by decide) ?_
      refine g_istore_n hE dX0_widen_32 [(2, .int 1), (0, .ref (a 0)), (1, .int v)] rfl (by decide) rfl ?_
      refine g_aload_n hE dX0_widen_33 1 rfl ?_
      refine g_get hE fl_X0_24 dX0_widen_34 0 rfl rfl ?_
      refine g_iload_n hE dX0_widen_37 2 rfl ?_
      refine g_aload_n hE dX0_widen_38 1 rfl ?_
      refine g_get hE fl_X0_24 dX0_widen_39 0 rfl rfl ?_
      refine g_iload_n hE dX0_widen_42 2 rfl ?_
      refine g_callSN hE (c_X4_at cI cS (a 5) 8 (m 4) v (by decide)) mk_X4_at st_X4_at nl_X0_49 dX0_widen_43 (As := [.ref (a 5), .int v]) (rest := [.int v, .ref (a 5)]) rfl rfl (by decide) (by decide) (Nat.le_of_ble_eq_true rfl) (by decide) (by decide) [5] rfl (by decide) (fun u => Nat.le_of_ble_eq_true rfl) (ws' := fun u => millW cI a m) (fun u => rfl) (fun u hu => ?_)
      obtain ⟨r_14, rfl⟩ : ∃ z, z = u := ⟨_, rfl⟩
      have h15 : r_14 = (atv (m 4) 8 v) := hu
      subst h15
      show Go E Q 3 0 0 46 [(2, .int 1), (0, .ref (a 0)), (1, .int v)] [.int (atv (m 4) 8 v), .int v, .ref (a 5)] (millW cI a m)
      refine g_iload_n hE dX0_widen_46 0 rfl ?_
      refine g_aload_n hE dX0_widen_47 1 rfl ?_
      refine g_get hE fl_X0_30 dX0_widen_48 0 rfl rfl ?_
      refine g_iload_n hE dX0_widen_51 2 rfl ?_
      refine g_callSN hE (c_X4_at cI cS (a 7) 8 (m 6) v (by decide)) mk_X4_at st_X4_at nl_X0_49 dX0_widen_52 (As := [.ref (a 7), .int v]) (rest := [.int 1, .int (atv (m 4) 8 v), .int v, .ref (a 5)]) rfl rfl (by decide) (by decide) (Nat.le_of_ble_eq_true rfl) (by decide) (by decide) [7] rfl (by decide) (fun u => Nat.le_of_ble_eq_true rfl) (ws' := fun u => millW cI a m) (fun u => rfl) (fun u hu => ?_)
      obtain ⟨r_16, rfl⟩ : ∃ z, z = u := ⟨_, rfl⟩
      have h17 : r_16 = (atv (m 6) 8 v) := hu
      subst h17
      show Go E Q 3 0 0 55 [(2, .int 1), (0, .ref (a 0)), (1, .int v)] [.int (atv (m 6) 8 v), .int 1, .int (atv (m 4) 8 v), .int v, .ref (a 5)] (millW cI a m)
      refine g_imul hE dX0_widen_55 ?_
      refine g_iadd hE dX0_widen_56 ?_
      refine g_bipush hE dX0_widen_57 60 (by decide) ?_
      refine g_min hE (by decide) (by decide) (by decide) ml_X0_74 mi_st mi_in mi_co dX0_widen_59 (Nat.le_of_ble_eq_true rfl) ?_
      refine g_callSN hE (c_X4_put cI cS (a 5) 8 (m 4) v (if 60 < ((atv (m 4) 8 v) + (1 * (atv (m 6) 8 v))) then 60 else ((atv (m 4) 8 v) + (1 * (atv (m 6) 8 v)))) (by decide)) mk_X4_put st_X4_put nl_X0_53 dX0_widen_62 (As := [.ref (a 5), .int v, .int (if 60 < ((atv (m 4) 8 v) + (1 * (atv (m 6) 8 v))) then 60 else ((atv (m 4) 8 v) + (1 * (atv (m 6) 8 v))))]) (rest := []) rfl rfl (by decide) (by decide) (Nat.le_of_ble_eq_true rfl) (by decide) (by decide) [5] rfl (by decide) (fun u => Nat.le_of_ble_eq_true rfl) (ws' := fun u => millW cI a (pA m 4 u)) (fun u => rfl) (fun u hu => ?_)
      obtain ⟨f_18, rfl⟩ : ∃ z, z = u := ⟨_, rfl⟩
      have h19 : f_18 = putv (m 4) 8 v (if 60 < ((atv (m 4) 8 v) + (1 * (atv (m 6) 8 v))) then 60 else ((atv (m 4) 8 v) + (1 * (atv (m 6) 8 v)))) := hu
      have h20 : f_18 = (putv (m 4) 8 v (if 60 < ((atv (m 4) 8 v) + (1 * (atv (m 6) 8 v))) then 60 else ((atv (m 4) 8 v) + (1 * (atv (m 6) 8 v))))) := h19
      subst h20
      show Go E Q 3 0 0 65 [(2, .int 1), (0, .ref (a 0)), (1, .int v)] [] (millW cI a (pA m 4 (putv (m 4) 8 v (if 60 < ((atv (m 4) 8 v) + (1 * (atv (m 6) 8 v))) then 60 else ((atv (m 4) 8 v) + (1 * (atv (m 6) 8 v)))))))
      refine g_world (millW cI a (widS m v)) (congrArg (millW cI a) (show (pA m 4 (putv (m 4) 8 v (if 60 < ((atv (m 4) 8 v) + (1 * (atv (m 6) 8 v))) then 60 else ((atv (m 4) 8 v) + (1 * (atv (m 6) 8 v)))))) = widS m v from by unfold widS; first | rw [tm1 (k := atv (m 3) 8 v) (by assumption)] | rw [tm0 (k := atv (m 3) 8 v) (by assumption)] | rw [tm2 (k := atv (m 3) 8 v) (by assumption) (by assumption)])) ?_
      exact g_vret hE hQ dX0_widen_65 () rfl rfl trivial
  · refine g_iconst hE dX0_widen_12 0 (by decide) ?_
    refine g_goto hE 32 dX0_widen_13 (by decide) ?_
    refine g_istore_n hE dX0_widen_32 [(2, .int 0), (0, .ref (a 0)), (1, .int v)] rfl (by decide) rfl ?_
    refine g_aload_n hE dX0_widen_33 1 rfl ?_
    refine g_get hE fl_X0_24 dX0_widen_34 0 rfl rfl ?_
    refine g_iload_n hE dX0_widen_37 2 rfl ?_
    refine g_aload_n hE dX0_widen_38 1 rfl ?_
    refine g_get hE fl_X0_24 dX0_widen_39 0 rfl rfl ?_
    refine g_iload_n hE dX0_widen_42 2 rfl ?_
    refine g_callSN hE (c_X4_at cI cS (a 5) 8 (m 4) v (by decide)) mk_X4_at st_X4_at nl_X0_49 dX0_widen_43 (As := [.ref (a 5), .int v]) (rest := [.int v, .ref (a 5)]) rfl rfl (by decide) (by decide) (Nat.le_of_ble_eq_true rfl) (by decide) (by decide) [5] rfl (by decide) (fun u => Nat.le_of_ble_eq_true rfl) (ws' := fun u => millW cI a m) (fun u => rfl) (fun u hu => ?_)
    obtain ⟨r_21, rfl⟩ : ∃ z, z = u := ⟨_, rfl⟩
    have h22 : r_21 = (atv (m 4) 8 v) := hu
    subst h22
    show Go E Q 3 0 0 46 [(2, .int 0), (0, .ref (a 0)), (1, .int v)] [.int (atv (m 4) 8 v), .int v, .ref (a 5)] (millW cI a m)
    refine g_iload_n hE dX0_widen_46 0 rfl ?_
    refine g_aload_n hE dX0_widen_47 1 rfl ?_
    refine g_get hE fl_X0_30 dX0_widen_48 0 rfl rfl ?_
    refine g_iload_n hE dX0_widen_51 2 rfl ?_
    refine g_callSN hE (c_X4_at cI cS (a 7) 8 (m 6) v (by decide)) mk_X4_at st_X4_at nl_X0_49 dX0_widen_52 (As := [.ref (a 7), .int v]) (rest := [.int 0, .int (atv (m 4) 8 v), .int v, .ref (a 5)]) rfl rfl (by decide) (by decide) (Nat.le_of_ble_eq_true rfl) (by decide) (by decide) [7] rfl (by decide) (fun u => Nat.le_of_ble_eq_true rfl) (ws' := fun u => millW cI a m) (fun u => rfl) (fun u hu => ?_)
    obtain ⟨r_23, rfl⟩ : ∃ z, z = u := ⟨_, rfl⟩
    have h24 : r_23 = (atv (m 6) 8 v) := hu
    subst h24
    show Go E Q 3 0 0 55 [(2, .int 0), (0, .ref (a 0)), (1, .int v)] [.int (atv (m 6) 8 v), .int 0, .int (atv (m 4) 8 v), .int v, .ref (a 5)] (millW cI a m)
    refine g_imul hE dX0_widen_55 ?_
    refine g_iadd hE dX0_widen_56 ?_
    refine g_bipush hE dX0_widen_57 60 (by decide) ?_
    refine g_min hE (by decide) (by decide) (by decide) ml_X0_74 mi_st mi_in mi_co dX0_widen_59 (Nat.le_of_ble_eq_true rfl) ?_
    refine g_callSN hE (c_X4_put cI cS (a 5) 8 (m 4) v (if 60 < ((atv (m 4) 8 v) + (0 * (atv (m 6) 8 v))) then 60 else ((atv (m 4) 8 v) + (0 * (atv (m 6) 8 v)))) (by decide)) mk_X4_put st_X4_put nl_X0_53 dX0_widen_62 (As := [.ref (a 5), .int v, .int (if 60 < ((atv (m 4) 8 v) + (0 * (atv (m 6) 8 v))) then 60 else ((atv (m 4) 8 v) + (0 * (atv (m 6) 8 v))))]) (rest := []) rfl rfl (by decide) (by decide) (Nat.le_of_ble_eq_true rfl) (by decide) (by decide) [5] rfl (by decide) (fun u => Nat.le_of_ble_eq_true rfl) (ws' := fun u => millW cI a (pA m 4 u)) (fun u => rfl) (fun u hu => ?_)
    obtain ⟨f_25, rfl⟩ : ∃ z, z = u := ⟨_, rfl⟩
    have h26 : f_25 = putv (m 4) 8 v (if 60 < ((atv (m 4) 8 v) + (0 * (atv (m 6) 8 v))) then 60 else ((atv (m 4) 8 v) + (0 * (atv (m 6) 8 v)))) := hu
    have h27 : f_25 = (putv (m 4) 8 v (if 60 < ((atv (m 4) 8 v) + (0 * (atv (m 6) 8 v))) then 60 else ((atv (m 4) 8 v) + (0 * (atv (m 6) 8 v))))) := h26
    subst h27
    show Go E Q 3 0 0 65 [(2, .int 0), (0, .ref (a 0)), (1, .int v)] [] (millW cI a (pA m 4 (putv (m 4) 8 v (if 60 < ((atv (m 4) 8 v) + (0 * (atv (m 6) 8 v))) then 60 else ((atv (m 4) 8 v) + (0 * (atv (m 6) 8 v)))))))
    refine g_world (millW cI a (widS m v)) (congrArg (millW cI a) (show (pA m 4 (putv (m 4) 8 v (if 60 < ((atv (m 4) 8 v) + (0 * (atv (m 6) 8 v))) then 60 else ((atv (m 4) 8 v) + (0 * (atv (m 6) 8 v)))))) = widS m v from by unfold widS; first | rw [tm1 (k := atv (m 3) 8 v) (by assumption)] | rw [tm0 (k := atv (m 3) 8 v) (by assumption)] | rw [tm2 (k := atv (m 3) 8 v) (by assumption) (by assumption)])) ?_
    exact g_vret hE hQ dX0_widen_65 () rfl rfl trivial
