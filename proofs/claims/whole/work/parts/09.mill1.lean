/-! the mill: reads -/
set_option maxHeartbeats 4000000 in
set_option maxRecDepth 100000 in
theorem c_X0_hasGrain (cI cS : ClassId) (a : Nat → Nat) (m : Nat → Nat → Int32) {n sv pl : Nat} (hM : MW m n sv pl) (g : Int32) : CT cI cS yX0_hasGrain cX0_hasGrain 2 (some .boolean) 0 [.ref (a 0), .int g] (millW cI a m) 0 0 (fun u : Int32 => u = if 0 ≤ g ∧ g < m 9 0 then 1 else 0) (fun u => some (.int u)) (fun u => (millW cI a m)) := by
  refine ct_intro (by decide) (Nat.le_of_ble_eq_true rfl) (fun E Q hE hQ hI => ?_)
  have hE : CxOk E cI cS RX0 cX0_hasGrain 2 (some .boolean) 0 0 0 := hE
  show Go E Q 2 0 0 0 [(0, .ref (a 0)), (1, .int g)] [] (millW cI a m)
  have hn := hM.1
  have hn6 := hM.2.1
  have hsv := hM.2.2.1
  have hsv8 := hM.2.2.2.1
  have hpl := hM.2.2.2.2.1
  have hpl6 := hM.2.2.2.2.2
  refine g_iload_n hE dX0_hasGrain_0 1 rfl ?_
  refine g_if_lt hE 16 dX0_hasGrain_1 (by decide) (fun c1 => ?_) (fun c1 => ?_)
  · refine g_iconst hE dX0_hasGrain_16 0 (by decide) ?_
    exact g_iret hE hQ dX0_hasGrain_17 (by first | rfl | decide) 0 rfl rfl (if_neg (fun q => by obtain ⟨q1, q2⟩ := q; first | exact absurd q1 (by assumption) | exact absurd q2 (by assumption) | exact absurd q1 (Int32.not_lt.mpr (by assumption)) | exact absurd q2 (Int32.not_lt.mpr (by assumption)) | exact absurd q1 (Int32.not_le.mpr (by assumption)) | exact absurd q2 (Int32.not_le.mpr (by assumption)))).symm
  · refine g_iload_n hE dX0_hasGrain_4 1 rfl ?_
    refine g_aload_n hE dX0_hasGrain_5 0 rfl ?_
    refine g_get hE fl_X0_39 dX0_hasGrain_6 0 rfl rfl ?_
    refine g_icmp_ge hE 16 dX0_hasGrain_9 (by decide) (fun c2 => ?_) (fun c2 => ?_)
    · refine g_iconst hE dX0_hasGrain_16 0 (by decide) ?_
      exact g_iret hE hQ dX0_hasGrain_17 (by first | rfl | decide) 0 rfl rfl (if_neg (fun q => by obtain ⟨q1, q2⟩ := q; first | exact absurd q1 (by assumption) | exact absurd q2 (by assumption) | exact absurd q1 (Int32.not_lt.mpr (by assumption)) | exact absurd q2 (Int32.not_lt.mpr (by assumption)) | exact absurd q1 (Int32.not_le.mpr (by assumption)) | exact absurd q2 (Int32.not_le.mpr (by assumption)))).symm
    · refine g_iconst hE dX0_hasGrain_12 1 (by decide) ?_
      refine g_goto hE 17 dX0_hasGrain_13 (by decide) ?_
      exact g_iret hE hQ dX0_hasGrain_17 (by first | rfl | decide) 1 rfl rfl (if_pos (by (repeat' apply And.intro) <;> first | assumption | exact Int32.not_lt.mp (by assumption) | exact Int32.not_le.mp (by assumption))).symm
set_option maxHeartbeats 4000000 in
set_option maxRecDepth 100000 in
theorem c_X0_hasSieve (cI cS : ClassId) (a : Nat → Nat) (m : Nat → Nat → Int32) {n sv pl : Nat} (hM : MW m n sv pl) (g : Int32) : CT cI cS yX0_hasSieve cX0_hasSieve 2 (some .boolean) 0 [.ref (a 0), .int g] (millW cI a m) 0 0 (fun u : Int32 => u = if 0 ≤ g ∧ g < m 9 1 then 1 else 0) (fun u => some (.int u)) (fun u => (millW cI a m)) := by
  refine ct_intro (by decide) (Nat.le_of_ble_eq_true rfl) (fun E Q hE hQ hI => ?_)
  have hE : CxOk E cI cS RX0 cX0_hasSieve 2 (some .boolean) 0 0 0 := hE
  show Go E Q 2 0 0 0 [(0, .ref (a 0)), (1, .int g)] [] (millW cI a m)
  have hn := hM.1
  have hn6 := hM.2.1
  have hsv := hM.2.2.1
  have hsv8 := hM.2.2.2.1
  have hpl := hM.2.2.2.2.1
  have hpl6 := hM.2.2.2.2.2
  refine g_iload_n hE dX0_hasSieve_0 1 rfl ?_
  refine g_if_lt hE 16 dX0_hasSieve_1 (by decide) (fun c1 => ?_) (fun c1 => ?_)
  · refine g_iconst hE dX0_hasSieve_16 0 (by decide) ?_
    exact g_iret hE hQ dX0_hasSieve_17 (by first | rfl | decide) 0 rfl rfl (if_neg (fun q => by obtain ⟨q1, q2⟩ := q; first | exact absurd q1 (by assumption) | exact absurd q2 (by assumption) | exact absurd q1 (Int32.not_lt.mpr (by assumption)) | exact absurd q2 (Int32.not_lt.mpr (by assumption)) | exact absurd q1 (Int32.not_le.mpr (by assumption)) | exact absurd q2 (Int32.not_le.mpr (by assumption)))).symm
  · refine g_iload_n hE dX0_hasSieve_4 1 rfl ?_
    refine g_aload_n hE dX0_hasSieve_5 0 rfl ?_
    refine g_get hE fl_X0_43 dX0_hasSieve_6 0 rfl rfl ?_
    refine g_icmp_ge hE 16 dX0_hasSieve_9 (by decide) (fun c2 => ?_) (fun c2 => ?_)
    · refine g_iconst hE dX0_hasSieve_16 0 (by decide) ?_
      exact g_iret hE hQ dX0_hasSieve_17 (by first | rfl | decide) 0 rfl rfl (if_neg (fun q => by obtain ⟨q1, q2⟩ := q; first | exact absurd q1 (by assumption) | exact absurd q2 (by assumption) | exact absurd q1 (Int32.not_lt.mpr (by assumption)) | exact absurd q2 (Int32.not_lt.mpr (by assumption)) | exact absurd q1 (Int32.not_le.mpr (by assumption)) | exact absurd q2 (Int32.not_le.mpr (by assumption)))).symm
    · refine g_iconst hE dX0_hasSieve_12 1 (by decide) ?_
      refine g_goto hE 17 dX0_hasSieve_13 (by decide) ?_
      exact g_iret hE hQ dX0_hasSieve_17 (by first | rfl | decide) 1 rfl rfl (if_pos (by (repeat' apply And.intro) <;> first | assumption | exact Int32.not_lt.mp (by assumption) | exact Int32.not_le.mp (by assumption))).symm
set_option maxHeartbeats 4000000 in
set_option maxRecDepth 100000 in
theorem c_X0_hasHeap (cI cS : ClassId) (a : Nat → Nat) (m : Nat → Nat → Int32) {n sv pl : Nat} (hM : MW m n sv pl) (g : Int32) : CT cI cS yX0_hasHeap cX0_hasHeap 2 (some .boolean) 0 [.ref (a 0), .int g] (millW cI a m) 0 0 (fun u : Int32 => u = if 0 ≤ g ∧ g ≤ m 9 2 then 1 else 0) (fun u => some (.int u)) (fun u => (millW cI a m)) := by
  refine ct_intro (by decide) (Nat.le_of_ble_eq_true rfl) (fun E Q hE hQ hI => ?_)
  have hE : CxOk E cI cS RX0 cX0_hasHeap 2 (some .boolean) 0 0 0 := hE
  show Go E Q 2 0 0 0 [(0, .ref (a 0)), (1, .int g)] [] (millW cI a m)
  have hn := hM.1
  have hn6 := hM.2.1
  have hsv := hM.2.2.1
  have hsv8 := hM.2.2.2.1
  have hpl := hM.2.2.2.2.1
  have hpl6 := hM.2.2.2.2.2
  refine g_iload_n hE dX0_hasHeap_0 1 rfl ?_
  refine g_if_lt hE 16 dX0_hasHeap_1 (by decide) (fun c1 => ?_) (fun c1 => ?_)
  · refine g_iconst hE dX0_hasHeap_16 0 (by decide) ?_
    exact g_iret hE hQ dX0_hasHeap_17 (by first | rfl | decide) 0 rfl rfl (if_neg (fun q => by obtain ⟨q1, q2⟩ := q; first | exact absurd q1 (by assumption) | exact absurd q2 (by assumption) | exact absurd q1 (Int32.not_lt.mpr (by assumption)) | exact absurd q2 (Int32.not_lt.mpr (by assumption)) | exact absurd q1 (Int32.not_le.mpr (by assumption)) | exact absurd q2 (Int32.not_le.mpr (by assumption)))).symm
  · refine g_iload_n hE dX0_hasHeap_4 1 rfl ?_
    refine g_aload_n hE dX0_hasHeap_5 0 rfl ?_
    refine g_get hE fl_X0_46 dX0_hasHeap_6 0 rfl rfl ?_
    refine g_icmp_gt hE 16 dX0_hasHeap_9 (by decide) (fun c2 => ?_) (fun c2 => ?_)
    · refine g_iconst hE dX0_hasHeap_16 0 (by decide) ?_
      exact g_iret hE hQ dX0_hasHeap_17 (by first | rfl | decide) 0 rfl rfl (if_neg (fun q => by obtain ⟨q1, q2⟩ := q; first | exact absurd q1 (by assumption) | exact absurd q2 (by assumption) | exact absurd q1 (Int32.not_lt.mpr (by assumption)) | exact absurd q2 (Int32.not_lt.mpr (by assumption)) | exact absurd q1 (Int32.not_le.mpr (by assumption)) | exact absurd q2 (Int32.not_le.mpr (by assumption)))).symm
    · refine g_iconst hE dX0_hasHeap_12 1 (by decide) ?_
      refine g_goto hE 17 dX0_hasHeap_13 (by decide) ?_
      exact g_iret hE hQ dX0_hasHeap_17 (by first | rfl | decide) 1 rfl rfl (if_pos (by (repeat' apply And.intro) <;> first | assumption | exact Int32.not_lt.mp (by assumption) | exact Int32.not_le.mp (by assumption))).symm
set_option maxHeartbeats 4000000 in
set_option maxRecDepth 100000 in
theorem c_X0_load (cI cS : ClassId) (a : Nat → Nat) (m : Nat → Nat → Int32) {n sv pl : Nat} (hM : MW m n sv pl) : CT cI cS yX0_load cX0_load 3 (some .int) 1 [.ref (a 0)] (millW cI a m) 0 0 (fun u : Int32 => u = nI (ldS m n)) (fun u => some (.int u)) (fun u => (millW cI a m)) := by
  refine ct_intro (by decide) (Nat.le_of_ble_eq_true rfl) (fun E Q hE hQ hI => ?_)
  have hE : CxOk E cI cS RX0 cX0_load 3 (some .int) 1 0 0 := hE
  show Go E Q 3 0 0 0 [(0, .ref (a 0))] [] (millW cI a m)
  have hn := hM.1
  have hn6 := hM.2.1
  have hsv := hM.2.2.1
  have hsv8 := hM.2.2.2.1
  have hpl := hM.2.2.2.2.1
  have hpl6 := hM.2.2.2.2.2
  refine g_iconst hE dX0_load_0 0 (by decide) ?_
  refine g_istore_n hE dX0_load_1 [(1, .int 0), (0, .ref (a 0))] rfl (by decide) rfl ?_
  refine g_iconst hE dX0_load_2 0 (by decide) ?_
  refine g_istore_n hE dX0_load_3 [(2, .int 0), (1, .int 0), (0, .ref (a 0))] rfl (by decide) rfl ?_
  have L4 : ∀ (n_4 : Nat) (g : Nat) (z : Int32), (g ≤ n) → (z = nI (ldS m g)) → (n - g < n_4) → Go E Q 3 0 0 4 [(0, .ref (a 0)), (1, .int z), (2, .int (nI g))] [] (millW cI a m) := by
    intro n_4
    induction n_4 with
    | zero => intro g z hg hz hm_4; exact absurd hm_4 (Nat.not_lt_zero _)
    | succ n_4 ih_4 =>
      intro g z hg hz hm_4
      refine g_iload_n hE dX0_load_4 2 rfl ?_
      refine g_aload_n hE dX0_load_5 0 rfl ?_
      refine g_get hE fl_X0_39 dX0_load_6 0 rfl rfl ?_
      refine g_icmp_ge hE 35 dX0_load_9 (by decide) (fun c1 => ?_) (fun c1 => ?_)
      · have kc1 := nat_le_t (show (m 9 0) = nI n from hn) (show (nI g) = nI g from rfl) (by omega) (by omega) c1
        refine g_iload_n hE dX0_load_35 1 rfl ?_
        exact g_iret hE hQ dX0_load_36 rfl z rfl rfl (by rw [hz, show n = g by omega])
      · have kc1 := nat_le_f (show (m 9 0) = nI n from hn) (show (nI g) = nI g from rfl) (by omega) (by omega) c1
        refine g_aload_n hE dX0_load_12 0 rfl ?_
        refine g_get hE fl_X0_15 dX0_load_13 0 rfl rfl ?_
        refine g_iload_n hE dX0_load_16 2 rfl ?_
        refine g_callSN hE (c_X4_at cI cS (a 2) 6 (m 1) (nI g) (by decide)) mk_X4_at st_X4_at nl_X0_49 dX0_load_17 (As := [.ref (a 2), .int (nI g)]) (rest := []) rfl rfl (by decide) (by decide) (Nat.le_of_ble_eq_true rfl) (by decide) (by decide) [2] rfl (by decide) (fun u => Nat.le_of_ble_eq_true rfl) (ws' := fun u => millW cI a m) (fun u => rfl) (fun u hu => ?_)
        obtain ⟨r_2, rfl⟩ : ∃ z, z = u := ⟨_, rfl⟩
        have h3 : r_2 = ((m 1) g) := hu.trans (by rw [show (nI g) = nI g from rfl]; exact atv_n (by omega) (by decide))
        subst h3
        show Go E Q 3 0 0 20 [(0, .ref (a 0)), (1, .int z), (2, .int (nI g))] [.int ((m 1) g)] (millW cI a m)
        refine g_if_le hE 29 dX0_load_20 (by decide) (fun c4 => ?_) (fun c4 => ?_)
        · refine g_iinc hE dX0_load_29 2 (nI (g + 1)) [(2, .int (nI (g + 1))), (0, .ref (a 0)), (1, .int z)] rfl (nI_1 _) (by decide) rfl ?_
          refine g_goto hE 4 dX0_load_32 (by decide) ?_
          refine g_locals [1, 2, 0] [(0, .ref (a 0)), (1, .int z), (2, .int (nI (g + 1)))] rfl ?_
          exact ih_4 (g + 1) z (by first | assumption | omega) (by first | exact ldS_y hz (by omega) (Int32.not_le.mp (by assumption)) | exact ldS_n hz (Int32.not_lt.mpr (by assumption))) (by omega)
        · refine g_iload_n hE dX0_load_23 1 rfl ?_
          refine g_iconst hE dX0_load_24 1 (by decide) ?_
          refine g_iload_n hE dX0_load_25 2 rfl ?_
          refine g_ishl hE dX0_load_26 ?_
          refine g_ior hE dX0_load_27 ?_
          refine g_istore_n hE dX0_load_28 [(1, .int (z ||| (1 <<< ((nI g) &&& 31)))), (0, .ref (a 0)), (2, .int (nI g))] rfl (by decide) rfl ?_
          refine g_iinc hE dX0_load_29 2 (nI (g + 1)) [(2, .int (nI (g + 1))), (1, .int (z ||| (1 <<< ((nI g) &&& 31)))), (0, .ref (a 0))] rfl (nI_1 _) (by decide) rfl ?_
          refine g_goto hE 4 dX0_load_32 (by decide) ?_
          refine g_locals [2, 1, 0] [(0, .ref (a 0)), (1, .int (z ||| (1 <<< ((nI g) &&& 31)))), (2, .int (nI (g + 1)))] rfl ?_
          exact ih_4 (g + 1) (z ||| (1 <<< ((nI g) &&& 31))) (by first | assumption | omega) (by first | exact ldS_y hz (by omega) (Int32.not_le.mp (by assumption)) | exact ldS_n hz (Int32.not_lt.mpr (by assumption))) (by omega)
  refine g_locals [2, 1, 0] [(0, .ref (a 0)), (1, .int 0), (2, .int 0)] rfl ?_
  exact L4 _ 0 0 (Nat.zero_le _) rfl (Nat.lt_succ_self _)
set_option maxHeartbeats 4000000 in
set_option maxRecDepth 100000 in
theorem c_X0_amountOf (cI cS : ClassId) (a : Nat → Nat) (m : Nat → Nat → Int32) {n sv pl : Nat} (hM : MW m n sv pl) (z : Int32) (s : Nat) (hz : z = nI s) (hs : s < 64) : CT cI cS yX0_amountOf cX0_amountOf 4 (some .int) 1 [.ref (a 0), .int z] (millW cI a m) 0 0 (fun u : Int32 => u = aS (m 1) s n) (fun u => some (.int u)) (fun u => (millW cI a m)) := by
  refine ct_intro (by decide) (Nat.le_of_ble_eq_true rfl) (fun E Q hE hQ hI => ?_)
  have hE : CxOk E cI cS RX0 cX0_amountOf 4 (some .int) 1 0 0 := hE
  show Go E Q 4 0 0 0 [(0, .ref (a 0)), (1, .int z)] [] (millW cI a m)
  have hn := hM.1
  have hn6 := hM.2.1
  have hsv := hM.2.2.1
  have hsv8 := hM.2.2.2.1
  have hpl := hM.2.2.2.2.1
  have hpl6 := hM.2.2.2.2.2
  refine g_iconst hE dX0_amountOf_0 0 (by decide) ?_
  refine g_istore_n hE dX0_amountOf_1 [(2, .int 0), (0, .ref (a 0)), (1, .int z)] rfl (by decide) rfl ?_
  refine g_iconst hE dX0_amountOf_2 0 (by decide) ?_
  refine g_istore_n hE dX0_amountOf_3 [(3, .int 0), (2, .int 0), (0, .ref (a 0)), (1, .int z)] rfl (by decide) rfl ?_
  have L4 : ∀ (n_4 : Nat) (g : Nat) (y : Int32), (g ≤ n) → (y = aS (m 1) s g) → (n - g < n_4) → Go E Q 4 0 0 4 [(0, .ref (a 0)), (1, .int z), (2, .int y), (3, .int (nI g))] [] (millW cI a m) := by
    intro n_4
    induction n_4 with
    | zero => intro g y hg hy hm_4; exact absurd hm_4 (Nat.not_lt_zero _)
    | succ n_4 ih_4 =>
      intro g y hg hy hm_4
      refine g_iload_n hE dX0_amountOf_4 3 rfl ?_
      refine g_aload_n hE dX0_amountOf_5 0 rfl ?_
      refine g_get hE fl_X0_39 dX0_amountOf_6 0 rfl rfl ?_
      refine g_icmp_ge hE 37 dX0_amountOf_9 (by decide) (fun c1 => ?_) (fun c1 => ?_)
      · have kc1 := nat_le_t (show (m 9 0) = nI n from hn) (show (nI g) = nI g from rfl) (by omega) (by omega) c1
        refine g_iload_n hE dX0_amountOf_37 2 rfl ?_
        exact g_iret hE hQ dX0_amountOf_38 rfl y rfl rfl (by rw [hy, show n = g by omega])
      · have kc1 := nat_le_f (show (m 9 0) = nI n from hn) (show (nI g) = nI g from rfl) (by omega) (by omega) c1
        refine g_iload_n hE dX0_amountOf_12 1 rfl ?_
        refine g_iload_n hE dX0_amountOf_13 3 rfl ?_
        refine g_ishr hE dX0_amountOf_14 ?_
        refine g_iconst hE dX0_amountOf_15 1 (by decide) ?_
        refine g_iand hE dX0_amountOf_16 ?_
        refine g_if_eq hE 31 dX0_amountOf_17 (by decide) (fun c2 => ?_) (fun c2 => ?_)
        · refine g_iinc hE dX0_amountOf_31 3 (nI (g + 1)) [(3, .int (nI (g + 1))), (0, .ref (a 0)), (1, .int z), (2, .int y)] rfl (nI_1 _) (by decide) rfl ?_
          refine g_goto hE 4 dX0_amountOf_34 (by decide) ?_
          refine g_locals [1, 2, 3, 0] [(0, .ref (a 0)), (1, .int z), (2, .int y), (3, .int (nI (g + 1)))] rfl ?_
          exact ih_4 (g + 1) y (by first | assumption | omega) (by first | exact aS_y hy (bit_t hz hs (by omega) (by assumption)) | exact aS_n hy (bit_f hz hs (by omega) (by assumption))) (by omega)
        · refine g_iload_n hE dX0_amountOf_20 2 rfl ?_
          refine g_aload_n hE dX0_amountOf_21 0 rfl ?_
          refine g_get hE fl_X0_15 dX0_amountOf_22 0 rfl rfl ?_
          refine g_iload_n hE dX0_amountOf_25 3 rfl ?_
          refine g_callSN hE (c_X4_at cI cS (a 2) 6 (m 1) (nI g) (by decide)) mk_X4_at st_X4_at nl_X0_49 dX0_amountOf_26 (As := [.ref (a 2), .int (nI g)]) (rest := [.int y]) rfl rfl (by decide) (by decide) (Nat.le_of_ble_eq_true rfl) (by decide) (by decide) [2] rfl (by decide) (fun u => Nat.le_of_ble_eq_true rfl) (ws' := fun u => millW cI a m) (fun u => rfl) (fun u hu => ?_)
          obtain ⟨r_3, rfl⟩ : ∃ z, z = u := ⟨_, rfl⟩
          have h4 : r_3 = ((m 1) g) := hu.trans (by rw [show (nI g) = nI g from rfl]; exact atv_n (by omega) (by decide))
          subst h4
          show Go E Q 4 0 0 29 [(0, .ref (a 0)), (1, .int z), (2, .int y), (3, .int (nI g))] [.int ((m 1) g), .int y] (millW cI a m)
          refine g_iadd hE dX0_amountOf_29 ?_
          refine g_istore_n hE dX0_amountOf_30 [(2, .int (y + ((m 1) g))), (0, .ref (a 0)), (1, .int z), (3, .int (nI g))] rfl (by decide) rfl ?_
          refine g_iinc hE dX0_amountOf_31 3 (nI (g + 1)) [(3, .int (nI (g + 1))), (2, .int (y + ((m 1) g))), (0, .ref (a 0)), (1, .int z)] rfl (nI_1 _) (by decide) rfl ?_
          refine g_goto hE 4 dX0_amountOf_34 (by decide) ?_
          refine g_locals [2, 3, 1, 0] [(0, .ref (a 0)), (1, .int z), (2, .int (y + ((m 1) g))), (3, .int (nI (g + 1)))] rfl ?_
          exact ih_4 (g + 1) (y + ((m 1) g)) (by first | assumption | omega) (by first | exact aS_y hy (bit_t hz hs (by omega) (by assumption)) | exact aS_n hy (bit_f hz hs (by omega) (by assumption))) (by omega)
  refine g_locals [2, 3, 1, 0] [(0, .ref (a 0)), (1, .int z), (2, .int 0), (3, .int 0)] rfl ?_
  exact L4 _ 0 0 (Nat.zero_le _) rfl (Nat.lt_succ_self _)
set_option maxHeartbeats 4000000 in
set_option maxRecDepth 100000 in
theorem c_X0_worth (cI cS : ClassId) (a : Nat → Nat) (m : Nat → Nat → Int32) {n sv pl : Nat} (hM : MW m n sv pl) (z : Int32) (s : Nat) (hz : z = nI s) (hs : s < 64) : CT cI cS yX0_worth cX0_worth 4 (some .int) 2 [.ref (a 0), .int z] (millW cI a m) 0 0 (fun u : Int32 => u = wS m n s) (fun u => some (.int u)) (fun u => (millW cI a m)) := by
  refine ct_intro (by decide) (Nat.le_of_ble_eq_true rfl) (fun E Q hE hQ hI => ?_)
  have hE : CxOk E cI cS RX0 cX0_worth 4 (some .int) 2 0 0 := hE
  show Go E Q 4 0 0 0 [(0, .ref (a 0)), (1, .int z)] [] (millW cI a m)
  have hn := hM.1
  have hn6 := hM.2.1
  have hsv := hM.2.2.1
  have hsv8 := hM.2.2.2.1
  have hpl := hM.2.2.2.2.1
  have hpl6 := hM.2.2.2.2.2
  refine g_bipush hE dX0_worth_0 99 (by decide) ?_
  refine g_istore_n hE dX0_worth_2 [(2, .int 99), (0, .ref (a 0)), (1, .int z)] rfl (by decide) rfl ?_
  refine g_iconst hE dX0_worth_3 0 (by decide) ?_
  refine g_istore_n hE dX0_worth_4 [(3, .int 0), (2, .int 99), (0, .ref (a 0)), (1, .int z)] rfl (by decide) rfl ?_
  have L5 : ∀ (n_5 : Nat) (g : Nat) (y : Int32), (g ≤ n) → (y = lS (m 2) s g) → (n - g < n_5) → Go E Q 4 0 0 5 [(0, .ref (a 0)), (1, .int z), (2, .int y), (3, .int (nI g))] [] (millW cI a m) := by
    intro n_5
    induction n_5 with
    | zero => intro g y hg hy hm_5; exact absurd hm_5 (Nat.not_lt_zero _)
    | succ n_5 ih_5 =>
      intro g y hg hy hm_5
      refine g_iload_n hE dX0_worth_5 3 rfl ?_
      refine g_aload_n hE dX0_worth_6 0 rfl ?_
      refine g_get hE fl_X0_39 dX0_worth_7 0 rfl rfl ?_
      refine g_icmp_ge hE 40 dX0_worth_10 (by decide) (fun c1 => ?_) (fun c1 => ?_)
      · have kc1 := nat_le_t (show (m 9 0) = nI n from hn) (show (nI g) = nI g from rfl) (by omega) (by omega) c1
        refine g_aload_n hE dX0_worth_40 0 rfl ?_
        refine g_iload_n hE dX0_worth_41 1 rfl ?_
        refine g_callV hE (c_X0_amountOf cI cS a m (by first | assumption | exact mw_of (by assumption)) z s (show z = nI s from hz) (by first | assumption | exact bs_lt64 _ (by assumption) | exact fallS_lt (by assumption) (by assumption) | exact nd_lt (by assumption) (by assumption) | exact nd_lt (by assumption) (fallS_lt (by assumption) (by assumption)) | exact nd_lt (by assumption) (bs_lt64 _ (by assumption)) | decide)) mk_X0_amountOf mv_X0_amountOf ml_X0_80 dX0_worth_42 (As := [.int z]) (rest := []) rfl rfl 0 rfl (show vwCl[0]? = some (RX0, TX0, 13) from rfl) (by decide) (by decide) (Nat.le_of_ble_eq_true rfl) (by decide) (by decide) [0, 1, 2, 3, 4, 5, 6, 7, 8, 9] rfl (by decide) (fun u => Nat.le_of_ble_eq_true rfl) (ws' := fun u => millW cI a m) (fun u => rfl) (fun u hu => ?_)
        obtain ⟨r_2, rfl⟩ : ∃ z, z = u := ⟨_, rfl⟩
        have h3 : r_2 = (aS (m 1) s n) := hu
        subst h3
        show Go E Q 4 0 0 45 [(0, .ref (a 0)), (1, .int z), (2, .int y), (3, .int (nI g))] [.int (aS (m 1) s n)] (millW cI a m)
        refine g_iload_n hE dX0_worth_45 2 rfl ?_
        refine g_imul hE dX0_worth_46 ?_
        exact g_iret hE hQ dX0_worth_47 rfl ((aS (m 1) s n) * y) rfl rfl (by rw [hy, show n = g by omega]; rfl)
      · have kc1 := nat_le_f (show (m 9 0) = nI n from hn) (show (nI g) = nI g from rfl) (by omega) (by omega) c1
        refine g_iload_n hE dX0_worth_13 1 rfl ?_
        refine g_iload_n hE dX0_worth_14 3 rfl ?_
        refine g_ishr hE dX0_worth_15 ?_
        refine g_iconst hE dX0_worth_16 1 (by decide) ?_
        refine g_iand hE dX0_worth_17 ?_
        refine g_if_eq hE 34 dX0_worth_18 (by decide) (fun c4 => ?_) (fun c4 => ?_)
        · refine g_iinc hE dX0_worth_34 3 (nI (g + 1)) [(3, .int (nI (g + 1))), (0, .ref (a 0)), (1, .int z), (2, .int y)] rfl (nI_1 _) (by decide) rfl ?_
          refine g_goto hE 5 dX0_worth_37 (by decide) ?_
          refine g_locals [1, 2, 3, 0] [(0, .ref (a 0)), (1, .int z), (2, .int y), (3, .int (nI (g + 1)))] rfl ?_
          exact ih_5 (g + 1) y (by first | assumption | omega) (by first | exact lS_y hy (bit_t hz hs (by omega) (by assumption)) | exact lS_n hy (bit_f hz hs (by omega) (by assumption))) (by omega)
        · refine g_iload_n hE dX0_worth_21 2 rfl ?_
          refine g_aload_n hE dX0_worth_22 0 rfl ?_
          refine g_get hE fl_X0_18 dX0_worth_23 0 rfl rfl ?_
          refine g_iload_n hE dX0_worth_26 3 rfl ?_
          refine g_callSN hE (c_X4_at cI cS (a 3) 6 (m 2) (nI g) (by decide)) mk_X4_at st_X4_at nl_X0_49 dX0_worth_27 (As := [.ref (a 3), .int (nI g)]) (rest := [.int y]) rfl rfl (by decide) (by decide) (Nat.le_of_ble_eq_true rfl) (by decide) (by decide) [3] rfl (by decide) (fun u => Nat.le_of_ble_eq_true rfl) (ws' := fun u => millW cI a m) (fun u => rfl) (fun u hu => ?_)
          obtain ⟨r_5, rfl⟩ : ∃ z, z = u := ⟨_, rfl⟩
          have h6 : r_5 = ((m 2) g) := hu.trans (by rw [show (nI g) = nI g from rfl]; exact atv_n (by omega) (by decide))
          subst h6
          show Go E Q 4 0 0 30 [(0, .ref (a 0)), (1, .int z), (2, .int y), (3, .int (nI g))] [.int ((m 2) g), .int y] (millW cI a m)
          refine g_min hE (by decide) (by decide) (by decide) ml_X0_74 mi_st mi_in mi_co dX0_worth_30 (Nat.le_of_ble_eq_true rfl) ?_
          refine g_istore_n hE dX0_worth_33 [(2, .int (if ((m 2) g) < y then ((m 2) g) else y)), (0, .ref (a 0)), (1, .int z), (3, .int (nI g))] rfl (by decide) rfl ?_
          refine g_iinc hE dX0_worth_34 3 (nI (g + 1)) [(3, .int (nI (g + 1))), (2, .int (if ((m 2) g) < y then ((m 2) g) else y)), (0, .ref (a 0)), (1, .int z)] rfl (nI_1 _) (by decide) rfl ?_
          refine g_goto hE 5 dX0_worth_37 (by decide) ?_
          refine g_locals [2, 3, 1, 0] [(0, .ref (a 0)), (1, .int z), (2, .int (if ((m 2) g) < y then ((m 2) g) else y)), (3, .int (nI (g + 1)))] rfl ?_
          exact ih_5 (g + 1) (if ((m 2) g) < y then ((m 2) g) else y) (by first | assumption | omega) (by first | exact lS_y hy (bit_t hz hs (by omega) (by assumption)) | exact lS_n hy (bit_f hz hs (by omega) (by assumption))) (by omega)
  refine g_locals [2, 3, 1, 0] [(0, .ref (a 0)), (1, .int z), (2, .int 99), (3, .int 0)] rfl ?_
  exact L5 _ 0 99 (Nat.zero_le _) rfl (Nat.lt_succ_self _)
set_option maxHeartbeats 4000000 in
set_option maxRecDepth 100000 in
theorem c_X0_letsFall (cI cS : ClassId) (a : Nat → Nat) (m : Nat → Nat → Int32) {n sv pl : Nat} (hM : MW m n sv pl) (v z : Int32) : CT cI cS yX0_letsFall cX0_letsFall 3 (some .boolean) 1 [.ref (a 0), .int v, .int z] (millW cI a m) 0 0 (fun u : Int32 => u = if atv (m 3) 8 v = 3 ∨ z ≤ atv (m 4) 8 v then 1 else 0) (fun u => some (.int u)) (fun u => (millW cI a m)) := by
  refine ct_intro (by decide) (Nat.le_of_ble_eq_true rfl) (fun E Q hE hQ hI => ?_)
  have hE : CxOk E cI cS RX0 cX0_letsFall 3 (some .boolean) 1 0 0 := hE
  show Go E Q 3 0 0 0 [(0, .ref (a 0)), (1, .int v), (2, .int z)] [] (millW cI a m)
  have hn := hM.1
  have hn6 := hM.2.1
  have hsv := hM.2.2.1
  have hsv8 := hM.2.2.2.1
  have hpl := hM.2.2.2.2.1
  have hpl6 := hM.2.2.2.2.2
  refine g_aload_n hE dX0_letsFall_0 0 rfl ?_
  refine g_get hE fl_X0_21 dX0_letsFall_1 0 rfl rfl ?_
  refine g_iload_n hE dX0_letsFall_4 1 rfl ?_
  refine g_callSN hE (c_X4_at cI cS (a 4) 8 (m 3) v (by decide)) mk_X4_at st_X4_at nl_X0_49 dX0_letsFall_5 (As := [.ref (a 4), .int v]) (rest := []) rfl rfl (by decide) (by decide) (Nat.le_of_ble_eq_true rfl) (by decide) (by decide) [4] rfl (by decide) (fun u => Nat.le_of_ble_eq_true rfl) (ws' := fun u => millW cI a m) (fun u => rfl) (fun u hu => ?_)
  obtain ⟨r_1, rfl⟩ : ∃ z, z = u := ⟨_, rfl⟩
  have h2 : r_1 = (atv (m 3) 8 v) := hu
  subst h2
  show Go E Q 3 0 0 8 [(0, .ref (a 0)), (1, .int v), (2, .int z)] [.int (atv (m 3) 8 v)] (millW cI a m)
  refine g_iconst hE dX0_letsFall_8 3 (by decide) ?_
  refine g_icmp_eq hE 24 dX0_letsFall_9 (by decide) (fun c3 => ?_) (fun c3 => ?_)
  · refine g_iconst hE dX0_letsFall_24 1 (by decide) ?_
    refine g_goto hE 29 dX0_letsFall_25 (by decide) ?_
    exact g_iret hE hQ dX0_letsFall_29 (by first | rfl | decide) 1 rfl rfl (by first | exact (if_pos (Or.inl (by assumption))).symm | exact (if_pos (Or.inr (by first | assumption | exact Int32.not_lt.mp (by assumption)))).symm | exact (if_neg (fun q => q.elim (by assumption) (fun q => absurd q (Int32.not_le.mpr (by first | assumption | exact Int32.not_le.mp (by assumption)))))).symm)
  · refine g_iload_n hE dX0_letsFall_12 2 rfl ?_
    refine g_aload_n hE dX0_letsFall_13 0 rfl ?_
    refine g_get hE fl_X0_24 dX0_letsFall_14 0 rfl rfl ?_
    refine g_iload_n hE dX0_letsFall_17 1 rfl ?_
    refine g_callSN hE (c_X4_at cI cS (a 5) 8 (m 4) v (by decide)) mk_X4_at st_X4_at nl_X0_49 dX0_letsFall_18 (As := [.ref (a 5), .int v]) (rest := [.int z]) rfl rfl (by decide) (by decide) (Nat.le_of_ble_eq_true rfl) (by decide) (by decide) [5] rfl (by decide) (fun u => Nat.le_of_ble_eq_true rfl) (ws' := fun u => millW cI a m) (fun u => rfl) (fun u hu => ?_)
    obtain ⟨r_4, rfl⟩ : ∃ z, z = u := ⟨_, rfl⟩
    have h5 : r_4 = (atv (m 4) 8 v) := hu
    subst h5
    show Go E Q 3 0 0 21 [(0, .ref (a 0)), (1, .int v), (2, .int z)] [.int (atv (m 4) 8 v), .int z] (millW cI a m)
    refine g_icmp_gt hE 28 dX0_letsFall_21 (by decide) (fun c6 => ?_) (fun c6 => ?_)
    · refine g_iconst hE dX0_letsFall_28 0 (by decide) ?_
      exact g_iret hE hQ dX0_letsFall_29 (by first | rfl | decide) 0 rfl rfl (by first | exact (if_pos (Or.inl (by assumption))).symm | exact (if_pos (Or.inr (by first | assumption | exact Int32.not_lt.mp (by assumption)))).symm | exact (if_neg (fun q => q.elim (by assumption) (fun q => absurd q (Int32.not_le.mpr (by first | assumption | exact Int32.not_le.mp (by assumption)))))).symm)
    · refine g_iconst hE dX0_letsFall_24 1 (by decide) ?_
      refine g_goto hE 29 dX0_letsFall_25 (by decide) ?_
      exact g_iret hE hQ dX0_letsFall_29 (by first | rfl | decide) 1 rfl rfl (by first | exact (if_pos (Or.inl (by assumption))).symm | exact (if_pos (Or.inr (by first | assumption | exact Int32.not_lt.mp (by assumption)))).symm | exact (if_neg (fun q => q.elim (by assumption) (fun q => absurd q (Int32.not_le.mpr (by first | assumption | exact Int32.not_le.mp (by assumption)))))).symm)
set_option maxHeartbeats 4000000 in
set_option maxRecDepth 100000 in
theorem c_X0_tooBig (cI cS : ClassId) (a : Nat → Nat) (m : Nat → Nat → Int32) {n sv pl : Nat} (hM : MW m n sv pl) (v z : Int32) (s : Nat) (hz : z = nI s) (hs : s < 64) : CT cI cS yX0_tooBig cX0_tooBig 5 (some .int) 2 [.ref (a 0), .int v, .int z] (millW cI a m) 0 0 (fun u : Int32 => u = nI (bigS m v s n)) (fun u => some (.int u)) (fun u => (millW cI a m)) := by
  refine ct_intro (by decide) (Nat.le_of_ble_eq_true rfl) (fun E Q hE hQ hI => ?_)
  have hE : CxOk E cI cS RX0 cX0_tooBig 5 (some .int) 2 0 0 := hE
  show Go E Q 5 0 0 0 [(0, .ref (a 0)), (1, .int v), (2, .int z)] [] (millW cI a m)
  have hn := hM.1
  have hn6 := hM.2.1
  have hsv := hM.2.2.1
  have hsv8 := hM.2.2.2.1
  have hpl := hM.2.2.2.2.1
  have hpl6 := hM.2.2.2.2.2
  refine g_iconst hE dX0_tooBig_0 0 (by decide) ?_
  refine g_istore_n hE dX0_tooBig_1 [(3, .int 0), (0, .ref (a 0)), (1, .int v), (2, .int z)] rfl (by decide) rfl ?_
  refine g_iconst hE dX0_tooBig_2 0 (by decide) ?_
  refine g_istore hE dX0_tooBig_3 [(4, .int 0), (3, .int 0), (0, .ref (a 0)), (1, .int v), (2, .int z)] (by decide) rfl ?_
  have L5 : ∀ (n_5 : Nat) (g : Nat) (y : Int32), (g ≤ n) → (y = nI (bigS m v s g)) → (n - g < n_5) → Go E Q 5 0 0 5 [(0, .ref (a 0)), (1, .int v), (2, .int z), (3, .int y), (4, .int (nI g))] [] (millW cI a m) := by
    intro n_5
    induction n_5 with
    | zero => intro g y hg hy hm_5; exact absurd hm_5 (Nat.not_lt_zero _)
    | succ n_5 ih_5 =>
      intro g y hg hy hm_5
      refine g_iload hE dX0_tooBig_5 4 rfl ?_
      refine g_aload_n hE dX0_tooBig_7 0 rfl ?_
      refine g_get hE fl_X0_39 dX0_tooBig_8 0 rfl rfl ?_
      refine g_icmp_ge hE 53 dX0_tooBig_11 (by decide) (fun c1 => ?_) (fun c1 => ?_)
      · have kc1 := nat_le_t (show (m 9 0) = nI n from hn) (show (nI g) = nI g from rfl) (by omega) (by omega) c1
        refine g_iload_n hE dX0_tooBig_53 3 rfl ?_
        exact g_iret hE hQ dX0_tooBig_54 rfl y rfl rfl (by rw [hy, show n = g by omega])
      · have kc1 := nat_le_f (show (m 9 0) = nI n from hn) (show (nI g) = nI g from rfl) (by omega) (by omega) c1
        refine g_iload_n hE dX0_tooBig_14 2 rfl ?_
        refine g_iload hE dX0_tooBig_15 4 rfl ?_
        refine g_ishr hE dX0_tooBig_17 ?_
        refine g_iconst hE dX0_tooBig_18 1 (by decide) ?_
        refine g_iand hE dX0_tooBig_19 ?_
        refine g_if_eq hE 47 dX0_tooBig_20 (by decide) (fun c2 => ?_) (fun c2 => ?_)
        · refine g_iinc hE dX0_tooBig_47 4 (nI (g + 1)) [(4, .int (nI (g + 1))), (0, .ref (a 0)), (1, .int v), (2, .int z), (3, .int y)] rfl (nI_1 _) (by decide) rfl ?_
          refine g_goto hE 5 dX0_tooBig_50 (by decide) ?_
          refine g_locals [1, 2, 3, 4, 0] [(0, .ref (a 0)), (1, .int v), (2, .int z), (3, .int y), (4, .int (nI (g + 1)))] rfl ?_
          exact ih_5 (g + 1) y (by first | assumption | omega) (by first | exact bigS_y hy (by omega) (bit_t hz hs (by omega) (by assumption)) (by assumption) | exact bigS_n2 hy (by assumption) | exact bigS_n1 hy (bit_f hz hs (by omega) (by assumption))) (by omega)
        · refine g_aload_n hE dX0_tooBig_23 0 rfl ?_
          refine g_iload_n hE dX0_tooBig_24 1 rfl ?_
          refine g_aload_n hE dX0_tooBig_25 0 rfl ?_
          refine g_get hE fl_X0_9 dX0_tooBig_26 0 rfl rfl ?_
          refine g_iload hE dX0_tooBig_29 4 rfl ?_
          refine g_callSN hE (c_X4_at cI cS (a 1) 6 (m 0) (nI g) (by decide)) mk_X4_at st_X4_at nl_X0_49 dX0_tooBig_31 (As := [.ref (a 1), .int (nI g)]) (rest := [.int v, .ref (a 0)]) rfl rfl (by decide) (by decide) (Nat.le_of_ble_eq_true rfl) (by decide) (by decide) [1] rfl (by decide) (fun u => Nat.le_of_ble_eq_true rfl) (ws' := fun u => millW cI a m) (fun u => rfl) (fun u hu => ?_)
          obtain ⟨r_3, rfl⟩ : ∃ z, z = u := ⟨_, rfl⟩
          have h4 : r_3 = ((m 0) g) := hu.trans (by rw [show (nI g) = nI g from rfl]; exact atv_n (by omega) (by decide))
          subst h4
          show Go E Q 5 0 0 34 [(0, .ref (a 0)), (1, .int v), (2, .int z), (3, .int y), (4, .int (nI g))] [.int ((m 0) g), .int v, .ref (a 0)] (millW cI a m)
          refine g_callV hE (c_X0_letsFall cI cS a m (by first | assumption | exact mw_of (by assumption)) v ((m 0) g)) mk_X0_letsFall mv_X0_letsFall ml_X0_84 dX0_tooBig_34 (As := [.int v, .int ((m 0) g)]) (rest := []) rfl rfl 0 rfl (show vwCl[0]? = some (RX0, TX0, 13) from rfl) (by decide) (by decide) (Nat.le_of_ble_eq_true rfl) (by decide) (by decide) [0, 1, 2, 3, 4, 5, 6, 7, 8, 9] rfl (by decide) (fun u => Nat.le_of_ble_eq_true rfl) (ws' := fun u => millW cI a m) (fun u => rfl) (fun u hu => ?_)
          obtain ⟨r_5, rfl⟩ : ∃ z, z = u := ⟨_, rfl⟩
          have h6 : r_5 = if atv (m 3) 8 v = 3 ∨ ((m 0) g) ≤ atv (m 4) 8 v then 1 else 0 := hu
          by_cases c7 : atv (m 3) 8 v = 3 ∨ ((m 0) g) ≤ atv (m 4) 8 v
          · rw [if_pos c7] at h6
            subst h6
            show Go E Q 5 0 0 37 [(0, .ref (a 0)), (1, .int v), (2, .int z), (3, .int y), (4, .int (nI g))] [.int 1] (millW cI a m)
            refine g_if_ne hE 47 dX0_tooBig_37 (by decide) (fun c8 => ?_) (fun c8 => absurd c8 (by decide))
            refine g_iinc hE dX0_tooBig_47 4 (nI (g + 1)) [(4, .int (nI (g + 1))), (0, .ref (a 0)), (1, .int v), (2, .int z), (3, .int y)] rfl (nI_1 _) (by decide) rfl ?_
            refine g_goto hE 5 dX0_tooBig_50 (by decide) ?_
            refine g_locals [1, 2, 3, 4, 0] [(0, .ref (a 0)), (1, .int v), (2, .int z), (3, .int y), (4, .int (nI (g + 1)))] rfl ?_
            exact ih_5 (g + 1) y (by first | assumption | omega) (by first | exact bigS_y hy (by omega) (bit_t hz hs (by omega) (by assumption)) (by assumption) | exact bigS_n2 hy (by assumption) | exact bigS_n1 hy (bit_f hz hs (by omega) (by assumption))) (by omega)
          · rw [if_neg c7] at h6
            subst h6
            show Go E Q 5 0 0 37 [(0, .ref (a 0)), (1, .int v), (2, .int z), (3, .int y), (4, .int (nI g))] [.int 0] (millW cI a m)
            refine g_if_ne hE 47 dX0_tooBig_37 (by decide) (fun c9 => absurd (by decide) c9) (fun c9 => ?_)
            refine g_iload_n hE dX0_tooBig_40 3 rfl ?_
            refine g_iconst hE dX0_tooBig_41 1 (by decide) ?_
            refine g_iload hE dX0_tooBig_42 4 rfl ?_
            refine g_ishl hE dX0_tooBig_44 ?_
            refine g_ior hE dX0_tooBig_45 ?_
            refine g_istore_n hE dX0_tooBig_46 [(3, .int (y ||| (1 <<< ((nI g) &&& 31)))), (0, .ref (a 0)), (1, .int v), (2, .int z), (4, .int (nI g))] rfl (by decide) rfl ?_
            refine g_iinc hE dX0_tooBig_47 4 (nI (g + 1)) [(4, .int (nI (g + 1))), (3, .int (y ||| (1 <<< ((nI g) &&& 31)))), (0, .ref (a 0)), (1, .int v), (2, .int z)] rfl (nI_1 _) (by decide) rfl ?_
            refine g_goto hE 5 dX0_tooBig_50 (by decide) ?_
            refine g_locals [2, 3, 4, 1, 0] [(0, .ref (a 0)), (1, .int v), (2, .int z), (3, .int (y ||| (1 <<< ((nI g) &&& 31)))), (4, .int (nI (g + 1)))] rfl ?_
            exact ih_5 (g + 1) (y ||| (1 <<< ((nI g) &&& 31))) (by first | assumption | omega) (by first | exact bigS_y hy (by omega) (bit_t hz hs (by omega) (by assumption)) (by assumption) | exact bigS_n2 hy (by assumption) | exact bigS_n1 hy (bit_f hz hs (by omega) (by assumption))) (by omega)
  refine g_locals [2, 3, 4, 1, 0] [(0, .ref (a 0)), (1, .int v), (2, .int z), (3, .int 0), (4, .int 0)] rfl ?_
  exact L5 _ 0 0 (Nat.zero_le _) rfl (Nat.lt_succ_self _)
set_option maxHeartbeats 4000000 in
set_option maxRecDepth 100000 in
theorem c_X0_isTooMuch (cI cS : ClassId) (a : Nat → Nat) (m : Nat → Nat → Int32) {n sv pl : Nat} (hM : MW m n sv pl) (v z : Int32) (s : Nat) (hz : z = nI s) (hs : s < 64) : CT cI cS yX0_isTooMuch cX0_isTooMuch 3 (some .boolean) 2 [.ref (a 0), .int v, .int z] (millW cI a m) 0 0 (fun u : Int32 => u = if atv (m 5) 8 v < aS (m 1) s n then 1 else 0) (fun u => some (.int u)) (fun u => (millW cI a m)) := by
  refine ct_intro (by decide) (Nat.le_of_ble_eq_true rfl) (fun E Q hE hQ hI => ?_)
  have hE : CxOk E cI cS RX0 cX0_isTooMuch 3 (some .boolean) 2 0 0 := hE
  show Go E Q 3 0 0 0 [(0, .ref (a 0)), (1, .int v), (2, .int z)] [] (millW cI a m)
  have hn := hM.1
  have hn6 := hM.2.1
  have hsv := hM.2.2.1
  have hsv8 := hM.2.2.2.1
  have hpl := hM.2.2.2.2.1
  have hpl6 := hM.2.2.2.2.2
  refine g_aload_n hE dX0_isTooMuch_0 0 rfl ?_
  refine g_iload_n hE dX0_isTooMuch_1 2 rfl ?_
  refine g_callV hE (c_X0_amountOf cI cS a m (by first | assumption | exact mw_of (by assumption)) z s (show z = nI s from hz) (by first | assumption | exact bs_lt64 _ (by assumption) | exact fallS_lt (by assumption) (by assumption) | exact nd_lt (by assumption) (by assumption) | exact nd_lt (by assumption) (fallS_lt (by assumption) (by assumption)) | exact nd_lt (by assumption) (bs_lt64 _ (by assumption)) | decide)) mk_X0_amountOf mv_X0_amountOf ml_X0_80 dX0_isTooMuch_2 (As := [.int z]) (rest := []) rfl rfl 0 rfl (show vwCl[0]? = some (RX0, TX0, 13) from rfl) (by decide) (by decide) (Nat.le_of_ble_eq_true rfl) (by decide) (by decide) [0, 1, 2, 3, 4, 5, 6, 7, 8, 9] rfl (by decide) (fun u => Nat.le_of_ble_eq_true rfl) (ws' := fun u => millW cI a m) (fun u => rfl) (fun u hu => ?_)
  obtain ⟨r_1, rfl⟩ : ∃ z, z = u := ⟨_, rfl⟩
  have h2 : r_1 = (aS (m 1) s n) := hu
  subst h2
  show Go E Q 3 0 0 5 [(0, .ref (a 0)), (1, .int v), (2, .int z)] [.int (aS (m 1) s n)] (millW cI a m)
  refine g_aload_n hE dX0_isTooMuch_5 0 rfl ?_
  refine g_get hE fl_X0_27 dX0_isTooMuch_6 0 rfl rfl ?_
  refine g_iload_n hE dX0_isTooMuch_9 1 rfl ?_
  refine g_callSN hE (c_X4_at cI cS (a 6) 8 (m 5) v (by decide)) mk_X4_at st_X4_at nl_X0_49 dX0_isTooMuch_10 (As := [.ref (a 6), .int v]) (rest := [.int (aS (m 1) s n)]) rfl rfl (by decide) (by decide) (Nat.le_of_ble_eq_true rfl) (by decide) (by decide) [6] rfl (by decide) (fun u => Nat.le_of_ble_eq_true rfl) (ws' := fun u => millW cI a m) (fun u => rfl) (fun u hu => ?_)
  obtain ⟨r_3, rfl⟩ : ∃ z, z = u := ⟨_, rfl⟩
  have h4 : r_3 = (atv (m 5) 8 v) := hu
  subst h4
  show Go E Q 3 0 0 13 [(0, .ref (a 0)), (1, .int v), (2, .int z)] [.int (atv (m 5) 8 v), .int (aS (m 1) s n)] (millW cI a m)
  refine g_icmp_le hE 20 dX0_isTooMuch_13 (by decide) (fun c5 => ?_) (fun c5 => ?_)
  · refine g_iconst hE dX0_isTooMuch_20 0 (by decide) ?_
    exact g_iret hE hQ dX0_isTooMuch_21 (by first | rfl | decide) 0 rfl rfl (by first | exact (if_pos (by first | assumption | exact Int32.not_le.mp (by assumption))).symm | exact (if_neg (by first | assumption | exact Int32.not_lt.mpr (by assumption))).symm)
  · refine g_iconst hE dX0_isTooMuch_16 1 (by decide) ?_
    refine g_goto hE 21 dX0_isTooMuch_17 (by decide) ?_
    exact g_iret hE hQ dX0_isTooMuch_21 (by first | rfl | decide) 1 rfl rfl (by first | exact (if_pos (by first | assumption | exact Int32.not_le.mp (by assumption))).symm | exact (if_neg (by first | assumption | exact Int32.not_lt.mpr (by assumption))).symm)
set_option maxHeartbeats 4000000 in
set_option maxRecDepth 100000 in
theorem c_X0_falling (cI cS : ClassId) (a : Nat → Nat) (m : Nat → Nat → Int32) {n sv pl : Nat} (hM : MW m n sv pl) (v z : Int32) (s : Nat) (hz : z = nI s) (hs : s < 64) : CT cI cS yX0_falling cX0_falling 4 (some .int) 3 [.ref (a 0), .int v, .int z] (millW cI a m) 0 0 (fun u : Int32 => u = nI (fallS m n v s)) (fun u => some (.int u)) (fun u => (millW cI a m)) := by
  refine ct_intro (by decide) (Nat.le_of_ble_eq_true rfl) (fun E Q hE hQ hI => ?_)
  have hE : CxOk E cI cS RX0 cX0_falling 4 (some .int) 3 0 0 := hE
  show Go E Q 4 0 0 0 [(0, .ref (a 0)), (1, .int v), (2, .int z)] [] (millW cI a m)
  have hn := hM.1
  have hn6 := hM.2.1
  have hsv := hM.2.2.1
  have hsv8 := hM.2.2.2.1
  have hpl := hM.2.2.2.2.1
  have hpl6 := hM.2.2.2.2.2
  refine g_aload_n hE dX0_falling_0 0 rfl ?_
  refine g_iload_n hE dX0_falling_1 1 rfl ?_
  refine g_iload_n hE dX0_falling_2 2 rfl ?_
  refine g_callV hE (c_X0_tooBig cI cS a m (by first | assumption | exact mw_of (by assumption)) v z s (show z = nI s from hz) (by first | assumption | exact bs_lt64 _ (by assumption) | exact fallS_lt (by assumption) (by assumption) | exact nd_lt (by assumption) (by assumption) | exact nd_lt (by assumption) (fallS_lt (by assumption) (by assumption)) | exact nd_lt (by assumption) (bs_lt64 _ (by assumption)) | decide)) mk_X0_tooBig mv_X0_tooBig ml_X0_88 dX0_falling_3 (As := [.int v, .int z]) (rest := []) rfl rfl 0 rfl (show vwCl[0]? = some (RX0, TX0, 13) from rfl) (by decide) (by decide) (Nat.le_of_ble_eq_true rfl) (by decide) (by decide) [0, 1, 2, 3, 4, 5, 6, 7, 8, 9] rfl (by decide) (fun u => Nat.le_of_ble_eq_true rfl) (ws' := fun u => millW cI a m) (fun u => rfl) (fun u hu => ?_)
  obtain ⟨r_1, rfl⟩ : ∃ z, z = u := ⟨_, rfl⟩
  have h2 : r_1 = (nI (bigS m v s n)) := hu
  subst h2
  show Go E Q 4 0 0 6 [(0, .ref (a 0)), (1, .int v), (2, .int z)] [.int (nI (bigS m v s n))] (millW cI a m)
  refine g_istore_n hE dX0_falling_6 [(3, .int (nI (bigS m v s n))), (0, .ref (a 0)), (1, .int v), (2, .int z)] rfl (by decide) rfl ?_
  refine g_aload_n hE dX0_falling_7 1 rfl ?_
  refine g_iload_n hE dX0_falling_8 2 rfl ?_
  refine g_iload_n hE dX0_falling_9 0 rfl ?_
  refine g_callV hE (c_X0_isTooMuch cI cS a m (by first | assumption | exact mw_of (by assumption)) v (nI (bigS m v s n)) (bigS m v s n) (show (nI (bigS m v s n)) = nI (bigS m v s n) from rfl) (by first | assumption | exact bs_lt64 _ (by assumption) | exact fallS_lt (by assumption) (by assumption) | exact nd_lt (by assumption) (by assumption) | exact nd_lt (by assumption) (fallS_lt (by assumption) (by assumption)) | exact nd_lt (by assumption) (bs_lt64 _ (by assumption)) | decide)) mk_X0_isTooMuch mv_X0_isTooMuch ml_X0_91 dX0_falling_10 (As := [.int v, .int (nI (bigS m v s n))]) (rest := []) rfl rfl 0 rfl (show vwCl[0]? = some (RX0, TX0, 13) from rfl) (by decide) (by decide) (Nat.le_of_ble_eq_true rfl) (by decide) (by decide) [0, 1, 2, 3, 4, 5, 6, 7, 8, 9] rfl (by decide) (fun u => Nat.le_of_ble_eq_true rfl) (ws' := fun u => millW cI a m) (fun u => rfl) (fun u hu => ?_)
  obtain ⟨r_3, rfl⟩ : ∃ z, z = u := ⟨_, rfl⟩
  have h4 : r_3 = if atv (m 5) 8 v < aS (m 1) (bigS m v s n) n then 1 else 0 := hu
  by_cases c5 : atv (m 5) 8 v < aS (m 1) (bigS m v s n) n
  · rw [if_pos c5] at h4
    subst h4
    show Go E Q 4 0 0 13 [(3, .int (nI (bigS m v s n))), (0, .ref (a 0)), (1, .int v), (2, .int z)] [.int 1] (millW cI a m)
    refine g_if_eq hE 20 dX0_falling_13 (by decide) (fun c6 => absurd c6 (by decide)) (fun c6 => ?_)
    refine g_iconst hE dX0_falling_16 0 (by decide) ?_
    refine g_goto hE 25 dX0_falling_17 (by decide) ?_
    exact g_iret hE hQ dX0_falling_25 rfl 0 rfl rfl (by unfold fallS; first | rw [if_pos (by assumption)]; rfl | (rw [if_neg (by assumption)]; exact nd_i hz rfl hs (bs_lt64 _ hn6)))
  · rw [if_neg c5] at h4
    subst h4
    show Go E Q 4 0 0 13 [(3, .int (nI (bigS m v s n))), (0, .ref (a 0)), (1, .int v), (2, .int z)] [.int 0] (millW cI a m)
    refine g_if_eq hE 20 dX0_falling_13 (by decide) (fun c7 => ?_) (fun c7 => absurd (by decide) c7)
    refine g_iload_n hE dX0_falling_20 3 rfl ?_
    refine g_iload_n hE dX0_falling_21 0 rfl ?_
    refine g_iconst hE dX0_falling_22 (-1) (by decide) ?_
    refine g_ixor hE dX0_falling_23 ?_
    refine g_iand hE dX0_falling_24 ?_
    exact g_iret hE hQ dX0_falling_25 rfl (z &&& ((nI (bigS m v s n)) ^^^ (-1))) rfl rfl (by unfold fallS; first | rw [if_pos (by assumption)]; rfl | (rw [if_neg (by assumption)]; exact nd_i hz rfl hs (bs_lt64 _ hn6)))
