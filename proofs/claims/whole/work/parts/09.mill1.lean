/-! the mill: reads -/
set_option maxHeartbeats 4000000 in
set_option maxRecDepth 100000 in
theorem c_X0_hasGrain (cI cS : ClassId) (a : Nat → Nat) (m : Nat → Nat → Int32) {n sv pl : Nat} (hM : MW m n sv pl) (g : Int32) : CT cI cS yX0_hasGrain cX0_hasGrain 2 (some .boolean) 0 [.ref (a 0), .int g] (millW cI a m) 0 0 (fun u : Int32 => u = if 0 ≤ g ∧ g < m 9 0 then 1 else 0) (fun u => some (.int u)) (fun u => (millW cI a m)) := by
  refine ct_intro (by decide) (Nat.le_of_ble_eq_true rfl) (fun E Q hE hQ hI => ?_)
  have hE : CxOk E cI cS RX0 cX0_hasGrain 2 (some .boolean) 0 0 0 := hE
  show Go E Q 2 0 0 0 [(0, .ref (a 0)), (1, .int g)] [] (millW cI a m)
  have hn := hM.1
  have hn6 := hM.2.1
  have hsv := hM.2.2.1
  have hsv8 := hM.2.2.2.1
  have hpl := hM.2.2.2.2.1
  have hpl6 := hM.2.2.2.2.2
  refine g_iload_n hE dX0_hasGrain_0 1 rfl ?_
  refine g_if_lt hE 16 dX0_hasGrain_1 (by decide) (fun c1 => ?_) (fun c1 => ?_)
  · refine g_iconst hE dX0_hasGrain_16 0 (by decide) ?_
    exact g_iret hE hQ dX0_hasGrain_17 (by first | rfl | decide) 0 rfl rfl (if_neg (fun q => by obtain ⟨q1, q2⟩ := q; first | exact absurd q1 (by assumption) | exact absurd q2 (by assumption) | exact absurd q1 (Int32.not_lt.mpr (by assumption)) | exact absurd q2 (Int32.not_lt.mpr (by assumption)) | exact absurd q1 (Int32.not_le.mpr (by assumption)) | exact absurd q2 (Int32.not_le.mpr (by assumption)))).symm
  · refine g_iload_n hE dX0_hasGrain_4 1 rfl ?_
    refine g_aload_n hE dX0_hasGrain_5 0 rfl ?_
    refine g_get hE fl_X0_39 dX0_hasGrain_6 0 rfl rfl ?_
    refine g_icmp_ge hE 16 dX0_hasGrain_9 (by decide) (fun c2 => ?_) (fun c2 => ?_)
    · refine g_iconst hE dX0_hasGrain_16 0 (by decide) ?_
      exact g_iret hE hQ dX0_hasGrain_17 (by first | rfl | decide) 0 rfl rfl (if_neg (fun q => by obtain ⟨q1, q2⟩ := q; first | exact absurd q1 (by assumption) | exact absurd q2 (by assumption) | exact absurd q1 (Int32.not_lt.mpr (by assumption)) | exact absurd q2 (Int32.not_lt.mpr (by assumption)) | exact absurd q1 (Int32.not_le.mpr (by assumption)) | exact absurd q2 (Int32.not_le.mpr (by assumption)))).symm
    · refine g_iconst hE dX0_hasGrain_12 1 (by decide) ?_
      refine g_goto hE 17 dX0_hasGrain_13 (by decide) ?_
      exact g_iret hE hQ dX0_hasGrain_17 (by first | rfl | decide) 1 rfl rfl (if_pos (by (repeat' apply And.intro) <;> first | assumption | exact Int32.not_lt.mp (by assumption) | exact Int32.not_le.mp (by assumption))).symm
set_option maxHeartbeats 4000000 in
set_option maxRecDepth 100000 in
theorem c_X0_hasSieve (cI cS : ClassId) (a : Nat → Nat) (m : Nat → Nat → Int32) {n sv pl : Nat} (hM : MW m n sv pl) (g : Int32) : CT cI cS yX0_hasSieve cX0_hasSieve 2 (some .boolean) 0 [.ref (a 0), .int g] (millW cI a m) 0 0 (fun u : Int32 => u = if 0 ≤ g ∧ g < m 9 1 then 1 else 0) (fun u => some (.int u)) (fun u => (millW cI a m)) := by
  refine ct_intro (by decide) (Nat.le_of_ble_eq_true rfl) (fun E Q hE hQ hI => ?_)
  have hE : CxOk E cI cS RX0 cX0_hasSieve 2 (some .boolean) 0 0 0 := hE
  show Go E Q 2 0 0 0 [(0, .ref (a 0)), (1, .int g)] [] (millW cI a m)
  have hn := hM.1
  have hn6 := hM.2.1
  have hsv := hM.2.2.1
  have hsv8 := hM.2.2.2.1
  have hpl := hM.2.2.2.2.1
  have hpl6 := hM.2.2.2.2.2
  refine g_iload_n hE dX0_hasSieve_0 1 rfl ?_
  refine g_if_lt hE 16 dX0_hasSieve_1 (by decide) (fun c1 => ?_) (fun c1 => ?_)
  · refine g_iconst hE dX0_hasSieve_16 0 (by decide) ?_
    exact g_iret hE hQ dX0_hasSieve_17 (by first | rfl | decide) 0 rfl rfl (if_neg (fun q => by obtain ⟨q1, q2⟩ := q; first | exact absurd q1 (by assumption) | exact absurd q2 (by assumption) | exact absurd q1 (Int32.not_lt.mpr (by assumption)) | exact absurd q2 (Int32.not_lt.mpr (by assumption)) | exact absurd q1 (Int32.not_le.mpr (by assumption)) | exact absurd q2 (Int32.not_le.mpr (by assumption)))).symm
  · refine g_iload_n hE dX0_hasSieve_4 1 rfl ?_
    refine g_aload_n hE dX0_hasSieve_5 0 rfl ?_
    refine g_get hE fl_X0_43 dX0_hasSieve_6 0 rfl rfl ?_
    refine g_icmp_ge hE 16 dX0_hasSieve_9 (by decide) (fun c2 => ?_) (fun c2 => ?_)
    · refine g_iconst hE dX0_hasSieve_16 0 (by decide) ?_
      exact g_iret hE hQ dX0_hasSieve_17 (by first | rfl | decide) 0 rfl rfl (if_neg (fun q => by obtain ⟨q1, q2⟩ := q; first | exact absurd q1 (by assumption) | exact absurd q2 (by assumption) | exact absurd q1 (Int32.not_lt.mpr (by assumption)) | exact absurd q2 (Int32.not_lt.mpr (by assumption)) | exact absurd q1 (Int32.not_le.mpr (by assumption)) | exact absurd q2 (Int32.not_le.mpr (by assumption)))).symm
    · refine g_iconst hE dX0_hasSieve_12 1 (by decide) ?_
      refine g_goto hE 17 dX0_hasSieve_13 (by decide) ?_
      exact g_iret hE hQ dX0_hasSieve_17 (by first | rfl | decide) 1 rfl rfl (if_pos (by (repeat' apply And.intro) <;> first | assumption | exact Int32.not_lt.mp (by assumption) | exact Int32.not_le.mp (by assumption))).symm
set_option maxHeartbeats 4000000 in
set_option maxRecDepth 100000 in
theorem c_X0_hasHeap (cI cS : ClassId) (a : Nat → Nat) (m : Nat → Nat → Int32) {n sv pl : Nat} (hM : MW m n sv pl) (g : Int32) : CT cI cS yX0_hasHeap cX0_hasHeap 2 (some .boolean) 0 [.ref (a 0), .int g] (millW cI a m) 0 0 (fun u : Int32 => u = if 0 ≤ g ∧ g ≤ m 9 2 then 1 else 0) (fun u => some (.int u)) (fun u => (millW cI a m)) := by
  refine ct_intro (by decide) (Nat.le_of_ble_eq_true rfl) (fun E Q hE hQ hI => ?_)
  have hE : CxOk E cI cS RX0 cX0_hasHeap 2 (some .boolean) 0 0 0 := hE
  show Go E Q 2 0 0 0 [(0, .ref (a 0)), (1, .int g)] [] (millW cI a m)
  have hn := hM.1
  have hn6 := hM.2.1
  have hsv := hM.2.2.1
  have hsv8 := hM.2.2.2.1
  have hpl := hM.2.2.2.2.1
  have hpl6 := hM.2.2.2.2.2
  refine g_iload_n hE dX0_hasHeap_0 1 rfl ?_
  refine g_if_lt hE 16 dX0_hasHeap_1 (by decide) (fun c1 => ?_) (fun c1 => ?_)
  · refine g_iconst hE dX0_hasHeap_16 0 (by decide) ?_
    exact g_iret hE hQ dX0_hasHeap_17 (by first | rfl | decide) 0 rfl rfl (if_neg (fun q => by obtain ⟨q1, q2⟩ := q; first | exact absurd q1 (by assumption) | exact absurd q2 (by assumption) | exact absurd q1 (Int32.not_lt.mpr (by assumption)) | exact absurd q2 (Int32.not_lt.mpr (by assumption)) | exact absurd q1 (Int32.not_le.mpr (by assumption)) | exact absurd q2 (Int32.not_le.mpr (by assumption)))).symm
  · refine g_iload_n hE dX0_hasHeap_4 1 rfl ?_
    refine g_aload_n hE dX0_hasHeap_5 0 rfl ?_
    refine g_get hE fl_X0_46 dX0_hasHeap_6 0 rfl rfl ?_
    refine g_icmp_gt hE 16 dX0_hasHeap_9 (by decide) (fun c2 => ?_) (fun c2 => ?_)
    · refine g_iconst hE dX0_hasHeap_16 0 (by decide) ?_
      exact g_iret hE hQ dX0_hasHeap_17 (by first | rfl | decide) 0 rfl rfl (if_neg (fun q => by obtain ⟨q1, q2⟩ := q; first | exact absurd q1 (by assumption) | exact absurd q2 (by assumption) | exact absurd q1 (Int32.not_lt.mpr (by assumption)) | exact absurd q2 (Int32.not_lt.mpr (by assumption)) | exact absurd q1 (Int32.not_le.mpr (by assumption)) | exact absurd q2 (Int32.not_le.mpr (by assumption)))).symm
    · refine g_iconst hE dX0_hasHeap_12 1 (by decide) ?_
      refine g_goto hE 17 dX0_hasHeap_13 (by decide) ?_
      exact g_iret hE hQ dX0_hasHeap_17 (by first | rfl | decide) 1 rfl rfl (if_pos (by (repeat' apply And.intro) <;> first | assumption | exact Int32.not_lt.mp (by assumption) | exact Int32.not_le.mp (by assumption))).symm
set_option maxHeartbeats 4000000 in
set_option maxRecDepth 100000 in
theorem c_X0_load (cI cS : ClassId) (a : Nat → Nat) (m : Nat → Nat → Int32) {n sv pl : Nat} (hM : MW m n sv pl) : CT cI cS yX0_load cX0_load 3 (some .int) 1 [.ref (a 0)] (millW cI a m) 0 0 (fun u : Int32 => u = nI (ldS m n)) (fun u => some (.int u)) (fun u => (millW cI a m)) := by
  refine ct_intro (by decide) (Nat.le_of_ble_eq_true rfl) (fun E Q hE hQ hI => ?_)
  have hE : CxOk E cI cS RX0 cX0_load 3 (some .int) 1 0 0 := hE
  show Go E Q 3 0 0 0 [(0, .ref (a 0))] [] (millW cI a m)
  have hn := hM.1
  have hn6 := hM.2.1
  have hsv := hM.2.2.1
  have hsv8 := hM.2.2.2.1
  have hpl := hM.2.2.2.2.1
  have hpl6 := hM.2.2.2.2.2
  refine g_iconst hE dX0_load_0 0 (by decide) ?_
  refine g_istore_n hE dX0_load_1 [(1, .int 0), (0, .ref (a 0))] rfl (by decide) rfl ?_
  refine g_iconst hE dX0_load_2 0 (by decide) ?_
  refine g_istore_n hE dX0_load_3 [(2, .int 0), (1, .int 0), (0, .ref (a 0))] rfl (by decide) rfl ?_
  have L4 : ∀ (n_4 : Nat) (g : Nat) (z : Int32), (g ≤ n) → (z = nI (ldS m g)) → (n - g < n_4) → Go E Q 3 0 0 4 [(0, .ref (a 0)), (1, .int z), (2, .int (nI g))] [] (millW cI a m) := by
    intro n_4
    induction n_4 with
    | zero => intro g z hg hz hm_4; exact absurd hm_4 (Nat.not_lt_zero _)
    | succ n_4 ih_4 =>
      intro g z hg hz hm_4
      refine g_iload_n hE dX0_load_4 2 rfl ?_
      refine g_aload_n hE dX0_load_5 0 rfl ?_
      refine g_get hE fl_X0_39 dX0_load_6 0 rfl rfl ?_
      refine g_icmp_ge hE 35 dX0_load_9 (by decide) (fun c1 => ?_) (fun c1 => ?_)
      · have kc1 := nat_le_t (show (m 9 0) = nI n from hn) (show (nI g) = nI g from rfl) (by omega) (by omega) c1
        refine g_iload_n hE dX0_load_35 1 rfl ?_
        exact g_iret hE hQ dX0_load_36 rfl z rfl rfl (by rw [hz, show n = g by omega])
      · have kc1 := nat_le_f (show (m 9 0) = nI n from hn) (show (nI g) = nI g from rfl) (by omega) (by omega) c1
        refine g_aload_n hE dX0_load_12 0 rfl ?_
        refine g_get hE fl_X0_15 dX0_load_13 0 rfl rfl ?_
        refine g_iload_n hE dX0_load_16 2 rfl ?_
        refine g_callSN hE (c_X4_at cI cS (a 2) 6 (m 1) (nI g) (by decide)) mk_X4_at st_X4_at nl_X0_49 dX0_load_17 (As := [.ref (a 2), .int (nI g)]) (rest := []) rfl rfl (by decide) (by decide) (by decide) (by decide) (by decide) [2] rfl (by decide) (fun u => Nat.le_of_ble_eq_true rfl) (ws' := fun u => millW cI a m) (fun u => rfl) (fun u hu => ?_)
        obtain ⟨r_2, rfl⟩ : ∃ z, z = u := ⟨_, rfl⟩
        have h3 : r_2 = ((m 1) g) := hu.trans (by rw [show (nI g) = nI g from rfl]; exact atv_n (by omega) (by decide))
        subst h3
        show Go E Q 3 0 0 20 [(0, .ref (a 0)), (1, .int z), (2, .int (nI g))] [.int ((m 1) g)] (millW cI a m)
        refine g_if_le hE 29 dX0_load_20 (by decide) (fun c4 => ?_) (fun c4 => ?_)
        · refine g_iinc hE dX0_load_29 2 (nI (g + 1)) [(2, .int (nI (g + 1))), (0, .ref (a 0)), (1, .int z)] rfl (nI_1 _) (by decide) rfl ?_
          refine g_goto hE 4 dX0_load_32 (by decide) ?_
          refine g_locals [1, 2, 0] [(0, .ref (a 0)), (1, .int z), (2, .int (nI (g + 1)))] rfl ?_
          exact ih_4 (g + 1) z (by first | assumption | omega) (by first | exact ldS_y hz (by omega) (Int32.not_le.mp (by assumption)) | exact ldS_n hz (Int32.not_lt.mpr (by assumption))) (by omega)
        · refine g_iload_n hE dX0_load_23 1 rfl ?_
          refine g_iconst hE dX0_load_24 1 (by decide) ?_
          refine g_iload_n hE dX0_load_25 2 rfl ?_
          refine g_ishl hE dX0_load_26 ?_
          refine g_ior hE dX0_load_27 ?_
          refine g_istore_n hE dX0_load_28 [(1, .int (z ||| (1 <<< ((nI g) &&& 31)))), (0, .ref (a 0)), (2, .int (nI g))] rfl (by decide) rfl ?_
          refine g_iinc hE dX0_load_29 2 (nI (g + 1)) [(2, .int (nI (g + 1))), (1, .int (z ||| (1 <<< ((nI g) &&& 31)))), (0, .ref (a 0))] rfl (nI_1 _) (by decide) rfl ?_
          refine g_goto hE 4 dX0_load_32 (by decide) ?_
          refine g_locals [2, 1, 0] [(0, .ref (a 0)), (1, .int (z ||| (1 <<< ((nI g) &&& 31)))), (2, .int (nI (g + 1)))] rfl ?_
          exact ih_4 (g + 1) (z ||| (1 <<< ((nI g) &&& 31))) (by first | assumption | omega) (by first | exact ldS_y hz (by omega) (Int32.not_le.mp (by assumption)) | exact ldS_n hz (Int32.not_lt.mpr (by assumption))) (by omega)
  refine g_locals [2, 1, 0] [(0, .ref (a 0)), (1, .int 0), (2, .int 0)] rfl ?_
  exact L4 _ 0 0 (Nat.zero_le _) rfl (Nat.lt_succ_self _)
