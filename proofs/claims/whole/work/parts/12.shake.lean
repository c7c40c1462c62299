/-! the mill: a shaking -/
def shS (m : Nat → Nat → Int32) (n : Nat) (row : Nat → Int32) : Nat → (Nat → Nat → Int32) × Nat × Int32
  | 0 => (m, ldS m n, 0)
  | k + 1 => (if fallS (shS m n row k).1 n (row k) (shS m n row k).2.1 = 0 then (shS m n row k).1 else widS (shS m n row k).1 (row k), fallS (shS m n row k).1 n (row k) (shS m n row k).2.1, (shS m n row k).2.2 + wS m n (nd (shS m n row k).2.1 (fallS (shS m n row k).1 n (row k) (shS m n row k).2.1)))
def shkS (q : Nat → Nat → Int32) : Nat → Nat → Int32 := pA q 9 (upd (q 9) 3 (if 1000000 < (q 9 3 + 1) then 1000000 else (q 9 3 + 1)))
def shM (m : Nat → Nat → Int32) (n : Nat) (row : Nat → Int32) (l : Nat) : Nat → Nat → Int32 := shkS (shS m n row l).1
def shV (m : Nat → Nat → Int32) (n : Nat) (row : Nat → Int32) (l : Nat) : Int32 := (shS m n row l).2.2 + wS m n (shS m n row l).2.1
theorem shS_lt {m : Nat → Nat → Int32} {n : Nat} {row : Nat → Int32} (hn : n ≤ 6) : ∀ k, (shS m n row k).2.1 < 64
  | 0 => bs_lt64 _ hn
  | k + 1 => fallS_lt hn (shS_lt hn k)
/-- only meshes change -/
theorem shS_off {m : Nat → Nat → Int32} {n : Nat} {row : Nat → Int32} {j : Nat} (hj : Nat.beq j 4 = false) : ∀ k, (shS m n row k).1 j = m j
  | 0 => rfl
  | k + 1 => by
    rw [shS]
    split
    · exact shS_off hj k
    · show pA _ 4 _ j = m j
      unfold pA
      rw [hj]
      exact shS_off hj k
theorem shS_keep {m : Nat → Nat → Int32} {n : Nat} {row : Nat → Int32} (k : Nat) : (shS m n row k).1 1 = m 1 ∧ (shS m n row k).1 2 = m 2 ∧ (shS m n row k).1 7 = m 7 ∧ (shS m n row k).1 9 = m 9 := ⟨shS_off rfl k, shS_off rfl k, shS_off rfl k, shS_off rfl k⟩
theorem shS_mw {m : Nat → Nat → Int32} {n sv pl : Nat} {row : Nat → Int32} (h : MW m n sv pl) (k : Nat) : MW (shS m n row k).1 n sv pl := by
  unfold MW
  rw [(shS_keep k).2.2.2]
  exact h
theorem sh1y {m mm : Nat → Nat → Int32} {n : Nat} {row : Nat → Int32} {k : Nat} {r : Int32} (hmm : mm = (shS m n row k).1) (hr : r = row k) (h : ¬ nI (fallS mm n r (shS m n row k).2.1) = 0) : widS mm r = (shS m n row (k + 1)).1 := by
  subst hmm; subst hr
  rw [shS, if_neg]
  intro q
  exact h (by rw [q]; rfl)
theorem sh1n {m mm : Nat → Nat → Int32} {n : Nat} {row : Nat → Int32} {k : Nat} {r : Int32} (hn : n ≤ 6) (hmm : mm = (shS m n row k).1) (hr : r = row k) (h : nI (fallS mm n r (shS m n row k).2.1) = 0) : mm = (shS m n row (k + 1)).1 := by
  subst hmm; subst hr
  rw [shS, if_pos]
  have h1 := fallS_lt (m := (shS m n row k).1) (s := row k) hn (shS_lt (m := m) (row := row) hn k)
  exact (nI_eq (b := 0) (by omega) (by decide)).mp h
theorem sh2 {m mm : Nat → Nat → Int32} {n : Nat} {row : Nat → Int32} {k : Nat} {r : Int32} (hmm : mm = (shS m n row k).1) (hr : r = row k) : nI (fallS mm n r (shS m n row k).2.1) = nI (shS m n row (k + 1)).2.1 := by
  subst hmm; subst hr; rfl
theorem sh3 {m mm : Nat → Nat → Int32} {n : Nat} {row : Nat → Int32} {k : Nat} {r y : Int32} (hmm : mm = (shS m n row k).1) (h1 : mm 1 = m 1) (h2 : mm 2 = m 2) (hr : r = row k) (hy : y = (shS m n row k).2.2) : y + wS mm n (nd (shS m n row k).2.1 (fallS mm n r (shS m n row k).2.1)) = (shS m n row (k + 1)).2.2 := by
  have e : ∀ s, wS mm n s = wS m n s := fun s => by unfold wS; rw [h1, h2]
  rw [e, hy]
  subst hmm; subst hr; rfl
set_option maxHeartbeats 4000000 in
set_option maxRecDepth 100000 in
theorem c_X0_shakeThrough (cI cS : ClassId) (a : Nat → Nat) (m : Nat → Nat → Int32) {n sv pl : Nat} (hM : MW m n sv pl) (x : Int32) (l : Nat) (hx : x = nI l) (hl : l ≤ 6) : CT cI cS yX0_shakeThrough cX0_shakeThrough 8 (some .int) 4 [.ref (a 0), .ref (a 8), .int x] (millW cI a m) 0 0 (fun u : Int32 => u = shV m n (m 7) l) (fun u => some (.int u)) (fun u => (millW cI a (shM m n (m 7) l))) := by
  refine ct_intro (by decide) (Nat.le_of_ble_eq_true rfl) (fun E Q hE hQ hI => ?_)
  have hE : CxOk E cI cS RX0 cX0_shakeThrough 8 (some .int) 4 0 0 := hE
  show Go E Q 8 0 0 0 [(0, .ref (a 0)), (1, .ref (a 8)), (2, .int x)] [] (millW cI a m)
  have hn := hM.1
  have hn6 := hM.2.1
  have hsv := hM.2.2.1
  have hsv8 := hM.2.2.2.1
  have hpl := hM.2.2.2.2.1
  have hpl6 := hM.2.2.2.2.2
  refine g_aload_n hE dX0_shakeThrough_0 0 rfl ?_
  refine g_callV hE (c_X0_load cI cS a m (by first | assumption | exact mw_of (by assumption))) mk_X0_load mv_X0_load ml_X0_94 dX0_shakeThrough_1 (As := []) (rest := []) rfl rfl 0 rfl (show vwCl[0]? = some (RX0, TX0, 13) from rfl) (by decide) (by decide) (Nat.le_of_ble_eq_true rfl) (by decide) (by decide) [0, 1, 2, 3, 4, 5, 6, 7, 8, 9] rfl (by decide) (fun u => Nat.le_of_ble_eq_true rfl) (ws' := fun u => millW cI a m) (fun u => rfl) (fun u hu => ?_)
  obtain ⟨r_1, rfl⟩ : ∃ z, z = u := ⟨_, rfl⟩
  have h2 : r_1 = (nI (ldS m n)) := hu
  subst h2
  show Go E Q 8 0 0 4 [(0, .ref (a 0)), (1, .ref (a 8)), (2, .int x)] [.int (nI (ldS m n))] (millW cI a m)
  refine g_istore_n hE dX0_shakeThrough_4 [(3, .int (nI (ldS m n))), (0, .ref (a 0)), (1, .ref (a 8)), (2, .int x)] rfl (by decide) rfl ?_
  refine g_iconst hE dX0_shakeThrough_5 0 (by decide) ?_
  refine g_istore hE dX0_shakeThrough_6 [(4, .int 0), (3, .int (nI (ldS m n))), (0, .ref (a 0)), (1, .ref (a 8)), (2, .int x)] (by decide) rfl ?_
  refine g_iconst hE dX0_shakeThrough_8 0 (by decide) ?_
  refine g_istore hE dX0_shakeThrough_9 [(5, .int 0), (4, .int 0), (3, .int (nI (ldS m n))), (0, .ref (a 0)), (1, .ref (a 8)), (2, .int x)] (by decide) rfl ?_
  have L11 : ∀ (n_11 : Nat) (k : Nat) (mm : Nat → Nat → Int32) (z : Int32) (y : Int32), (k ≤ l) → (mm = (shS m n (m 7) k).1) → (z = nI (shS m n (m 7) k).2.1) → (y = (shS m n (m 7) k).2.2) → (l - k < n_11) → Go E Q 8 0 0 11 [(0, .ref (a 0)), (1, .ref (a 8)), (2, .int x), (3, .int z), (4, .int y), (5, .int (nI k))] [] (millW cI a mm) := by
    intro n_11
    induction n_11 with
    | zero => intro k mm z y hk hmm hz hy hm_11; exact absurd hm_11 (Nat.not_lt_zero _)
    | succ n_11 ih_11 =>
      intro k mm z y hk hmm hz hy hm_11
      have hMM : MW mm n sv pl := by rw [hmm]; exact shS_mw hM k
      have hcm : (shS m n (m 7) k).2.1 < 64 := shS_lt hn6 k
      have hf1 : mm 1 = m 1 := by rw [hmm]; exact (shS_keep k).1
      have hf2 : mm 2 = m 2 := by rw [hmm]; exact (shS_keep k).2.1
      have hf7 : mm 7 = m 7 := by rw [hmm]; exact (shS_keep k).2.2.1
      refine g_iload hE dX0_shakeThrough_11 5 rfl ?_
      refine g_iload_n hE dX0_shakeThrough_13 2 rfl ?_
      refine g_icmp_ge hE 69 dX0_shakeThrough_14 (by decide) (fun c3 => ?_) (fun c3 => ?_)
      · have kc3 := nat_le_t (show x = nI l from hx) (show (nI k) = nI k from rfl) (by omega) (by omega) c3
        refine g_aload_n hE dX0_shakeThrough_69 0 rfl ?_
        refine g_aload_n hE dX0_shakeThrough_70 0 rfl ?_
        refine g_get hE fl_X0_71 dX0_shakeThrough_71 0 rfl rfl ?_
        refine g_iconst hE dX0_shakeThrough_74 1 (by decide) ?_
        refine g_iadd hE dX0_shakeThrough_75 ?_
        refine g_ldc hE dX0_shakeThrough_76 ck_X0_108 ?_
        refine g_min hE (by decide) (by decide) (by decide) ml_X0_74 mi_st mi_in mi_co dX0_shakeThrough_78 (Nat.le_of_ble_eq_true rfl) ?_
        refine g_put hE fl_X0_71 fp_0_3 dX0_shakeThrough_81 0 rfl rfl rfl (Nat.le_of_ble_eq_true rfl) (millW cI a (pA mm 9 (upd (mm 9) 3 (if 1000000 < ((mm 9 3) + 1) then 1000000 else ((mm 9 3) + 1))))) (by rfl) ?_
        refine g_iload hE dX0_shakeThrough_84 4 rfl ?_
        refine g_aload_n hE dX0_shakeThrough_86 0 rfl ?_
        refine g_iload_n hE dX0_shakeThrough_87 3 rfl ?_
        refine g_callV hE (c_X0_worth cI cS a (pA mm 9 (upd (mm 9) 3 (if 1000000 < ((mm 9 3) + 1) then 1000000 else ((mm 9 3) + 1)))) (by first | assumption | exact mw_of (by assumption)) z ((shS m n (m 7) k).2.1) (show z = nI ((shS m n (m 7) k).2.1) from hz) (by first | assumption | exact bs_lt64 _ (by assumption) | exact fallS_lt (by assumption) (by assumption) | exact nd_lt (by assumption) (by assumption) | exact nd_lt (by assumption) (fallS_lt (by assumption) (by assumption)) | exact nd_lt (by assumption) (bs_lt64 _ (by assumption)) | exact and_lt (by assumption) (by assumption) | exact hpS_lt (by assumption) | decide)) mk_X0_worth mv_X0_worth ml_X0_101 dX0_shakeThrough_88 (As := [.int z]) (rest := [.int y]) rfl rfl 0 rfl (show vwCl[0]? = some (RX0, TX0, 13) from rfl) (by decide) (by decide) (Nat.le_of_ble_eq_true rfl) (by decide) (by decide) [0, 1, 2, 3, 4, 5, 6, 7, 8, 9] rfl (by decide) (fun u => Nat.le_of_ble_eq_true rfl) (ws' := fun u => millW cI a (pA mm 9 (upd (mm 9) 3 (if 1000000 < ((mm 9 3) + 1) then 1000000 else ((mm 9 3) + 1))))) (fun u => rfl) (fun u hu => ?_)
        obtain ⟨r_4, rfl⟩ : ∃ z, z = u := ⟨_, rfl⟩
        have h5 : r_4 = (wS mm n ((shS m n (m 7) k).2.1)) := hu
        subst h5
        show Go E Q 8 0 0 91 [(0, .ref (a 0)), (1, .ref (a 8)), (2, .int x), (3, .int z), (4, .int y), (5, .int (nI k))] [.int (wS mm n ((shS m n (m 7) k).2.1)), .int y] (millW cI a (pA mm 9 (upd (mm 9) 3 (if 1000000 < ((mm 9 3) + 1) then 1000000 else ((mm 9 3) + 1)))))
        refine g_iadd hE dX0_shakeThrough_91 ?_
        refine g_world (millW cI a (shM m n (m 7) l)) (by rw [shM, ← (show k = l by omega), ← hmm]; rfl) ?_
        exact g_iret hE hQ dX0_shakeThrough_92 rfl (y + (wS mm n ((shS m n (m 7) k).2.1))) rfl rfl (by rw [hy, show l = k by omega, shV, wS, hf1, hf2]; rfl)
      · have kc3 := nat_le_f (show x = nI l from hx) (show (nI k) = nI k from rfl) (by omega) (by omega) c3
        refine g_aload_n hE dX0_shakeThrough_17 1 rfl ?_
        refine g_iload hE dX0_shakeThrough_18 5 rfl ?_
        refine g_callSN hE (c_X4_at cI cS (a 8) 6 (mm 7) (nI k) (by decide)) mk_X4_at st_X4_at nl_X0_49 dX0_shakeThrough_20 (As := [.ref (a 8), .int (nI k)]) (rest := []) rfl rfl (by decide) (by decide) (Nat.le_of_ble_eq_true rfl) (by decide) (by decide) [8] rfl (by decide) (fun u => Nat.le_of_ble_eq_true rfl) (ws' := fun u => millW cI a mm) (fun u => rfl) (fun u hu => ?_)
        obtain ⟨r_6, rfl⟩ : ∃ z, z = u := ⟨_, rfl⟩
        have h7 : r_6 = ((mm 7) k) := hu.trans (by rw [show (nI k) = nI k from rfl]; exact atv_n (by omega) (by decide))
        subst h7
        show Go E Q 8 0 0 23 [(0, .ref (a 0)), (1, .ref (a 8)), (2, .int x), (3, .int z), (4, .int y), (5, .int (nI k))] [.int ((mm 7) k)] (millW cI a mm)
        refine g_istore hE dX0_shakeThrough_23 [(6, .int ((mm 7) k)), (0, .ref (a 0)), (1, .ref (a 8)), (2, .int x), (3, .int z), (4, .int y), (5, .int (nI k))] (by decide) rfl ?_
        refine g_aload_n hE dX0_shakeThrough_25 1 rfl ?_
        refine g_iload hE dX0_shakeThrough_26 0 rfl ?_
        refine g_iload_n hE dX0_shakeThrough_28 4 rfl ?_
        refine g_callV hE (c_X0_falling cI cS a mm (by first | assumption | exact mw_of (by assumption)) ((mm 7) k) z ((shS m n (m 7) k).2.1) (show z = nI ((shS m n (m 7) k).2.1) from hz) (by first | assumption | exact bs_lt64 _ (by assumption) | exact fallS_lt (by assumption) (by assumption) | exact nd_lt (by assumption) (by assumption) | exact nd_lt (by assumption) (fallS_lt (by assumption) (by assumption)) | exact nd_lt (by assumption) (bs_lt64 _ (by assumption)) | exact and_lt (by assumption) (by assumption) | exact hpS_lt (by assumption) | decide)) mk_X0_falling mv_X0_falling ml_X0_98 dX0_shakeThrough_29 (As := [.int ((mm 7) k), .int z]) (rest := []) rfl rfl 0 rfl (show vwCl[0]? = some (RX0, TX0, 13) from rfl) (by decide) (by decide) (Nat.le_of_ble_eq_true rfl) (by decide) (by decide) [0, 1, 2, 3, 4, 5, 6, 7, 8, 9] rfl (by decide) (fun u => Nat.le_of_ble_eq_true rfl) (ws' := fun u => millW cI a mm) (fun u => rfl) (fun u hu => ?_)
        obtain ⟨r_8, rfl⟩ : ∃ z, z = u := ⟨_, rfl⟩
        have h9 : r_8 = (nI (fallS mm n ((mm 7) k) ((shS m n (m 7) k).2.1))) := hu
        subst h9
        show Go E Q 8 0 0 32 [(6, .int ((mm 7) k)), (0, .ref (a 0)), (1, .ref (a 8)), (2, .int x), (3, .int z), (4, .int y), (5, .int (nI k))] [.int (nI (fallS mm n ((mm 7) k) ((shS m n (m 7) k).2.1)))] (millW cI a mm)
        refine g_istore hE dX0_shakeThrough_32 [(7, .int (nI (fallS mm n ((mm 7) k) ((shS m n (m 7) k).2.1)))), (6, .int ((mm 7) k)), (0, .ref (a 0)), (1, .ref (a 8)), (2, .int x), (3, .int z), (4, .int y), (5, .int (nI k))] (by decide) rfl ?_
        refine g_iload hE dX0_shakeThrough_34 6 rfl ?_
        refine g_aload_n hE dX0_shakeThrough_36 2 rfl ?_
        refine g_iload_n hE dX0_shakeThrough_37 5 rfl ?_
        refine g_iload hE dX0_shakeThrough_38 0 rfl ?_
        refine g_iconst hE dX0_shakeThrough_40 (-1) (by decide) ?_
        refine g_ixor hE dX0_shakeThrough_41 ?_
        refine g_iand hE dX0_shakeThrough_42 ?_
        refine g_callV hE (c_X0_worth cI cS a mm (by first | assumption | exact mw_of (by assumption)) (z &&& ((nI (fallS mm n ((mm 7) k) ((shS m n (m 7) k).2.1))) ^^^ (-1))) (nd ((shS m n (m 7) k).2.1) (fallS mm n ((mm 7) k) ((shS m n (m 7) k).2.1))) (show (z &&& ((nI (fallS mm n ((mm 7) k) ((shS m n (m 7) k).2.1))) ^^^ (-1))) = nI (nd ((shS m n (m 7) k).2.1) (fallS mm n ((mm 7) k) ((shS m n (m 7) k).2.1))) from (nd_i (show z = nI ((shS m n (m 7) k).2.1) from hz) (show (nI (fallS mm n ((mm 7) k) ((shS m n (m 7) k).2.1))) = nI (fallS mm n ((mm 7) k) ((shS m n (m 7) k).2.1)) from rfl) (by first | assumption | exact bs_lt64 _ (by assumption) | exact fallS_lt (by assumption) (by assumption) | exact nd_lt (by assumption) (by assumption) | exact nd_lt (by assumption) (fallS_lt (by assumption) (by assumption)) | exact nd_lt (by assumption) (bs_lt64 _ (by assumption)) | exact and_lt (by assumption) (by assumption) | exact hpS_lt (by assumption) | decide) (by first | assumption | exact bs_lt64 _ (by assumption) | exact fallS_lt (by assumption) (by assumption) | exact nd_lt (by assumption) (by assumption) | exact nd_lt (by assumption) (fallS_lt (by assumption) (by assumption)) | exact nd_lt (by assumption) (bs_lt64 _ (by assumption)) | exact and_lt (by assumption) (by assumption) | exact hpS_lt (by assumption) | decide))) (by first | assumption | exact bs_lt64 _ (by assumption) | exact fallS_lt (by assumption) (by assumption) | exact nd_lt (by assumption) (by assumption) | exact nd_lt (by assumption) (fallS_lt (by assumption) (by assumption)) | exact nd_lt (by assumption) (bs_lt64 _ (by assumption)) | exact and_lt (by assumption) (by assumption) | exact hpS_lt (by assumption) | decide)) mk_X0_worth mv_X0_worth ml_X0_101 dX0_shakeThrough_43 (As := [.int (z &&& ((nI (fallS mm n ((mm 7) k) ((shS m n (m 7) k).2.1))) ^^^ (-1)))]) (rest := [.int y]) rfl rfl 0 rfl (show vwCl[0]? = some (RX0, TX0, 13) from rfl) (by decide) (by decide) (Nat.le_of_ble_eq_true rfl) (by decide) (by decide) [0, 1, 2, 3, 4, 5, 6, 7, 8, 9] rfl (by decide) (fun u => Nat.le_of_ble_eq_true rfl) (ws' := fun u => millW cI a mm) (fun u => rfl) (fun u hu => ?_)
        obtain ⟨r_10, rfl⟩ : ∃ z, z = u := ⟨_, rfl⟩
        have h11 : r_10 = (wS mm n (nd ((shS m n (m 7) k).2.1) (fallS mm n ((mm 7) k) ((shS m n (m 7) k).2.1)))) := hu
        subst h11
        show Go E Q 8 0 0 46 [(7, .int (nI (fallS mm n ((mm 7) k) ((shS m n (m 7) k).2.1)))), (6, .int ((mm 7) k)), (0, .ref (a 0)), (1, .ref (a 8)), (2, .int x), (3, .int z), (4, .int y), (5, .int (nI k))] [.int (wS mm n (nd ((shS m n (m 7) k).2.1) (fallS mm n ((mm 7) k) ((shS m n (m 7) k).2.1)))), .int y] (millW cI a mm)
        refine g_iadd hE dX0_shakeThrough_46 ?_
        refine g_istore hE dX0_shakeThrough_47 [(4, .int (y + (wS mm n (nd ((shS m n (m 7) k).2.1) (fallS mm n ((mm 7) k) ((shS m n (m 7) k).2.1)))))), (7, .int (nI (fallS mm n ((mm 7) k) ((shS m n (m 7) k).2.1)))), (6, .int ((mm 7) k)), (0, .ref (a 0)), (1, .ref (a 8)), (2, .int x), (3, .int z), (5, .int (nI k))] (by decide) rfl ?_
        refine g_iload hE dX0_shakeThrough_49 1 rfl ?_
        refine g_if_eq hE 60 dX0_shakeThrough_51 (by decide) (fun c12 => ?_) (fun c12 => ?_)
        · refine g_iload hE dX0_shakeThrough_60 1 rfl ?_
          refine g_istore_n hE dX0_shakeThrough_62 [(3, .int (nI (fallS mm n ((mm 7) k) ((shS m n (m 7) k).2.1)))), (4, .int (y + (wS mm n (nd ((shS m n (m 7) k).2.1) (fallS mm n ((mm 7) k) ((shS m n (m 7) k).2.1)))))), (7, .int (nI (fallS mm n ((mm 7) k) ((shS m n (m 7) k).2.1)))), (6, .int ((mm 7) k)), (0, .ref (a 0)), (1, .ref (a 8)), (2, .int x), (5, .int (nI k))] rfl (by decide) rfl ?_
          refine g_iinc hE dX0_shakeThrough_63 7 (nI (k + 1)) [(5, .int (nI (k + 1))), (3, .int (nI (fallS mm n ((mm 7) k) ((shS m n (m 7) k).2.1)))), (4, .int (y + (wS mm n (nd ((shS m n (m 7) k).2.1) (fallS mm n ((mm 7) k) ((shS m n (m 7) k).2.1)))))), (7, .int (nI (fallS mm n ((mm 7) k) ((shS m n (m 7) k).2.1)))), (6, .int ((mm 7) k)), (0, .ref (a 0)), (1, .ref (a 8)), (2, .int x)] rfl (nI_1 _) (by decide) rfl ?_
          refine g_goto hE 11 dX0_shakeThrough_66 (by decide) ?_
          refine g_locals [5, 6, 7, 1, 2, 0] [(0, .ref (a 0)), (1, .ref (a 8)), (2, .int x), (3, .int (nI (fallS mm n ((mm 7) k) ((shS m n (m 7) k).2.1)))), (4, .int (y + (wS mm n (nd ((shS m n (m 7) k).2.1) (fallS mm n ((mm 7) k) ((shS m n (m 7) k).2.1)))))), (5, .int (nI (k + 1)))] rfl ?_
          exact ih_11 (k + 1) mm (nI (fallS mm n ((mm 7) k) ((shS m n (m 7) k).2.1))) (y + (wS mm n (nd ((shS m n (m 7) k).2.1) (fallS mm n ((mm 7) k) ((shS m n (m 7) k).2.1))))) (by first | assumption | omega) (by first | exact sh1y hmm (congrFun hf7 k) (by assumption) | exact sh1n hn6 hmm (congrFun hf7 k) (by assumption)) (sh2 hmm (congrFun hf7 k)) (sh3 hmm hf1 hf2 (congrFun hf7 k) hy) (by omega)
        · refine g_aload_n hE dX0_shakeThrough_54 3 rfl ?_
          refine g_iload hE dX0_shakeThrough_55 2 rfl ?_
          refine g_callV hE (c_X0_widen cI cS a mm (by first | assumption | exact mw_of (by assumption)) ((mm 7) k)) mk_X0_widen mv_X0_widen ml_X0_104 dX0_shakeThrough_57 (As := [.int ((mm 7) k)]) (rest := []) rfl rfl 0 rfl (show vwCl[0]? = some (RX0, TX0, 13) from rfl) (by decide) (by decide) (Nat.le_of_ble_eq_true rfl) (by decide) (by decide) [0, 1, 2, 3, 4, 5, 6, 7, 8, 9] rfl (by decide) (fun u => Nat.le_of_ble_eq_true rfl) (ws' := fun u => millW cI a (widS mm ((mm 7) k))) (fun u => rfl) (fun u hu => ?_)
          show Go E Q 8 0 0 60 [(4, .int (y + (wS mm n (nd ((shS m n (m 7) k).2.1) (fallS mm n ((mm 7) k) ((shS m n (m 7) k).2.1)))))), (7, .int (nI (fallS mm n ((mm 7) k) ((shS m n (m 7) k).2.1)))), (6, .int ((mm 7) k)), (0, .ref (a 0)), (1, .ref (a 8)), (2, .int x), (3, .int z), (5, .int (nI k))] [] (millW cI a (widS mm ((mm 7) k)))
          refine g_iload hE dX0_shakeThrough_60 1 rfl ?_
          refine g_istore_n hE dX0_shakeThrough_62 [(3, .int (nI (fallS mm n ((mm 7) k) ((shS m n (m 7) k).2.1)))), (4, .int (y + (wS mm n (nd ((shS m n (m 7) k).2.1) (fallS mm n ((mm 7) k) ((shS m n (m 7) k).2.1)))))), (7, .int (nI (fallS mm n ((mm 7) k) ((shS m n (m 7) k).2.1)))), (6, .int ((mm 7) k)), (0, .ref (a 0)), (1, .ref (a 8)), (2, .int x), (5, .int (nI k))] rfl (by decide) rfl ?_
          refine g_iinc hE dX0_shakeThrough_63 7 (nI (k + 1)) [(5, .int (nI (k + 1))), (3, .int (nI (fallS mm n ((mm 7) k) ((shS m n (m 7) k).2.1)))), (4, .int (y + (wS mm n (nd ((shS m n (m 7) k).2.1) (fallS mm n ((mm 7) k) ((shS m n (m 7) k).2.1)))))), (7, .int (nI (fallS mm n ((mm 7) k) ((shS m n (m 7) k).2.1)))), (6, .int ((mm 7) k)), (0, .ref (a 0)), (1, .ref (a 8)), (2, .int x)] rfl (nI_1 _) (by decide) rfl ?_
          refine g_goto hE 11 dX0_shakeThrough_66 (by decide) ?_
          refine g_locals [5, 6, 7, 1, 2, 0] [(0, .ref (a 0)), (1, .ref (a 8)), (2, .int x), (3, .int (nI (fallS mm n ((mm 7) k) ((shS m n (m 7) k).2.1)))), (4, .int (y + (wS mm n (nd ((shS m n (m 7) k).2.1) (fallS mm n ((mm 7) k) ((shS m n (m 7) k).2.1)))))), (5, .int (nI (k + 1)))] rfl ?_
          exact ih_11 (k + 1) (widS mm ((mm 7) k)) (nI (fallS mm n ((mm 7) k) ((shS m n (m 7) k).2.1))) (y + (wS mm n (nd ((shS m n (m 7) k).2.1) (fallS mm n ((mm 7) k) ((shS m n (m 7) k).2.1))))) (by first | assumption | omega) (by first | exact sh1y hmm (congrFun hf7 k) (by assumption) | exact sh1n hn6 hmm (congrFun hf7 k) (by assumption)) (sh2 hmm (congrFun hf7 k)) (sh3 hmm hf1 hf2 (congrFun hf7 k) hy) (by omega)
  refine g_locals [3, 4, 5, 2, 1, 0] [(0, .ref (a 0)), (1, .ref (a 8)), (2, .int x), (3, .int (nI (ldS m n))), (4, .int 0), (5, .int 0)] rfl ?_
  exact L11 _ 0 m (nI (ldS m n)) 0 (Nat.zero_le _) rfl rfl rfl (Nat.lt_succ_self _)
set_option maxHeartbeats 4000000 in
set_option maxRecDepth 100000 in
theorem c_X0_shakeThrough_x (cI cS : ClassId) (a : Nat → Nat) (m : Nat → Nat → Int32) {n sv pl : Nat} (hM : MW m n sv pl) (q : Nat) (f : Nat → Int32) (x : Int32) (l : Nat) (hx : x = nI l) (hl : l ≤ 4) : CT cI cS yX0_shakeThrough cX0_shakeThrough 8 (some .int) 4 [.ref (a 0), .ref q, .int x] (millW cI a m ++ ([(q, .inl (cI, 4, .inl f))])) 0 0 (fun u : Int32 => u = shV m n f l) (fun u => some (.int u)) (fun u => (millW cI a (shM m n f l) ++ ([(q, .inl (cI, 4, .inl f))]))) := by
  refine ct_intro (by decide) (Nat.le_of_ble_eq_true rfl) (fun E Q hE hQ hI => ?_)
  have hE : CxOk E cI cS RX0 cX0_shakeThrough 8 (some .int) 4 0 0 := hE
  show Go E Q 8 0 0 0 [(0, .ref (a 0)), (1, .ref q), (2, .int x)] [] (millW cI a m ++ ([(q, .inl (cI, 4, .inl f))]))
  have hn := hM.1
  have hn6 := hM.2.1
  have hsv := hM.2.2.1
  have hsv8 := hM.2.2.2.1
  have hpl := hM.2.2.2.2.1
  have hpl6 := hM.2.2.2.2.2
  refine g_aload_n hE dX0_shakeThrough_0 0 rfl ?_
  refine g_callV hE (c_X0_load cI cS a m (by first | assumption | exact mw_of (by assumption))) mk_X0_load mv_X0_load ml_X0_94 dX0_shakeThrough_1 (As := []) (rest := []) rfl rfl 0 rfl (show vwCl[0]? = some (RX0, TX0, 13) from rfl) (by decide) (by decide) (Nat.le_of_ble_eq_true rfl) (by decide) (by decide) [0, 1, 2, 3, 4, 5, 6, 7, 8, 9] rfl (by decide) (fun u => Nat.le_of_ble_eq_true rfl) (ws' := fun u => millW cI a m ++ ([(q, .inl (cI, 4, .inl f))])) (fun u => rfl) (fun u hu => ?_)
  obtain ⟨r_1, rfl⟩ : ∃ z, z = u := ⟨_, rfl⟩
  have h2 : r_1 = (nI (ldS m n)) := hu
  subst h2
  show Go E Q 8 0 0 4 [(0, .ref (a 0)), (1, .ref q), (2, .int x)] [.int (nI (ldS m n))] (millW cI a m ++ ([(q, .inl (cI, 4, .inl f))]))
  refine g_istore_n hE dX0_shakeThrough_4 [(3, .int (nI (ldS m n))), (0, .ref (a 0)), (1, .ref q), (2, .int x)] rfl (by decide) rfl ?_
  refine g_iconst hE dX0_shakeThrough_5 0 (by decide) ?_
  refine g_istore hE dX0_shakeThrough_6 [(4, .int 0), (3, .int (nI (ldS m n))), (0, .ref (a 0)), (1, .ref q), (2, .int x)] (by decide) rfl ?_
  refine g_iconst hE dX0_shakeThrough_8 0 (by decide) ?_
  refine g_istore hE dX0_shakeThrough_9 [(5, .int 0), (4, .int 0), (3, .int (nI (ldS m n))), (0, .ref (a 0)), (1, .ref q), (2, .int x)] (by decide) rfl ?_
  have L11 : ∀ (n_11 : Nat) (k : Nat) (mm : Nat → Nat → Int32) (z : Int32) (y : Int32), (k ≤ l) → (mm = (shS m n f k).1) → (z = nI (shS m n f k).2.1) → (y = (shS m n f k).2.2) → (l - k < n_11) → Go E Q 8 0 0 11 [(0, .ref (a 0)), (1, .ref q), (2, .int x), (3, .int z), (4, .int y), (5, .int (nI k))] [] (millW cI a mm ++ ([(q, .inl (cI, 4, .inl f))])) := by
    intro n_11
    induction n_11 with
    | zero => intro k mm z y hk hmm hz hy hm_11; exact absurd hm_11 (Nat.not_lt_zero _)
    | succ n_11 ih_11 =>
      intro k mm z y hk hmm hz hy hm_11
      have hMM : MW mm n sv pl := by rw [hmm]; exact shS_mw hM k
      have hcm : (shS m n f k).2.1 < 64 := shS_lt hn6 k
      have hf1 : mm 1 = m 1 := by rw [hmm]; exact (shS_keep k).1
      have hf2 : mm 2 = m 2 := by rw [hmm]; exact (shS_keep k).2.1
      refine g_iload hE dX0_shakeThrough_11 5 rfl ?_
      refine g_iload_n hE dX0_shakeThrough_13 2 rfl ?_
      refine g_icmp_ge hE 69 dX0_shakeThrough_14 (by decide) (fun c3 => ?_) (fun c3 => ?_)
      · have kc3 := nat_le_t (show x = nI l from hx) (show (nI k) = nI k from rfl) (by omega) (by omega) c3
        refine g_aload_n hE dX0_shakeThrough_69 0 rfl ?_
        refine g_aload_n hE dX0_shakeThrough_70 0 rfl ?_
        refine g_get hE fl_X0_71 dX0_shakeThrough_71 0 rfl rfl ?_
        refine g_iconst hE dX0_shakeThrough_74 1 (by decide) ?_
        refine g_iadd hE dX0_shakeThrough_75 ?_
        refine g_ldc hE dX0_shakeThrough_76 ck_X0_108 ?_
        refine g_min hE (by decide) (by decide) (by decide) ml_X0_74 mi_st mi_in mi_co dX0_shakeThrough_78 (Nat.le_of_ble_eq_true rfl) ?_
        refine g_put hE fl_X0_71 fp_0_3 dX0_shakeThrough_81 0 rfl rfl rfl (Nat.le_of_ble_eq_true rfl) (millW cI a (pA mm 9 (upd (mm 9) 3 (if 1000000 < ((mm 9 3) + 1) then 1000000 else ((mm 9 3) + 1)))) ++ ([(q, .inl (cI, 4, .inl f))])) (by rfl) ?_
        refine g_iload hE dX0_shakeThrough_84 4 rfl ?_
        refine g_aload_n hE dX0_shakeThrough_86 0 rfl ?_
        refine g_iload_n hE dX0_shakeThrough_87 3 rfl ?_
        refine g_callV hE (c_X0_worth cI cS a (pA mm 9 (upd (mm 9) 3 (if 1000000 < ((mm 9 3) + 1) then 1000000 else ((mm 9 3) + 1)))) (by first | assumption | exact mw_of (by assumption)) z ((shS m n f k).2.1) (show z = nI ((shS m n f k).2.1) from hz) (by first | assumption | exact bs_lt64 _ (by assumption) | exact fallS_lt (by assumption) (by assumption) | exact nd_lt (by assumption) (by assumption) | exact nd_lt (by assumption) (fallS_lt (by assumption) (by assumption)) | exact nd_lt (by assumption) (bs_lt64 _ (by assumption)) | exact and_lt (by assumption) (by assumption) | exact hpS_lt (by assumption) | decide)) mk_X0_worth mv_X0_worth ml_X0_101 dX0_shakeThrough_88 (As := [.int z]) (rest := [.int y]) rfl rfl 0 rfl (show vwCl[0]? = some (RX0, TX0, 13) from rfl) (by decide) (by decide) (Nat.le_of_ble_eq_true rfl) (by decide) (by decide) [0, 1, 2, 3, 4, 5, 6, 7, 8, 9] rfl (by decide) (fun u => Nat.le_of_ble_eq_true rfl) (ws' := fun u => millW cI a (pA mm 9 (upd (mm 9) 3 (if 1000000 < ((mm 9 3) + 1) then 1000000 else ((mm 9 3) + 1)))) ++ ([(q, .inl (cI, 4, .inl f))])) (fun u => rfl) (fun u hu => ?_)
        obtain ⟨r_4, rfl⟩ : ∃ z, z = u := ⟨_, rfl⟩
        have h5 : r_4 = (wS mm n ((shS m n f k).2.1)) := hu
        subst h5
        show Go E Q 8 0 0 91 [(0, .ref (a 0)), (1, .ref q), (2, .int x), (3, .int z), (4, .int y), (5, .int (nI k))] [.int (wS mm n ((shS m n f k).2.1)), .int y] (millW cI a (pA mm 9 (upd (mm 9) 3 (if 1000000 < ((mm 9 3) + 1) then 1000000 else ((mm 9 3) + 1)))) ++ ([(q, .inl (cI, 4, .inl f))]))
        refine g_iadd hE dX0_shakeThrough_91 ?_
        refine g_world (millW cI a (shM m n f l) ++ ([(q, .inl (cI, 4, .inl f))])) (by rw [shM, ← (show k = l by omega), ← hmm]; rfl) ?_
        exact g_iret hE hQ dX0_shakeThrough_92 rfl (y + (wS mm n ((shS m n f k).2.1))) rfl rfl (by rw [hy, show l = k by omega, shV, wS, hf1, hf2]; rfl)
      · have kc3 := nat_le_f (show x = nI l from hx) (show (nI k) = nI k from rfl) (by omega) (by omega) c3
        refine g_aload_n hE dX0_shakeThrough_17 1 rfl ?_
        refine g_iload hE dX0_shakeThrough_18 5 rfl ?_
        refine g_callSN hE (c_X4_at cI cS q 4 f (nI k) (by decide)) mk_X4_at st_X4_at nl_X0_49 dX0_shakeThrough_20 (As := [.ref q, .int (nI k)]) (rest := []) rfl rfl (by decide) (by decide) (Nat.le_of_ble_eq_true rfl) (by decide) (by decide) [10] rfl (by decide) (fun u => Nat.le_of_ble_eq_true rfl) (ws' := fun u => millW cI a mm ++ ([(q, .inl (cI, 4, .inl f))])) (fun u => rfl) (fun u hu => ?_)
        obtain ⟨r_6, rfl⟩ : ∃ z, z = u := ⟨_, rfl⟩
        have h7 : r_6 = (f k) := hu.trans (by rw [show (nI k) = nI k from rfl]; exact atv_n (by omega) (by decide))
        subst h7
        show Go E Q 8 0 0 23 [(0, .ref (a 0)), (1, .ref q), (2, .int x), (3, .int z), (4, .int y), (5, .int (nI k))] [.int (f k)] (millW cI a mm ++ ([(q, .inl (cI, 4, .inl f))]))
        refine g_istore hE dX0_shakeThrough_23 [(6, .int (f k)), (0, .ref (a 0)), (1, .ref q), (2, .int x), (3, .int z), (4, .int y), (5, .int (nI k))] (by decide) rfl ?_
        refine g_aload_n hE dX0_shakeThrough_25 1 rfl ?_
        refine g_iload hE dX0_shakeThrough_26 0 rfl ?_
        refine g_iload_n hE dX0_shakeThrough_28 4 rfl ?_
        refine g_callV hE (c_X0_falling cI cS a mm (by first | assumption | exact mw_of (by assumption)) (f k) z ((shS m n f k).2.1) (show z = nI ((shS m n f k).2.1) from hz) (by first | assumption | exact bs_lt64 _ (by assumption) | exact fallS_lt (by assumption) (by assumption) | exact nd_lt (by assumption) (by assumption) | exact nd_lt (by assumption) (fallS_lt (by assumption) (by assumption)) | exact nd_lt (by assumption) (bs_lt64 _ (by assumption)) | exact and_lt (by assumption) (by assumption) | exact hpS_lt (by assumption) | decide)) mk_X0_falling mv_X0_falling ml_X0_98 dX0_shakeThrough_29 (As := [.int (f k), .int z]) (rest := []) rfl rfl 0 rfl (show vwCl[0]? = some (RX0, TX0, 13) from rfl) (by decide) (by decide) (Nat.le_of_ble_eq_true rfl) (by decide) (by decide) [0, 1, 2, 3, 4, 5, 6, 7, 8, 9] rfl (by decide) (fun u => Nat.le_of_ble_eq_true rfl) (ws' := fun u => millW cI a mm ++ ([(q, .inl (cI, 4, .inl f))])) (fun u => rfl) (fun u hu => ?_)
        obtain ⟨r_8, rfl⟩ : ∃ z, z = u := ⟨_, rfl⟩
        have h9 : r_8 = (nI (fallS mm n (f k) ((shS m n f k).2.1))) := hu
        subst h9
        show Go E Q 8 0 0 32 [(6, .int (f k)), (0, .ref (a 0)), (1, .ref q), (2, .int x), (3, .int z), (4, .int y), (5, .int (nI k))] [.int (nI (fallS mm n (f k) ((shS m n f k).2.1)))] (millW cI a mm ++ ([(q, .inl (cI, 4, .inl f))]))
        refine g_istore hE dX0_shakeThrough_32 [(7, .int (nI (fallS mm n (f k) ((shS m n f k).2.1)))), (6, .int (f k)), (0, .ref (a 0)), (1, .ref q), (2, .int x), (3, .int z), (4, .int y), (5, .int (nI k))] (by decide) rfl ?_
        refine g_iload hE dX0_shakeThrough_34 6 rfl ?_
        refine g_aload_n hE dX0_shakeThrough_36 2 rfl ?_
        refine g_iload_n hE dX0_shakeThrough_37 5 rfl ?_
        refine g_iload hE dX0_shakeThrough_38 0 rfl ?_
        refine g_iconst hE dX0_shakeThrough_40 (-1) (by decide) ?_
        refine g_ixor hE dX0_shakeThrough_41 ?_
        refine g_iand hE dX0_shakeThrough_42 ?_
        refine g_callV hE (c_X0_worth cI cS a mm (by first | assumption | exact mw_of (by assumption)) (z &&& ((nI (fallS mm n (f k) ((shS m n f k).2.1))) ^^^ (-1))) (nd ((shS m n f k).2.1) (fallS mm n (f k) ((shS m n f k).2.1))) (show (z &&& ((nI (fallS mm n (f k) ((shS m n f k).2.1))) ^^^ (-1))) = nI (nd ((shS m n f k).2.1) (fallS mm n (f k) ((shS m n f k).2.1))) from (nd_i (show z = nI ((shS m n f k).2.1) from hz) (show (nI (fallS mm n (f k) ((shS m n f k).2.1))) = nI (fallS mm n (f k) ((shS m n f k).2.1)) from rfl) (by first | assumption | exact bs_lt64 _ (by assumption) | exact fallS_lt (by assumption) (by assumption) | exact nd_lt (by assumption) (by assumption) | exact nd_lt (by assumption) (fallS_lt (by assumption) (by assumption)) | exact nd_lt (by assumption) (bs_lt64 _ (by assumption)) | exact and_lt (by assumption) (by assumption) | exact hpS_lt (by assumption) | decide) (by first | assumption | exact bs_lt64 _ (by assumption) | exact fallS_lt (by assumption) (by assumption) | exact nd_lt (by assumption) (by assumption) | exact nd_lt (by assumption) (fallS_lt (by assumption) (by assumption)) | exact nd_lt (by assumption) (bs_lt64 _ (by assumption)) | exact and_lt (by assumption) (by assumption) | exact hpS_lt (by assumption) | decide))) (by first | assumption | exact bs_lt64 _ (by assumption) | exact fallS_lt (by assumption) (by assumption) | exact nd_lt (by assumption) (by assumption) | exact nd_lt (by assumption) (fallS_lt (by assumption) (by assumption)) | exact nd_lt (by assumption) (bs_lt64 _ (by assumption)) | exact and_lt (by assumption) (by assumption) | exact hpS_lt (by assumption) | decide)) mk_X0_worth mv_X0_worth ml_X0_101 dX0_shakeThrough_43 (As := [.int (z &&& ((nI (fallS mm n (f k) ((shS m n f k).2.1))) ^^^ (-1)))]) (rest := [.int y]) rfl rfl 0 rfl (show vwCl[0]? = some (RX0, TX0, 13) from rfl) (by decide) (by decide) (Nat.le_of_ble_eq_true rfl) (by decide) (by decide) [0, 1, 2, 3, 4, 5, 6, 7, 8, 9] rfl (by decide) (fun u => Nat.le_of_ble_eq_true rfl) (ws' := fun u => millW cI a mm ++ ([(q, .inl (cI, 4, .inl f))])) (fun u => rfl) (fun u hu => ?_)
        obtain ⟨r_10, rfl⟩ : ∃ z, z = u := ⟨_, rfl⟩
        have h11 : r_10 = (wS mm n (nd ((shS m n f k).2.1) (fallS mm n (f k) ((shS m n f k).2.1)))) := hu
        subst h11
        show Go E Q 8 0 0 46 [(7, .int (nI (fallS mm n (f k) ((shS m n f k).2.1)))), (6, .int (f k)), (0, .ref (a 0)), (1, .ref q), (2, .int x), (3, .int z), (4, .int y), (5, .int (nI k))] [.int (wS mm n (nd ((shS m n f k).2.1) (fallS mm n (f k) ((shS m n f k).2.1)))), .int y] (millW cI a mm ++ ([(q, .inl (cI, 4, .inl f))]))
        refine g_iadd hE dX0_shakeThrough_46 ?_
        refine g_istore hE dX0_shakeThrough_47 [(4, .int (y + (wS mm n (nd ((shS m n f k).2.1) (fallS mm n (f k) ((shS m n f k).2.1)))))), (7, .int (nI (fallS mm n (f k) ((shS m n f k).2.1)))), (6, .int (f k)), (0, .ref (a 0)), (1, .ref q), (2, .int x), (3, .int z), (5, .int (nI k))] (by decide) rfl ?_
        refine g_iload hE dX0_shakeThrough_49 1 rfl ?_
        refine g_if_eq hE 60 dX0_shakeThrough_51 (by decide) (fun c12 => ?_) (fun c12 => ?_)
        · refine g_iload hE dX0_shakeThrough_60 1 rfl ?_
          refine g_istore_n hE dX0_shakeThrough_62 [(3, .int (nI (fallS mm n (f k) ((shS m n f k).2.1)))), (4, .int (y + (wS mm n (nd ((shS m n f k).2.1) (fallS mm n (f k) ((shS m n f k).2.1)))))), (7, .int (nI (fallS mm n (f k) ((shS m n f k).2.1)))), (6, .int (f k)), (0, .ref (a 0)), (1, .ref q), (2, .int x), (5, .int (nI k))] rfl (by decide) rfl ?_
          refine g_iinc hE dX0_shakeThrough_63 7 (nI (k + 1)) [(5, .int (nI (k + 1))), (3, .int (nI (fallS mm n (f k) ((shS m n f k).2.1)))), (4, .int (y + (wS mm n (nd ((shS m n f k).2.1) (fallS mm n (f k) ((shS m n f k).2.1)))))), (7, .int (nI (fallS mm n (f k) ((shS m n f k).2.1)))), (6, .int (f k)), (0, .ref (a 0)), (1, .ref q), (2, .int x)] rfl (nI_1 _) (by decide) rfl ?_
          refine g_goto hE 11 dX0_shakeThrough_66 (by decide) ?_
          refine g_locals [5, 6, 7, 1, 2, 0] [(0, .ref (a 0)), (1, .ref q), (2, .int x), (3, .int (nI (fallS mm n (f k) ((shS m n f k).2.1)))), (4, .int (y + (wS mm n (nd ((shS m n f k).2.1) (fallS mm n (f k) ((shS m n f k).2.1)))))), (5, .int (nI (k + 1)))] rfl ?_
          exact ih_11 (k + 1) mm (nI (fallS mm n (f k) ((shS m n f k).2.1))) (y + (wS mm n (nd ((shS m n f k).2.1) (fallS mm n (f k) ((shS m n f k).2.1))))) (by first | assumption | omega) (by first | exact sh1y hmm rfl (by assumption) | exact sh1n hn6 hmm rfl (by assumption)) (sh2 hmm rfl) (sh3 hmm hf1 hf2 rfl hy) (by omega)
        · refine g_aload_n hE dX0_shakeThrough_54 3 rfl ?_
          refine g_iload hE dX0_shakeThrough_55 2 rfl ?_
          refine g_callV hE (c_X0_widen cI cS a mm (by first | assumption | exact mw_of (by assumption)) (f k)) mk_X0_widen mv_X0_widen ml_X0_104 dX0_shakeThrough_57 (As := [.int (f k)]) (rest := []) rfl rfl 0 rfl (show vwCl[0]? = some (RX0, TX0, 13) from rfl) (by decide) (by decide) (Nat.le_of_ble_eq_true rfl) (by decide) (by decide) [0, 1, 2, 3, 4, 5, 6, 7, 8, 9] rfl (by decide) (fun u => Nat.le_of_ble_eq_true rfl) (ws' := fun u => millW cI a (widS mm (f k)) ++ ([(q, .inl (cI, 4, .inl f))])) (fun u => rfl) (fun u hu => ?_)
          show Go E Q 8 0 0 60 [(4, .int (y + (wS mm n (nd ((shS m n f k).2.1) (fallS mm n (f k) ((shS m n f k).2.1)))))), (7, .int (nI (fallS mm n (f k) ((shS m n f k).2.1)))), (6, .int (f k)), (0, .ref (a 0)), (1, .ref q), (2, .int x), (3, .int z), (5, .int (nI k))] [] (millW cI a (widS mm (f k)) ++ ([(q, .inl (cI, 4, .inl f))]))
          refine g_iload hE dX0_shakeThrough_60 1 rfl ?_
          refine g_istore_n hE dX0_shakeThrough_62 [(3, .int (nI (fallS mm n (f k) ((shS m n f k).2.1)))), (4, .int (y + (wS mm n (nd ((shS m n f k).2.1) (fallS mm n (f k) ((shS m n f k).2.1)))))), (7, .int (nI (fallS mm n (f k) ((shS m n f k).2.1)))), (6, .int (f k)), (0, .ref (a 0)), (1, .ref q), (2, .int x), (5, .int (nI k))] rfl (by decide) rfl ?_
          refine g_iinc hE dX0_shakeThrough_63 7 (nI (k + 1)) [(5, .int (nI (k + 1))), (3, .int (nI (fallS mm n (f k) ((shS m n f k).2.1)))), (4, .int (y + (wS mm n (nd ((shS m n f k).2.1) (fallS mm n (f k) ((shS m n f k).2.1)))))), (7, .int (nI (fallS mm n (f k) ((shS m n f k).2.1)))), (6, .int (f k)), (0, .ref (a 0)), (1, .ref q), (2, .int x)] rfl (nI_1 _) (by decide) rfl ?_
          refine g_goto hE 11 dX0_shakeThrough_66 (by decide) ?_
          refine g_locals [5, 6, 7, 1, 2, 0] [(0, .ref (a 0)), (1, .ref q), (2, .int x), (3, .int (nI (fallS mm n (f k) ((shS m n f k).2.1)))), (4, .int (y + (wS mm n (nd ((shS m n f k).2.1) (fallS mm n (f k) ((shS m n f k).2.1)))))), (5, .int (nI (k + 1)))] rfl ?_
          exact ih_11 (k + 1) (widS mm (f k)) (nI (fallS mm n (f k) ((shS m n f k).2.1))) (y + (wS mm n (nd ((shS m n f k).2.1) (fallS mm n (f k) ((shS m n f k).2.1))))) (by first | assumption | omega) (by first | exact sh1y hmm rfl (by assumption) | exact sh1n hn6 hmm rfl (by assumption)) (sh2 hmm rfl) (sh3 hmm hf1 hf2 rfl hy) (by omega)
  refine g_locals [3, 4, 5, 2, 1, 0] [(0, .ref (a 0)), (1, .ref q), (2, .int x), (3, .int (nI (ldS m n))), (4, .int 0), (5, .int 0)] rfl ?_
  exact L11 _ 0 m (nI (ldS m n)) 0 (Nat.zero_le _) rfl rfl rfl (Nat.lt_succ_self _)
