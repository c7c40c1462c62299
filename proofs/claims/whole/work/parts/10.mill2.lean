/-! static helpers, more; the mill: writes -/
theorem arrV_cong (cI : ClassId) {N : Nat} {f g : Nat → Value} (h : ∀ j, j < N → f j = g j) : arrV cI N f = arrV cI N g := by
  unfold arrV
  congr 1
  apply Array.ext
  · simp
  · intro i h1 h2
    simp only [Array.getElem_ofFn]
    exact h i (by simpa using h1)
theorem g_arr_eq {E : CX} {Q : State → Prop} {cA : ClassId} {nL cells slots pc : Nat} {lv : List (Nat × Value)} {st : List Value} {ws : va_W} {a n : Nat} {f g : Nat → Int32} (q0 : Nat) (ha : ws[q0]? = some (a, .inl (cA, n, .inl f))) (h : ∀ j, j < n → f j = g j) (ws' : va_W) (hw : ws.set q0 (a, .inl (cA, n, .inl g)) = ws') (kk : Go E Q nL cells slots pc lv st ws') : Go E Q nL cells slots pc lv st ws := by
  obtain ⟨p, l, e, R, s, m, args, below, meth, c, D, A⟩ := E
  subst hw
  intro H locs ls hP hD hS hl
  refine kk H locs ls (hP.set hD ha ?_ (fun _ _ => rfl)) (hD.set ha) hS hl
  have h1 : H[a]? = some (vp_cell cA (n, .inl f)) := hP q0 _ ha
  show H[a]? = some (vp_cell cA (n, .inl g))
  rw [h1, vp_cell_i, vp_cell_i, arrV_cong cA (fun j hj => by rw [h j hj])]
theorem upd_pre {f h : Nat → Int32} {i : Nat} {x : Int32} (hh : ∀ j, j < i → h j = f j) (hx : x = f i) : ∀ j, j < i + 1 → upd h i x j = f j := by
  intro j hj
  unfold upd
  by_cases e : j = i
  · rw [if_pos e, e, hx]
  · rw [if_neg e, hh j (by omega)]
def addG (m : Nat → Nat → Int32) (n : Nat) (x y z : Int32) : Nat → Nat → Int32 := pA (pA (pA (pA m 0 (upd (m 0) n x)) 1 (upd (m 1) n y)) 2 (upd (m 2) n z)) 9 (upd (m 9) 0 (nI (n + 1)))
def addV (m : Nat → Nat → Int32) (n : Nat) (x y z w : Int32) : Nat → Nat → Int32 := pA (pA (pA (pA (pA m 3 (upd (m 3) n x)) 4 (upd (m 4) n y)) 5 (upd (m 5) n z)) 6 (upd (m 6) n w)) 9 (upd (m 9) 1 (nI (n + 1)))
def addP (m : Nat → Nat → Int32) (n : Nat) (x : Int32) : Nat → Nat → Int32 := pA (pA m 7 (upd (m 7) n x)) 9 (upd (m 9) 2 (nI (n + 1)))
def tkG (m v : Nat → Nat → Int32) : Nat → Nat → Int32 := pA (pA (pA (pA m 9 (upd (m 9) 0 (v 9 0))) 0 (v 0)) 1 (v 1)) 2 (v 2)
def tkV (m v : Nat → Nat → Int32) : Nat → Nat → Int32 := pA (pA (pA (pA (pA m 9 (upd (m 9) 1 (v 9 1))) 3 (v 3)) 4 (v 4)) 5 (v 5)) 6 (v 6)
def tkR (m v : Nat → Nat → Int32) : Nat → Nat → Int32 := pA (pA m 9 (upd (m 9) 2 (v 9 2))) 7 (v 7)
def tkA (m v : Nat → Nat → Int32) : Nat → Nat → Int32 := pA (tkR (tkV (tkG m v) v) v) 9 (upd (tkR (tkV (tkG m v) v) v 9) 3 (v 9 3))
set_option maxHeartbeats 4000000 in
set_option maxRecDepth 100000 in
theorem c_X4_exchange (cI cS : ClassId) (q n : Nat) (f : Nat → Int32) (i v : Int32) (hn : n < 2 ^ 31) : CT cI cS yX4_exchange cX4_exchange 4 (some .int) 1 [.ref q, .int i, .int v] ([(q, .inl (cI, n, .inl f))]) 0 0 (fun u : Int32 × (Nat → Int32) => u.1 = atv f n i ∧ u.2 = putv f n i v) (fun u => some (.int u.1)) (fun u => ([(q, .inl (cI, n, .inl u.2))])) := by
  refine ct_intro (by decide) (Nat.le_of_ble_eq_true rfl) (fun E Q hE hQ hI => ?_)
  have hE : CxOk E cI cS RX4 cX4_exchange 4 (some .int) 1 0 0 := hE
  show Go E Q 4 0 0 0 [(0, .ref q), (1, .int i), (2, .int v)] [] ([(q, .inl (cI, n, .inl f))])
  refine g_aload_n hE dX4_exchange_0 0 rfl ?_
  refine g_iload_n hE dX4_exchange_1 1 rfl ?_
  refine g_callS hE (c_X4_at cI cS q n f i (by omega)) mk_X4_at st_X4_at ml_X4_91 dX4_exchange_2 (As := [.ref q, .int i]) (rest := []) rfl rfl (by decide) (by decide) (Nat.le_of_ble_eq_true rfl) (by decide) (by decide) [0] rfl (by decide) (fun u => Nat.le_of_ble_eq_true rfl) (ws' := fun u => [(q, .inl (cI, n, .inl f))]) (fun u => rfl) (fun u hu => ?_)
  obtain ⟨r_1, rfl⟩ : ∃ z, z = u := ⟨_, rfl⟩
  have h2 : r_1 = (atv f n i) := hu
  subst h2
  show Go E Q 4 0 0 5 [(0, .ref q), (1, .int i), (2, .int v)] [.int (atv f n i)] ([(q, .inl (cI, n, .inl f))])
  refine g_istore_n hE dX4_exchange_5 [(3, .int (atv f n i)), (0, .ref q), (1, .int i), (2, .int v)] rfl (by decide) rfl ?_
  refine g_aload_n hE dX4_exchange_6 1 rfl ?_
  refine g_iload_n hE dX4_exchange_7 2 rfl ?_
  refine g_iload_n hE dX4_exchange_8 3 rfl ?_
  refine g_callS hE (c_X4_put cI cS q n f i v (by omega)) mk_X4_put st_X4_put ml_X4_236 dX4_exchange_9 (As := [.ref q, .int i, .int v]) (rest := []) rfl rfl (by decide) (by decide) (Nat.le_of_ble_eq_true rfl) (by decide) (by decide) [0] rfl (by decide) (fun u => Nat.le_of_ble_eq_true rfl) (ws' := fun u => [(q, .inl (cI, n, .inl u))]) (fun u => rfl) (fun u hu => ?_)
  obtain ⟨f_3, rfl⟩ : ∃ z, z = u := ⟨_, rfl⟩
  have h4 : f_3 = putv f n i v := hu
  have h5 : f_3 = (putv f n i v) := h4
  subst h5
  show Go E Q 4 0 0 12 [(3, .int (atv f n i)), (0, .ref q), (1, .int i), (2, .int v)] [] ([(q, .inl (cI, n, .inl (putv f n i v)))])
  refine g_iload_n hE dX4_exchange_12 0 rfl ?_
  exact g_iret hE hQ dX4_exchange_13 rfl ((atv f n i), (putv f n i v)) rfl rfl ⟨rfl, rfl⟩
set_option maxHeartbeats 4000000 in
set_option maxRecDepth 100000 in
theorem c_X4_byteOf (cI cS : ClassId) (w : Int64) (i : Int32) : CT cI cS yX4_byteOf cX4_byteOf 3 (some .int) 0 [.long w, .int i] (([] : va_W)) 0 0 (fun u : Int32 => u = (w >>> ((8 * i : Int32).toInt64 &&& 63)).toInt32 &&& 255) (fun u => some (.int u)) (fun u => (([] : va_W))) := by
  refine ct_intro (by decide) (Nat.le_of_ble_eq_true rfl) (fun E Q hE hQ hI => ?_)
  have hE : CxOk E cI cS RX4 cX4_byteOf 3 (some .int) 0 0 0 := hE
  show Go E Q 3 0 0 0 [(0, .long w), (2, .int i)] [] (([] : va_W))
  refine g_lload_n hE dX4_byteOf_0 0 rfl ?_
  refine g_bipush hE dX4_byteOf_1 8 (by decide) ?_
  refine g_iload_n hE dX4_byteOf_3 1 rfl ?_
  refine g_imul hE dX4_byteOf_4 ?_
  refine g_lshr hE dX4_byteOf_5 ?_
  refine g_l2i hE dX4_byteOf_6 ?_
  refine g_sipush hE dX4_byteOf_7 255 (by decide) ?_
  refine g_iand hE dX4_byteOf_10 ?_
  exact g_iret hE hQ dX4_byteOf_11 rfl ((Int64.toInt32 (w >>> (Int32.toInt64 (8 * i) &&& 63))) &&& 255) rfl rfl rfl
set_option maxHeartbeats 4000000 in
set_option maxRecDepth 100000 in
theorem c_X4_isLane (cI cS : ClassId) (v : Int32) : CT cI cS yX4_isLane cX4_isLane 1 (some .boolean) 1 [.int v] (([] : va_W)) 0 0 (fun u : Int32 => u = if 0 ≤ v ∧ v ≤ 2 then 1 else 0) (fun u => some (.int u)) (fun u => (([] : va_W))) := by
  refine ct_intro (by decide) (Nat.le_of_ble_eq_true rfl) (fun E Q hE hQ hI => ?_)
  have hE : CxOk E cI cS RX4 cX4_isLane 1 (some .boolean) 1 0 0 := hE
  show Go E Q 1 0 0 0 [(0, .int v)] [] (([] : va_W))
  refine g_iload_n hE dX4_isLane_0 0 rfl ?_
  refine g_iconst hE dX4_isLane_1 0 (by decide) ?_
  refine g_iconst hE dX4_isLane_2 2 (by decide) ?_
  refine g_callS hE (c_X4_within cI cS v 0 2) mk_X4_within st_X4_within ml_X4_47 dX4_isLane_3 (As := [.int v, .int 0, .int 2]) (rest := []) rfl rfl (by decide) (by decide) (Nat.le_of_ble_eq_true rfl) (by decide) (by decide) [] rfl (by decide) (fun u => Nat.le_of_ble_eq_true rfl) (ws' := fun u => ([] : va_W)) (fun u => rfl) (fun u hu => ?_)
  obtain ⟨r_1, rfl⟩ : ∃ z, z = u := ⟨_, rfl⟩
  have h2 : r_1 = if 0 ≤ v ∧ v ≤ 2 then 1 else 0 := hu
  by_cases c3 : 0 ≤ v ∧ v ≤ 2
  · rw [if_pos c3] at h2
    subst h2
    show Go E Q 1 0 0 6 [(0, .int v)] [.int 1] (([] : va_W))
    exact g_iret hE hQ dX4_isLane_6 (by first | rfl | decide) 1 rfl rfl (by first | exact (if_pos (by assumption)).symm | exact (if_neg (by assumption)).symm)
  · rw [if_neg c3] at h2
    subst h2
    show Go E Q 1 0 0 6 [(0, .int v)] [.int 0] (([] : va_W))
    exact g_iret hE hQ dX4_isLane_6 (by first | rfl | decide) 0 rfl rfl (by first | exact (if_pos (by assumption)).symm | exact (if_neg (by assumption)).symm)
set_option maxHeartbeats 4000000 in
set_option maxRecDepth 100000 in
theorem c_X4_copyAll (cI cS : ClassId) (q1 q2 n : Nat) (f g : Nat → Int32) (hn : n < 2 ^ 31) : CT cI cS yX4_copyAll cX4_copyAll 3 none 0 [.ref q1, .ref q2] ([(q1, .inl (cI, n, .inl f))] ++ ([(q2, .inl (cI, n, .inl g))])) 0 0 (fun u : Unit => True) (fun u => none) (fun u => ([(q1, .inl (cI, n, .inl f))] ++ ([(q2, .inl (cI, n, .inl f))]))) := by
  refine ct_intro (by decide) (Nat.le_of_ble_eq_true rfl) (fun E Q hE hQ hI => ?_)
  have hE : CxOk E cI cS RX4 cX4_copyAll 3 none 0 0 0 := hE
  show Go E Q 3 0 0 0 [(0, .ref q1), (1, .ref q2)] [] ([(q1, .inl (cI, n, .inl f))] ++ ([(q2, .inl (cI, n, .inl g))]))
  refine g_iconst hE dX4_copyAll_0 0 (by decide) ?_
  refine g_istore_n hE dX4_copyAll_1 [(2, .int 0), (0, .ref q1), (1, .ref q2)] rfl (by decide) rfl ?_
  have L2 : ∀ (n_2 : Nat) (i : Nat) (h : Nat → Int32), (i ≤ n) → (∀ j, j < i → h j = f j) → (n - i < n_2) → Go E Q 3 0 0 2 [(0, .ref q1), (1, .ref q2), (2, .int (nI i))] [] ([(q1, .inl (cI, n, .inl f))] ++ ([(q2, .inl (cI, n, .inl h))])) := by
    intro n_2
    induction n_2 with
    | zero => intro i h hi hh hm_2; exact absurd hm_2 (Nat.not_lt_zero _)
    | succ n_2 ih_2 =>
      intro i h hi hh hm_2
      refine g_iload_n hE dX4_copyAll_2 2 rfl ?_
      refine g_aload_n hE dX4_copyAll_3 0 rfl ?_
      refine g_alen hE dX4_copyAll_4 0 (nI n) rfl rfl ?_
      refine g_icmp_ge hE 26 dX4_copyAll_5 (by decide) (fun c1 => ?_) (fun c1 => ?_)
      · have kc1 := nat_le_t (show (nI n) = nI n from rfl) (show (nI i) = nI i from rfl) (by omega) (by omega) c1
        refine g_arr_eq 1 (f := h) (g := f) rfl (fun j hj => hh j (by omega)) _ rfl ?_
        exact g_vret hE hQ dX4_copyAll_26 () rfl rfl trivial
      · have kc1 := nat_le_f (show (nI n) = nI n from rfl) (show (nI i) = nI i from rfl) (by omega) (by omega) c1
        refine g_iload_n hE dX4_copyAll_8 2 rfl ?_
        refine g_aload_n hE dX4_copyAll_9 1 rfl ?_
        refine g_alen hE dX4_copyAll_10 1 (nI n) rfl rfl ?_
        refine g_icmp_ge hE 26 dX4_copyAll_11 (by decide) (fun c2 => absurd (Int32.not_le.mp c1) (Int32.not_lt.mpr c2)) (fun c2 => ?_)
        refine g_aload_n hE dX4_copyAll_14 1 rfl ?_
        refine g_iload_n hE dX4_copyAll_15 2 rfl ?_
        refine g_aload_n hE dX4_copyAll_16 0 rfl ?_
        refine g_iload_n hE dX4_copyAll_17 2 rfl ?_
        refine g_iald_n hE dX4_copyAll_18 0 rfl (show (nI i) = nI i from rfl) (by omega) ?_ (hn := (by omega))
        refine g_iast_n hE dX4_copyAll_19 1 rfl (show (nI i) = nI i from rfl) (by omega) ([(q1, .inl (cI, n, .inl f))] ++ ([(q2, .inl (cI, n, .inl (upd h i (f i))))])) rfl ?_ (hn := (by omega))
        refine g_iinc hE dX4_copyAll_20 2 (nI (i + 1)) [(2, .int (nI (i + 1))), (0, .ref q1), (1, .ref q2)] rfl (nI_1 _) (by decide) rfl ?_
        refine g_goto hE 2 dX4_copyAll_23 (by decide) ?_
        refine g_locals [1, 2, 0] [(0, .ref q1), (1, .ref q2), (2, .int (nI (i + 1)))] rfl ?_
        exact ih_2 (i + 1) (upd h i (f i)) (by first | assumption | omega) (upd_pre hh rfl) (by omega)
  refine g_locals [1, 2, 0] [(0, .ref q1), (1, .ref q2), (2, .int 0)] rfl ?_
  exact L2 _ 0 g (Nat.zero_le _) (fun j hj => absurd hj (Nat.not_lt_zero _)) (Nat.lt_succ_self _)
set_option maxHeartbeats 4000000 in
set_option maxRecDepth 100000 in
theorem c_X4_copyAll_s (cI cS : ClassId) (q1 q2 n : Nat) (f g : Nat → Int32) (hn : n < 2 ^ 31) : CT cI cS yX4_copyAll cX4_copyAll 3 none 0 [.ref q1, .ref q2] ([(q2, .inl (cI, n, .inl g))] ++ ([(q1, .inl (cI, n, .inl f))])) 0 0 (fun u : Unit => True) (fun u => none) (fun u => ([(q2, .inl (cI, n, .inl f))] ++ ([(q1, .inl (cI, n, .inl f))]))) := by
  refine ct_intro (by decide) (Nat.le_of_ble_eq_true rfl) (fun E Q hE hQ hI => ?_)
  have hE : CxOk E cI cS RX4 cX4_copyAll 3 none 0 0 0 := hE
  show Go E Q 3 0 0 0 [(0, .ref q1), (1, .ref q2)] [] ([(q2, .inl (cI, n, .inl g))] ++ ([(q1, .inl (cI, n, .inl f))]))
  refine g_iconst hE dX4_copyAll_0 0 (by decide) ?_
  refine g_istore_n hE dX4_copyAll_1 [(2, .int 0), (0, .ref q1), (1, .ref q2)] rfl (by decide) rfl ?_
  have L2 : ∀ (n_2 : Nat) (i : Nat) (h : Nat → Int32), (i ≤ n) → (∀ j, j < i → h j = f j) → (n - i < n_2) → Go E Q 3 0 0 2 [(0, .ref q1), (1, .ref q2), (2, .int (nI i))] [] ([(q2, .inl (cI, n, .inl h))] ++ ([(q1, .inl (cI, n, .inl f))])) := by
    intro n_2
    induction n_2 with
    | zero => intro i h hi hh hm_2; exact absurd hm_2 (Nat.not_lt_zero _)
    | succ n_2 ih_2 =>
      intro i h hi hh hm_2
      refine g_iload_n hE dX4_copyAll_2 2 rfl ?_
      refine g_aload_n hE dX4_copyAll_3 0 rfl ?_
      refine g_alen hE dX4_copyAll_4 1 (nI n) rfl rfl ?_
      refine g_icmp_ge hE 26 dX4_copyAll_5 (by decide) (fun c1 => ?_) (fun c1 => ?_)
      · have kc1 := nat_le_t (show (nI n) = nI n from rfl) (show (nI i) = nI i from rfl) (by omega) (by omega) c1
        refine g_arr_eq 0 (f := h) (g := f) rfl (fun j hj => hh j (by omega)) _ rfl ?_
        exact g_vret hE hQ dX4_copyAll_26 () rfl rfl trivial
      · have kc1 := nat_le_f (show (nI n) = nI n from rfl) (show (nI i) = nI i from rfl) (by omega) (by omega) c1
        refine g_iload_n hE dX4_copyAll_8 2 rfl ?_
        refine g_aload_n hE dX4_copyAll_9 1 rfl ?_
        refine g_alen hE dX4_copyAll_10 0 (nI n) rfl rfl ?_
        refine g_icmp_ge hE 26 dX4_copyAll_11 (by decide) (fun c2 => absurd (Int32.not_le.mp c1) (Int32.not_lt.mpr c2)) (fun c2 => ?_)
        refine g_aload_n hE dX4_copyAll_14 1 rfl ?_
        refine g_iload_n hE dX4_copyAll_15 2 rfl ?_
        refine g_aload_n hE dX4_copyAll_16 0 rfl ?_
        refine g_iload_n hE dX4_copyAll_17 2 rfl ?_
        refine g_iald_n hE dX4_copyAll_18 1 rfl (show (nI i) = nI i from rfl) (by omega) ?_ (hn := (by omega))
        refine g_iast_n hE dX4_copyAll_19 0 rfl (show (nI i) = nI i from rfl) (by omega) ([(q2, .inl (cI, n, .inl (upd h i (f i))))] ++ ([(q1, .inl (cI, n, .inl f))])) rfl ?_ (hn := (by omega))
        refine g_iinc hE dX4_copyAll_20 2 (nI (i + 1)) [(2, .int (nI (i + 1))), (0, .ref q1), (1, .ref q2)] rfl (nI_1 _) (by decide) rfl ?_
        refine g_goto hE 2 dX4_copyAll_23 (by decide) ?_
        refine g_locals [1, 2, 0] [(0, .ref q1), (1, .ref q2), (2, .int (nI (i + 1)))] rfl ?_
        exact ih_2 (i + 1) (upd h i (f i)) (by first | assumption | omega) (upd_pre hh rfl) (by omega)
  refine g_locals [1, 2, 0] [(0, .ref q1), (1, .ref q2), (2, .int 0)] rfl ?_
  exact L2 _ 0 g (Nat.zero_le _) (fun j hj => absurd hj (Nat.not_lt_zero _)) (Nat.lt_succ_self _)
set_option maxHeartbeats 4000000 in
set_option maxRecDepth 100000 in
theorem c_X0_addGrain (cI cS : ClassId) (a : Nat → Nat) (m : Nat → Nat → Int32) {n sv pl : Nat} (hM : MW m n sv pl) (x y z : Int32) (hlt : n < 6) : CT cI cS yX0_addGrain cX0_addGrain 4 (some .int) 1 [.ref (a 0), .int x, .int y, .int z] (millW cI a m) 0 0 (fun u : Int32 => u = nI n) (fun u => some (.int u)) (fun u => (millW cI a (addG m n x y z))) := by
  refine ct_intro (by decide) (Nat.le_of_ble_eq_true rfl) (fun E Q hE hQ hI => ?_)
  have hE : CxOk E cI cS RX0 cX0_addGrain 4 (some .int) 1 0 0 := hE
  show Go E Q 4 0 0 0 [(0, .ref (a 0)), (1, .int x), (2, .int y), (3, .int z)] [] (millW cI a m)
  have hn := hM.1
  have hn6 := hM.2.1
  have hsv := hM.2.2.1
  have hsv8 := hM.2.2.2.1
  have hpl := hM.2.2.2.2.1
  have hpl6 := hM.2.2.2.2.2
  refine g_aload_n hE dX0_addGrain_0 0 rfl ?_
  refine g_get hE fl_X0_9 dX0_addGrain_1 0 rfl rfl ?_
  refine g_aload_n hE dX0_addGrain_4 0 rfl ?_
  refine g_get hE fl_X0_39 dX0_addGrain_5 0 rfl rfl ?_
  refine g_iload_n hE dX0_addGrain_8 1 rfl ?_
  refine g_callSN hE (c_X4_put cI cS (a 1) 6 (m 0) (m 9 0) x (by decide)) mk_X4_put st_X4_put nl_X0_53 dX0_addGrain_9 (As := [.ref (a 1), .int (m 9 0), .int x]) (rest := []) rfl rfl (by decide) (by decide) (Nat.le_of_ble_eq_true rfl) (by decide) (by decide) [1] rfl (by decide) (fun u => Nat.le_of_ble_eq_true rfl) (ws' := fun u => millW cI a (pA m 0 u)) (fun u => rfl) (fun u hu => ?_)
  obtain ⟨f_1, rfl⟩ : ∃ z, z = u := ⟨_, rfl⟩
  have h2 : f_1 = putv (m 0) 6 (m 9 0) x := hu
  have h3 : f_1 = (upd (m 0) n x) := h2.trans (by rw [show (m 9 0) = nI n from hn]; exact putv_n (by omega) (by decide))
  subst h3
  show Go E Q 4 0 0 12 [(0, .ref (a 0)), (1, .int x), (2, .int y), (3, .int z)] [] (millW cI a (pA m 0 (upd (m 0) n x)))
  refine g_aload_n hE dX0_addGrain_12 0 rfl ?_
  refine g_get hE fl_X0_15 dX0_addGrain_13 0 rfl rfl ?_
  refine g_aload_n hE dX0_addGrain_16 0 rfl ?_
  refine g_get hE fl_X0_39 dX0_addGrain_17 0 rfl rfl ?_
  refine g_iload_n hE dX0_addGrain_20 2 rfl ?_
  refine g_callSN hE (c_X4_put cI cS (a 2) 6 (m 1) (m 9 0) y (by decide)) mk_X4_put st_X4_put nl_X0_53 dX0_addGrain_21 (As := [.ref (a 2), .int (m 9 0), .int y]) (rest := []) rfl rfl (by decide) (by decide) (Nat.le_of_ble_eq_true rfl) (by decide) (by decide) [2] rfl (by decide) (fun u => Nat.le_of_ble_eq_true rfl) (ws' := fun u => millW cI a (pA (pA m 0 (upd (m 0) n x)) 1 u)) (fun u => rfl) (fun u hu => ?_)
  obtain ⟨f_4, rfl⟩ : ∃ z, z = u := ⟨_, rfl⟩
  have h5 : f_4 = putv (m 1) 6 (m 9 0) y := hu
  have h6 : f_4 = (upd (m 1) n y) := h5.trans (by rw [show (m 9 0) = nI n from hn]; exact putv_n (by omega) (by decide))
  subst h6
  show Go E Q 4 0 0 24 [(0, .ref (a 0)), (1, .int x), (2, .int y), (3, .int z)] [] (millW cI a (pA (pA m 0 (upd (m 0) n x)) 1 (upd (m 1) n y)))
  refine g_aload_n hE dX0_addGrain_24 0 rfl ?_
  refine g_get hE fl_X0_18 dX0_addGrain_25 0 rfl rfl ?_
  refine g_aload_n hE dX0_addGrain_28 0 rfl ?_
  refine g_get hE fl_X0_39 dX0_addGrain_29 0 rfl rfl ?_
  refine g_iload_n hE dX0_addGrain_32 3 rfl ?_
  refine g_callSN hE (c_X4_put cI cS (a 3) 6 (m 2) (m 9 0) z (by decide)) mk_X4_put st_X4_put nl_X0_53 dX0_addGrain_33 (As := [.ref (a 3), .int (m 9 0), .int z]) (rest := []) rfl rfl (by decide) (by decide) (Nat.le_of_ble_eq_true rfl) (by decide) (by decide) [3] rfl (by decide) (fun u => Nat.le_of_ble_eq_true rfl) (ws' := fun u => millW cI a (pA (pA (pA m 0 (upd (m 0) n x)) 1 (upd (m 1) n y)) 2 u)) (fun u => rfl) (fun u hu => ?_)
  obtain ⟨f_7, rfl⟩ : ∃ z, z = u := ⟨_, rfl⟩
  have h8 : f_7 = putv (m 2) 6 (m 9 0) z := hu
  have h9 : f_7 = (upd (m 2) n z) := h8.trans (by rw [show (m 9 0) = nI n from hn]; exact putv_n (by omega) (by decide))
  subst h9
  show Go E Q 4 0 0 36 [(0, .ref (a 0)), (1, .int x), (2, .int y), (3, .int z)] [] (millW cI a (pA (pA (pA m 0 (upd (m 0) n x)) 1 (upd (m 1) n y)) 2 (upd (m 2) n z)))
  refine g_aload_n hE dX0_addGrain_36 0 rfl ?_
  refine g_dup hE dX0_addGrain_37 rfl ?_
  refine g_get hE fl_X0_39 dX0_addGrain_38 0 rfl rfl ?_
  refine g_iconst hE dX0_addGrain_41 1 (by decide) ?_
  refine g_iadd_n hE dX0_addGrain_42 hn (show 1 = nI 1 from rfl) ?_
  refine g_put hE fl_X0_39 fp_0_0 dX0_addGrain_43 0 rfl rfl rfl (Nat.le_of_ble_eq_true rfl) (millW cI a (pA (pA (pA (pA m 0 (upd (m 0) n x)) 1 (upd (m 1) n y)) 2 (upd (m 2) n z)) 9 (upd (m 9) 0 (nI (n + 1))))) rfl ?_
  refine g_aload_n hE dX0_addGrain_46 0 rfl ?_
  refine g_get hE fl_X0_39 dX0_addGrain_47 0 rfl rfl ?_
  refine g_iconst hE dX0_addGrain_50 1 (by decide) ?_
  refine g_isub_n hE dX0_addGrain_51 (show (nI (n + 1)) = nI (n + 1) from rfl) (show 1 = nI 1 from rfl) (by omega) ?_
  exact g_iret hE hQ dX0_addGrain_52 rfl (nI ((n + 1) - 1)) rfl rfl (by rw [Nat.add_sub_cancel])
set_option maxHeartbeats 4000000 in
set_option maxRecDepth 100000 in
theorem c_X0_addSieve (cI cS : ClassId) (a : Nat → Nat) (m : Nat → Nat → Int32) {n sv pl : Nat} (hM : MW m n sv pl) (x y z w : Int32) (hlt : sv < 8) : CT cI cS yX0_addSieve cX0_addSieve 5 (some .int) 1 [.ref (a 0), .int x, .int y, .int z, .int w] (millW cI a m) 0 0 (fun u : Int32 => u = nI sv) (fun u => some (.int u)) (fun u => (millW cI a (addV m sv x y z w))) := by
  refine ct_intro (by decide) (Nat.le_of_ble_eq_true rfl) (fun E Q hE hQ hI => ?_)
  have hE : CxOk E cI cS RX0 cX0_addSieve 5 (some .int) 1 0 0 := hE
  show Go E Q 5 0 0 0 [(0, .ref (a 0)), (1, .int x), (2, .int y), (3, .int z), (4, .int w)] [] (millW cI a m)
  have hn := hM.1
  have hn6 := hM.2.1
  have hsv := hM.2.2.1
  have hsv8 := hM.2.2.2.1
  have hpl := hM.2.2.2.2.1
  have hpl6 := hM.2.2.2.2.2
  refine g_aload_n hE dX0_addSieve_0 0 rfl ?_
  refine g_get hE fl_X0_21 dX0_addSieve_1 0 rfl rfl ?_
  refine g_aload_n hE dX0_addSieve_4 0 rfl ?_
  refine g_get hE fl_X0_43 dX0_addSieve_5 0 rfl rfl ?_
  refine g_iload_n hE dX0_addSieve_8 1 rfl ?_
  refine g_callSN hE (c_X4_put cI cS (a 4) 8 (m 3) (m 9 1) x (by decide)) mk_X4_put st_X4_put nl_X0_53 dX0_addSieve_9 (As := [.ref (a 4), .int (m 9 1), .int x]) (rest := []) rfl rfl (by decide) (by decide) (Nat.le_of_ble_eq_true rfl) (by decide) (by decide) [4] rfl (by decide) (fun u => Nat.le_of_ble_eq_true rfl) (ws' := fun u => millW cI a (pA m 3 u)) (fun u => rfl) (fun u hu => ?_)
  obtain ⟨f_1, rfl⟩ : ∃ z, z = u := ⟨_, rfl⟩
  have h2 : f_1 = putv (m 3) 8 (m 9 1) x := hu
  have h3 : f_1 = (upd (m 3) sv x) := h2.trans (by rw [show (m 9 1) = nI sv from hsv]; exact putv_n (by omega) (by decide))
  subst h3
  show Go E Q 5 0 0 12 [(0, .ref (a 0)), (1, .int x), (2, .int y), (3, .int z), (4, .int w)] [] (millW cI a (pA m 3 (upd (m 3) sv x)))
  refine g_aload_n hE dX0_addSieve_12 0 rfl ?_
  refine g_get hE fl_X0_24 dX0_addSieve_13 0 rfl rfl ?_
  refine g_aload_n hE dX0_addSieve_16 0 rfl ?_
  refine g_get hE fl_X0_43 dX0_addSieve_17 0 rfl rfl ?_
  refine g_iload_n hE dX0_addSieve_20 2 rfl ?_
  refine g_callSN hE (c_X4_put cI cS (a 5) 8 (m 4) (m 9 1) y (by decide)) mk_X4_put st_X4_put nl_X0_53 dX0_addSieve_21 (As := [.ref (a 5), .int (m 9 1), .int y]) (rest := []) rfl rfl (by decide) (by decide) (Nat.le_of_ble_eq_true rfl) (by decide) (by decide) [5] rfl (by decide) (fun u => Nat.le_of_ble_eq_true rfl) (ws' := fun u => millW cI a (pA (pA m 3 (upd (m 3) sv x)) 4 u)) (fun u => rfl) (fun u hu => ?_)
  obtain ⟨f_4, rfl⟩ : ∃ z, z = u := ⟨_, rfl⟩
  have h5 : f_4 = putv (m 4) 8 (m 9 1) y := hu
  have h6 : f_4 = (upd (m 4) sv y) := h5.trans (by rw [show (m 9 1) = nI sv from hsv]; exact putv_n (by omega) (by decide))
  subst h6
  show Go E Q 5 0 0 24 [(0, .ref (a 0)), (1, .int x), (2, .int y), (3, .int z), (4, .int w)] [] (millW cI a (pA (pA m 3 (upd (m 3) sv x)) 4 (upd (m 4) sv y)))
  refine g_aload_n hE dX0_addSieve_24 0 rfl ?_
  refine g_get hE fl_X0_27 dX0_addSieve_25 0 rfl rfl ?_
  refine g_aload_n hE dX0_addSieve_28 0 rfl ?_
  refine g_get hE fl_X0_43 dX0_addSieve_29 0 rfl rfl ?_
  refine g_iload_n hE dX0_addSieve_32 3 rfl ?_
  refine g_callSN hE (c_X4_put cI cS (a 6) 8 (m 5) (m 9 1) z (by decide)) mk_X4_put st_X4_put nl_X0_53 dX0_addSieve_33 (As := [.ref (a 6), .int (m 9 1), .int z]) (rest := []) rfl rfl (by decide) (by decide) (Nat.le_of_ble_eq_true rfl) (by decide) (by decide) [6] rfl (by decide) (fun u => Nat.le_of_ble_eq_true rfl) (ws' := fun u => millW cI a (pA (pA (pA m 3 (upd (m 3) sv x)) 4 (upd (m 4) sv y)) 5 u)) (fun u => rfl) (fun u hu => ?_)
  obtain ⟨f_7, rfl⟩ : ∃ z, z = u := ⟨_, rfl⟩
  have h8 : f_7 = putv (m 5) 8 (m 9 1) z := hu
  have h9 : f_7 = (upd (m 5) sv z) := h8.trans (by rw [show (m 9 1) = nI sv from hsv]; exact putv_n (by omega) (by decide))
  subst h9
  show Go E Q 5 0 0 36 [(0, .ref (a 0)), (1, .int x), (2, .int y), (3, .int z), (4, .int w)] [] (millW cI a (pA (pA (pA m 3 (upd (m 3) sv x)) 4 (upd (m 4) sv y)) 5 (upd (m 5) sv z)))
  refine g_aload_n hE dX0_addSieve_36 0 rfl ?_
  refine g_get hE fl_X0_30 dX0_addSieve_37 0 rfl rfl ?_
  refine g_aload_n hE dX0_addSieve_40 0 rfl ?_
  refine g_get hE fl_X0_43 dX0_addSieve_41 0 rfl rfl ?_
  refine g_iload hE dX0_addSieve_44 4 rfl ?_
  refine g_callSN hE (c_X4_put cI cS (a 7) 8 (m 6) (m 9 1) w (by decide)) mk_X4_put st_X4_put nl_X0_53 dX0_addSieve_46 (As := [.ref (a 7), .int (m 9 1), .int w]) (rest := []) rfl rfl (by decide) (by decide) (Nat.le_of_ble_eq_true rfl) (by decide) (by decide) [7] rfl (by decide) (fun u => Nat.le_of_ble_eq_true rfl) (ws' := fun u => millW cI a (pA (pA (pA (pA m 3 (upd (m 3) sv x)) 4 (upd (m 4) sv y)) 5 (upd (m 5) sv z)) 6 u)) (fun u => rfl) (fun u hu => ?_)
  obtain ⟨f_10, rfl⟩ : ∃ z, z = u := ⟨_, rfl⟩
  have h11 : f_10 = putv (m 6) 8 (m 9 1) w := hu
  have h12 : f_10 = (upd (m 6) sv w) := h11.trans (by rw [show (m 9 1) = nI sv from hsv]; exact putv_n (by omega) (by decide))
  subst h12
  show Go E Q 5 0 0 49 [(0, .ref (a 0)), (1, .int x), (2, .int y), (3, .int z), (4, .int w)] [] (millW cI a (pA (pA (pA (pA m 3 (upd (m 3) sv x)) 4 (upd (m 4) sv y)) 5 (upd (m 5) sv z)) 6 (upd (m 6) sv w)))
  refine g_aload_n hE dX0_addSieve_49 0 rfl ?_
  refine g_dup hE dX0_addSieve_50 rfl ?_
  refine g_get hE fl_X0_43 dX0_addSieve_51 0 rfl rfl ?_
  refine g_iconst hE dX0_addSieve_54 1 (by decide) ?_
  refine g_iadd_n hE dX0_addSieve_55 hsv (show 1 = nI 1 from rfl) ?_
  refine g_put hE fl_X0_43 fp_0_1 dX0_addSieve_56 0 rfl rfl rfl (Nat.le_of_ble_eq_true rfl) (millW cI a (pA (pA (pA (pA (pA m 3 (upd (m 3) sv x)) 4 (upd (m 4) sv y)) 5 (upd (m 5) sv z)) 6 (upd (m 6) sv w)) 9 (upd (m 9) 1 (nI (sv + 1))))) rfl ?_
  refine g_aload_n hE dX0_addSieve_59 0 rfl ?_
  refine g_get hE fl_X0_43 dX0_addSieve_60 0 rfl rfl ?_
  refine g_iconst hE dX0_addSieve_63 1 (by decide) ?_
  refine g_isub_n hE dX0_addSieve_64 (show (nI (sv + 1)) = nI (sv + 1) from rfl) (show 1 = nI 1 from rfl) (by omega) ?_
  exact g_iret hE hQ dX0_addSieve_65 rfl (nI ((sv + 1) - 1)) rfl rfl (by rw [Nat.add_sub_cancel])
set_option maxHeartbeats 4000000 in
set_option maxRecDepth 100000 in
theorem c_X0_addPlace (cI cS : ClassId) (a : Nat → Nat) (m : Nat → Nat → Int32) {n sv pl : Nat} (hM : MW m n sv pl) (x : Int32) (hlt : pl < 6) : CT cI cS yX0_addPlace cX0_addPlace 2 none 1 [.ref (a 0), .int x] (millW cI a m) 0 0 (fun u : Unit => True) (fun u => none) (fun u => (millW cI a (addP m pl x))) := by
  refine ct_intro (by decide) (Nat.le_of_ble_eq_true rfl) (fun E Q hE hQ hI => ?_)
  have hE : CxOk E cI cS RX0 cX0_addPlace 2 none 1 0 0 := hE
  show Go E Q 2 0 0 0 [(0, .ref (a 0)), (1, .int x)] [] (millW cI a m)
  have hn := hM.1
  have hn6 := hM.2.1
  have hsv := hM.2.2.1
  have hsv8 := hM.2.2.2.1
  have hpl := hM.2.2.2.2.1
  have hpl6 := hM.2.2.2.2.2
  refine g_aload_n hE dX0_addPlace_0 0 rfl ?_
  refine g_get hE fl_X0_33 dX0_addPlace_1 0 rfl rfl ?_
  refine g_aload_n hE dX0_addPlace_4 0 rfl ?_
  refine g_get hE fl_X0_46 dX0_addPlace_5 0 rfl rfl ?_
  refine g_iload_n hE dX0_addPlace_8 1 rfl ?_
  refine g_callSN hE (c_X4_put cI cS (a 8) 6 (m 7) (m 9 2) x (by decide)) mk_X4_put st_X4_put nl_X0_53 dX0_addPlace_9 (As := [.ref (a 8), .int (m 9 2), .int x]) (rest := []) rfl rfl (by decide) (by decide) (Nat.le_of_ble_eq_true rfl) (by decide) (by decide) [8] rfl (by decide) (fun u => Nat.le_of_ble_eq_true rfl) (ws' := fun u => millW cI a (pA m 7 u)) (fun u => rfl) (fun u hu => ?_)
  obtain ⟨f_1, rfl⟩ : ∃ z, z = u := ⟨_, rfl⟩
  have h2 : f_1 = putv (m 7) 6 (m 9 2) x := hu
  have h3 : f_1 = (upd (m 7) pl x) := h2.trans (by rw [show (m 9 2) = nI pl from hpl]; exact putv_n (by omega) (by decide))
  subst h3
  show Go E Q 2 0 0 12 [(0, .ref (a 0)), (1, .int x)] [] (millW cI a (pA m 7 (upd (m 7) pl x)))
  refine g_aload_n hE dX0_addPlace_12 0 rfl ?_
  refine g_dup hE dX0_addPlace_13 rfl ?_
  refine g_get hE fl_X0_46 dX0_addPlace_14 0 rfl rfl ?_
  refine g_iconst hE dX0_addPlace_17 1 (by decide) ?_
  refine g_iadd_n hE dX0_addPlace_18 hpl (show 1 = nI 1 from rfl) ?_
  refine g_put hE fl_X0_46 fp_0_2 dX0_addPlace_19 0 rfl rfl rfl (Nat.le_of_ble_eq_true rfl) (millW cI a (pA (pA m 7 (upd (m 7) pl x)) 9 (upd (m 9) 2 (nI (pl + 1))))) rfl ?_
  exact g_vret hE hQ dX0_addPlace_22 () rfl rfl trivial
set_option maxHeartbeats 4000000 in
set_option maxRecDepth 100000 in
theorem c_X0_takeGrains (cI cS : ClassId) (a b : Nat → Nat) (m v : Nat → Nat → Int32) : CT cI cS yX0_takeGrains cX0_takeGrains 2 none 1 [.ref (a 0), .ref (b 0)] (millW cI a m ++ (millW cI b v)) 0 0 (fun u : Unit => True) (fun u => none) (fun u => (millW cI a (tkG m v) ++ (millW cI b v))) := by
  refine ct_intro (by decide) (Nat.le_of_ble_eq_true rfl) (fun E Q hE hQ hI => ?_)
  have hE : CxOk E cI cS RX0 cX0_takeGrains 2 none 1 0 0 := hE
  show Go E Q 2 0 0 0 [(0, .ref (a 0)), (1, .ref (b 0))] [] (millW cI a m ++ (millW cI b v))
  refine g_aload_n hE dX0_takeGrains_0 0 rfl ?_
  refine g_aload_n hE dX0_takeGrains_1 1 rfl ?_
  refine g_get hE fl_X0_39 dX0_takeGrains_2 10 rfl rfl ?_
  refine g_put hE fl_X0_39 fp_0_0 dX0_takeGrains_5 0 rfl rfl rfl (Nat.le_of_ble_eq_true rfl) (millW cI a (pA m 9 (upd (m 9) 0 (v 9 0))) ++ (millW cI b v)) rfl ?_
  refine g_aload_n hE dX0_takeGrains_8 1 rfl ?_
  refine g_get hE fl_X0_9 dX0_takeGrains_9 10 rfl rfl ?_
  refine g_aload_n hE dX0_takeGrains_12 0 rfl ?_
  refine g_get hE fl_X0_9 dX0_takeGrains_13 0 rfl rfl ?_
  refine g_callSN hE (c_X4_copyAll_s cI cS (b 1) (a 1) 6 (v 0) (m 0) (by decide)) mk_X4_copyAll st_X4_copyAll nl_X0_57 dX0_takeGrains_16 (As := [.ref (b 1), .ref (a 1)]) (rest := []) rfl rfl (by decide) (by decide) (Nat.le_of_ble_eq_true rfl) (by decide) (by decide) [1, 11] rfl (by decide) (fun u => Nat.le_of_ble_eq_true rfl) (ws' := fun u => millW cI a (pA (pA m 9 (upd (m 9) 0 (v 9 0))) 0 (v 0)) ++ (millW cI b v)) (fun u => rfl) (fun u hu => ?_)
  show Go E Q 2 0 0 19 [(0, .ref (a 0)), (1, .ref (b 0))] [] (millW cI a (pA (pA m 9 (upd (m 9) 0 (v 9 0))) 0 (v 0)) ++ (millW cI b v))
  refine g_aload_n hE dX0_takeGrains_19 1 rfl ?_
  refine g_get hE fl_X0_15 dX0_takeGrains_20 10 rfl rfl ?_
  refine g_aload_n hE dX0_takeGrains_23 0 rfl ?_
  refine g_get hE fl_X0_15 dX0_takeGrains_24 0 rfl rfl ?_
  refine g_callSN hE (c_X4_copyAll_s cI cS (b 2) (a 2) 6 (v 1) (m 1) (by decide)) mk_X4_copyAll st_X4_copyAll nl_X0_57 dX0_takeGrains_27 (As := [.ref (b 2), .ref (a 2)]) (rest := []) rfl rfl (by decide) (by decide) (Nat.le_of_ble_eq_true rfl) (by decide) (by decide) [2, 12] rfl (by decide) (fun u => Nat.le_of_ble_eq_true rfl) (ws' := fun u => millW cI a (pA (pA (pA m 9 (upd (m 9) 0 (v 9 0))) 0 (v 0)) 1 (v 1)) ++ (millW cI b v)) (fun u => rfl) (fun u hu => ?_)
  show Go E Q 2 0 0 30 [(0, .ref (a 0)), (1, .ref (b 0))] [] (millW cI a (pA (pA (pA m 9 (upd (m 9) 0 (v 9 0))) 0 (v 0)) 1 (v 1)) ++ (millW cI b v))
  refine g_aload_n hE dX0_takeGrains_30 1 rfl ?_
  refine g_get hE fl_X0_18 dX0_takeGrains_31 10 rfl rfl ?_
  refine g_aload_n hE dX0_takeGrains_34 0 rfl ?_
  refine g_get hE fl_X0_18 dX0_takeGrains_35 0 rfl rfl ?_
  refine g_callSN hE (c_X4_copyAll_s cI cS (b 3) (a 3) 6 (v 2) (m 2) (by decide)) mk_X4_copyAll st_X4_copyAll nl_X0_57 dX0_takeGrains_38 (As := [.ref (b 3), .ref (a 3)]) (rest := []) rfl rfl (by decide) (by decide) (Nat.le_of_ble_eq_true rfl) (by decide) (by decide) [3, 13] rfl (by decide) (fun u => Nat.le_of_ble_eq_true rfl) (ws' := fun u => millW cI a (pA (pA (pA (pA m 9 (upd (m 9) 0 (v 9 0))) 0 (v 0)) 1 (v 1)) 2 (v 2)) ++ (millW cI b v)) (fun u => rfl) (fun u hu => ?_)
  show Go E Q 2 0 0 41 [(0, .ref (a 0)), (1, .ref (b 0))] [] (millW cI a (pA (pA (pA (pA m 9 (upd (m 9) 0 (v 9 0))) 0 (v 0)) 1 (v 1)) 2 (v 2)) ++ (millW cI b v))
  exact g_vret hE hQ dX0_takeGrains_41 () rfl rfl trivial
set_option maxHeartbeats 4000000 in
set_option maxRecDepth 100000 in
theorem c_X0_takeSieves (cI cS : ClassId) (a b : Nat → Nat) (m v : Nat → Nat → Int32) : CT cI cS yX0_takeSieves cX0_takeSieves 2 none 1 [.ref (a 0), .ref (b 0)] (millW cI a m ++ (millW cI b v)) 0 0 (fun u : Unit => True) (fun u => none) (fun u => (millW cI a (tkV m v) ++ (millW cI b v))) := by
  refine ct_intro (by decide) (Nat.le_of_ble_eq_true rfl) (fun E Q hE hQ hI => ?_)
  have hE : CxOk E cI cS RX0 cX0_takeSieves 2 none 1 0 0 := hE
  show Go E Q 2 0 0 0 [(0, .ref (a 0)), (1, .ref (b 0))] [] (millW cI a m ++ (millW cI b v))
  refine g_aload_n hE dX0_takeSieves_0 0 rfl ?_
  refine g_aload_n hE dX0_takeSieves_1 1 rfl ?_
  refine g_get hE fl_X0_43 dX0_takeSieves_2 10 rfl rfl ?_
  refine g_put hE fl_X0_43 fp_0_1 dX0_takeSieves_5 0 rfl rfl rfl (Nat.le_of_ble_eq_true rfl) (millW cI a (pA m 9 (upd (m 9) 1 (v 9 1))) ++ (millW cI b v)) rfl ?_
  refine g_aload_n hE dX0_takeSieves_8 1 rfl ?_
  refine g_get hE fl_X0_21 dX0_takeSieves_9 10 rfl rfl ?_
  refine g_aload_n hE dX0_takeSieves_12 0 rfl ?_
  refine g_get hE fl_X0_21 dX0_takeSieves_13 0 rfl rfl ?_
  refine g_callSN hE (c_X4_copyAll_s cI cS (b 4) (a 4) 8 (v 3) (m 3) (by decide)) mk_X4_copyAll st_X4_copyAll nl_X0_57 dX0_takeSieves_16 (As := [.ref (b 4), .ref (a 4)]) (rest := []) rfl rfl (by decide) (by decide) (Nat.le_of_ble_eq_true rfl) (by decide) (by decide) [4, 14] rfl (by decide) (fun u => Nat.le_of_ble_eq_true rfl) (ws' := fun u => millW cI a (pA (pA m 9 (upd (m 9) 1 (v 9 1))) 3 (v 3)) ++ (millW cI b v)) (fun u => rfl) (fun u hu => ?_)
  show Go E Q 2 0 0 19 [(0, .ref (a 0)), (1, .ref (b 0))] [] (millW cI a (pA (pA m 9 (upd (m 9) 1 (v 9 1))) 3 (v 3)) ++ (millW cI b v))
  refine g_aload_n hE dX0_takeSieves_19 1 rfl ?_
  refine g_get hE fl_X0_24 dX0_takeSieves_20 10 rfl rfl ?_
  refine g_aload_n hE dX0_takeSieves_23 0 rfl ?_
  refine g_get hE fl_X0_24 dX0_takeSieves_24 0 rfl rfl ?_
  refine g_callSN hE (c_X4_copyAll_s cI cS (b 5) (a 5) 8 (v 4) (m 4) (by decide)) mk_X4_copyAll st_X4_copyAll nl_X0_57 dX0_takeSieves_27 (As := [.ref (b 5), .ref (a 5)]) (rest := []) rfl rfl (by decide) (by decide) (Nat.le_of_ble_eq_true rfl) (by decide) (by decide) [5, 15] rfl (by decide) (fun u => Nat.le_of_ble_eq_true rfl) (ws' := fun u => millW cI a (pA (pA (pA m 9 (upd (m 9) 1 (v 9 1))) 3 (v 3)) 4 (v 4)) ++ (millW cI b v)) (fun u => rfl) (fun u hu => ?_)
  show Go E Q 2 0 0 30 [(0, .ref (a 0)), (1, .ref (b 0))] [] (millW cI a (pA (pA (pA m 9 (upd (m 9) 1 (v 9 1))) 3 (v 3)) 4 (v 4)) ++ (millW cI b v))
  refine g_aload_n hE dX0_takeSieves_30 1 rfl ?_
  refine g_get hE fl_X0_27 dX0_takeSieves_31 10 rfl rfl ?_
  refine g_aload_n hE dX0_takeSieves_34 0 rfl ?_
  refine g_get hE fl_X0_27 dX0_takeSieves_35 0 rfl rfl ?_
  refine g_callSN hE (c_X4_copyAll_s cI cS (b 6) (a 6) 8 (v 5) (m 5) (by decide)) mk_X4_copyAll st_X4_copyAll nl_X0_57 dX0_takeSieves_38 (As := [.ref (b 6), .ref (a 6)]) (rest := []) rfl rfl (by decide) (by decide) (Nat.le_of_ble_eq_true rfl) (by decide) (by decide) [6, 16] rfl (by decide) (fun u => Nat.le_of_ble_eq_true rfl) (ws' := fun u => millW cI a (pA (pA (pA (pA m 9 (upd (m 9) 1 (v 9 1))) 3 (v 3)) 4 (v 4)) 5 (v 5)) ++ (millW cI b v)) (fun u => rfl) (fun u hu => ?_)
  show Go E Q 2 0 0 41 [(0, .ref (a 0)), (1, .ref (b 0))] [] (millW cI a (pA (pA (pA (pA m 9 (upd (m 9) 1 (v 9 1))) 3 (v 3)) 4 (v 4)) 5 (v 5)) ++ (millW cI b v))
  refine g_aload_n hE dX0_takeSieves_41 1 rfl ?_
  refine g_get hE fl_X0_30 dX0_takeSieves_42 10 rfl rfl ?_
  refine g_aload_n hE dX0_takeSieves_45 0 rfl ?_
  refine g_get hE fl_X0_30 dX0_takeSieves_46 0 rfl rfl ?_
  refine g_callSN hE (c_X4_copyAll_s cI cS (b 7) (a 7) 8 (v 6) (m 6) (by decide)) mk_X4_copyAll st_X4_copyAll nl_X0_57 dX0_takeSieves_49 (As := [.ref (b 7), .ref (a 7)]) (rest := []) rfl rfl (by decide) (by decide) (Nat.le_of_ble_eq_true rfl) (by decide) (by decide) [7, 17] rfl (by decide) (fun u => Nat.le_of_ble_eq_true rfl) (ws' := fun u => millW cI a (pA (pA (pA (pA (pA m 9 (upd (m 9) 1 (v 9 1))) 3 (v 3)) 4 (v 4)) 5 (v 5)) 6 (v 6)) ++ (millW cI b v)) (fun u => rfl) (fun u hu => ?_)
  show Go E Q 2 0 0 52 [(0, .ref (a 0)), (1, .ref (b 0))] [] (millW cI a (pA (pA (pA (pA (pA m 9 (upd (m 9) 1 (v 9 1))) 3 (v 3)) 4 (v 4)) 5 (v 5)) 6 (v 6)) ++ (millW cI b v))
  exact g_vret hE hQ dX0_takeSieves_52 () rfl rfl trivial
set_option maxHeartbeats 4000000 in
set_option maxRecDepth 100000 in
theorem c_X0_takeRow (cI cS : ClassId) (a b : Nat → Nat) (m v : Nat → Nat → Int32) : CT cI cS yX0_takeRow cX0_takeRow 2 none 1 [.ref (a 0), .ref (b 0)] (millW cI a m ++ (millW cI b v)) 0 0 (fun u : Unit => True) (fun u => none) (fun u => (millW cI a (tkR m v) ++ (millW cI b v))) := by
  refine ct_intro (by decide) (Nat.le_of_ble_eq_true rfl) (fun E Q hE hQ hI => ?_)
  have hE : CxOk E cI cS RX0 cX0_takeRow 2 none 1 0 0 := hE
  show Go E Q 2 0 0 0 [(0, .ref (a 0)), (1, .ref (b 0))] [] (millW cI a m ++ (millW cI b v))
  refine g_aload_n hE dX0_takeRow_0 0 rfl ?_
  refine g_aload_n hE dX0_takeRow_1 1 rfl ?_
  refine g_get hE fl_X0_46 dX0_takeRow_2 10 rfl rfl ?_
  refine g_put hE fl_X0_46 fp_0_2 dX0_takeRow_5 0 rfl rfl rfl (Nat.le_of_ble_eq_true rfl) (millW cI a (pA m 9 (upd (m 9) 2 (v 9 2))) ++ (millW cI b v)) rfl ?_
  refine g_aload_n hE dX0_takeRow_8 1 rfl ?_
  refine g_get hE fl_X0_33 dX0_takeRow_9 10 rfl rfl ?_
  refine g_aload_n hE dX0_takeRow_12 0 rfl ?_
  refine g_get hE fl_X0_33 dX0_takeRow_13 0 rfl rfl ?_
  refine g_callSN hE (c_X4_copyAll_s cI cS (b 8) (a 8) 6 (v 7) (m 7) (by decide)) mk_X4_copyAll st_X4_copyAll nl_X0_57 dX0_takeRow_16 (As := [.ref (b 8), .ref (a 8)]) (rest := []) rfl rfl (by decide) (by decide) (Nat.le_of_ble_eq_true rfl) (by decide) (by decide) [8, 18] rfl (by decide) (fun u => Nat.le_of_ble_eq_true rfl) (ws' := fun u => millW cI a (pA (pA m 9 (upd (m 9) 2 (v 9 2))) 7 (v 7)) ++ (millW cI b v)) (fun u => rfl) (fun u hu => ?_)
  show Go E Q 2 0 0 19 [(0, .ref (a 0)), (1, .ref (b 0))] [] (millW cI a (pA (pA m 9 (upd (m 9) 2 (v 9 2))) 7 (v 7)) ++ (millW cI b v))
  exact g_vret hE hQ dX0_takeRow_19 () rfl rfl trivial
set_option maxHeartbeats 4000000 in
set_option maxRecDepth 100000 in
theorem c_X0_takeAll (cI cS : ClassId) (a b : Nat → Nat) (m v : Nat → Nat → Int32) : CT cI cS yX0_takeAll cX0_takeAll 2 none 2 [.ref (a 0), .ref (b 0)] (millW cI a m ++ (millW cI b v)) 0 0 (fun u : Unit => True) (fun u => none) (fun u => (millW cI a (tkA m v) ++ (millW cI b v))) := by
  refine ct_intro (by decide) (Nat.le_of_ble_eq_true rfl) (fun E Q hE hQ hI => ?_)
  have hE : CxOk E cI cS RX0 cX0_takeAll 2 none 2 0 0 := hE
  show Go E Q 2 0 0 0 [(0, .ref (a 0)), (1, .ref (b 0))] [] (millW cI a m ++ (millW cI b v))
  refine g_aload_n hE dX0_takeAll_0 0 rfl ?_
  refine g_aload_n hE dX0_takeAll_1 1 rfl ?_
  refine g_callV hE (c_X0_takeGrains cI cS a b m v) mk_X0_takeGrains mv_X0_takeGrains ml_X0_61 dX0_takeAll_2 (As := [.ref (b 0)]) (rest := []) rfl rfl 0 rfl (show vwCl[0]? = some (RX0, TX0, 13) from rfl) (by decide) (by decide) (Nat.le_of_ble_eq_true rfl) (by decide) (by decide) [0, 1, 2, 3, 4, 5, 6, 7, 8, 9, 10, 11, 12, 13, 14, 15, 16, 17, 18, 19] rfl (by decide) (fun u => Nat.le_of_ble_eq_true rfl) (ws' := fun u => millW cI a (tkG m v) ++ (millW cI b v)) (fun u => rfl) (fun u hu => ?_)
  show Go E Q 2 0 0 5 [(0, .ref (a 0)), (1, .ref (b 0))] [] (millW cI a (tkG m v) ++ (millW cI b v))
  refine g_aload_n hE dX0_takeAll_5 0 rfl ?_
  refine g_aload_n hE dX0_takeAll_6 1 rfl ?_
  refine g_callV hE (c_X0_takeSieves cI cS a b (tkG m v) v) mk_X0_takeSieves mv_X0_takeSieves ml_X0_65 dX0_takeAll_7 (As := [.ref (b 0)]) (rest := []) rfl rfl 0 rfl (show vwCl[0]? = some (RX0, TX0, 13) from rfl) (by decide) (by decide) (Nat.le_of_ble_eq_true rfl) (by decide) (by decide) [0, 1, 2, 3, 4, 5, 6, 7, 8, 9, 10, 11, 12, 13, 14, 15, 16, 17, 18, 19] rfl (by decide) (fun u => Nat.le_of_ble_eq_true rfl) (ws' := fun u => millW cI a (tkV (tkG m v) v) ++ (millW cI b v)) (fun u => rfl) (fun u hu => ?_)
  show Go E Q 2 0 0 10 [(0, .ref (a 0)), (1, .ref (b 0))] [] (millW cI a (tkV (tkG m v) v) ++ (millW cI b v))
  refine g_aload_n hE dX0_takeAll_10 0 rfl ?_
  refine g_aload_n hE dX0_takeAll_11 1 rfl ?_
  refine g_callV hE (c_X0_takeRow cI cS a b (tkV (tkG m v) v) v) mk_X0_takeRow mv_X0_takeRow ml_X0_68 dX0_takeAll_12 (As := [.ref (b 0)]) (rest := []) rfl rfl 0 rfl (show vwCl[0]? = some (RX0, TX0, 13) from rfl) (by decide) (by decide) (Nat.le_of_ble_eq_true rfl) (by decide) (by decide) [0, 1, 2, 3, 4, 5, 6, 7, 8, 9, 10, 11, 12, 13, 14, 15, 16, 17, 18, 19] rfl (by decide) (fun u => Nat.le_of_ble_eq_true rfl) (ws' := fun u => millW cI a (tkR (tkV (tkG m v) v) v) ++ (millW cI b v)) (fun u => rfl) (fun u hu => ?_)
  show Go E Q 2 0 0 15 [(0, .ref (a 0)), (1, .ref (b 0))] [] (millW cI a (tkR (tkV (tkG m v) v) v) ++ (millW cI b v))
  refine g_aload_n hE dX0_takeAll_15 0 rfl ?_
  refine g_aload_n hE dX0_takeAll_16 1 rfl ?_
  refine g_get hE fl_X0_71 dX0_takeAll_17 10 rfl rfl ?_
  refine g_put hE fl_X0_71 fp_0_3 dX0_takeAll_20 0 rfl rfl rfl (Nat.le_of_ble_eq_true rfl) (millW cI a (pA (tkR (tkV (tkG m v) v) v) 9 (upd ((tkR (tkV (tkG m v) v) v) 9) 3 (v 9 3))) ++ (millW cI b v)) rfl ?_
  exact g_vret hE hQ dX0_takeAll_23 () rfl rfl trivial
