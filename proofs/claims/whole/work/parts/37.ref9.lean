/-! the reference: meshes, torn -/
theorem ir_1 {m : MS} {x y : Int32} {k : Nat} (hy : y = if inRb m x k = true then 1 else 0) (h : ¬ y = 0 ∨ m 7 k = x) : (1 : Int32) = if inRb m x (k + 1) = true then 1 else 0 := by
  rw [if_pos]
  unfold inRb
  rcases h with h | h
  · cases e : inRb m x k
    · rw [e] at hy; exact absurd hy h
    · rfl
  · rw [decide_eq_true h, Bool.or_true]
theorem ir_0 {m : MS} {x y : Int32} {k : Nat} (hy : y = if inRb m x k = true then 1 else 0) (h0 : y = 0) (h : ¬ m 7 k = x) : (0 : Int32) = if inRb m x (k + 1) = true then 1 else 0 := by
  rw [if_neg]
  unfold inRb
  cases e : inRb m x k
  · rw [decide_eq_false h]; decide
  · rw [e, h0] at hy; exact absurd hy (by decide)
theorem ir_t {m : MS} {x y : Int32} {k : Nat} (hy : y = if inRb m x k = true then 1 else 0) (h0 : ¬ y = 0) : inRb m x k = true := by
  cases e : inRb m x k
  · rw [e] at hy; exact absurd hy h0
  · rfl
theorem ir_f {m : MS} {x y : Int32} {k : Nat} (hy : y = if inRb m x k = true then 1 else 0) (h0 : y = 0) : ¬ inRb m x k = true := by
  intro e
  rw [e, h0] at hy; exact absurd hy (by decide)
theorem sa_ms {q m st : MS} {n sv pl sn : Nat} {x v : Int32} {mh : Nat → Int32} (h : RQ q m n sv pl) (hx : x = nI sn) (hsn : sn < sv) (e0 : st 0 = q 0) (e1 : st 1 = q 1) (e3 : st 3 = q 3) (h8 : ∀ s, s < sv → st 8 s = q 3 (4 * s)) (h9 : st 9 = upd mh sn v) (hm : ∀ s, s < sv → ¬ s = sn → mh s = m 4 s) : SA st (pA m 4 (putv (m 4) 8 x v)) n sv := by
  have hsv8 := h.1.2.2.2.1
  unfold SA
  rw [e0, e1, e3, h9]
  refine ⟨fun g hg => ⟨(h.2.1.1 g hg).1, (h.2.1.1 g hg).2.1⟩, fun s hs => ⟨(h8 s hs).trans (h.2.1.2.1 s hs).1, ?_, (h.2.1.2.1 s hs).2.2.1⟩⟩
  show upd mh sn v s = putv (m 4) 8 x v s
  rw [hx, putv_n (by omega) (by decide)]
  by_cases e : s = sn
  · subst e; rw [upd_at, upd_at]
  · rw [upd_o e, upd_o e]; exact hm s hs e
theorem sa_tr {q m st : MS} {n sv pl s : Nat} {r : Int32} {tk : Nat → Int32} (h : RQ q m n sv pl) (hr : r = nI s) (hs : s < sv) (e0 : st 0 = q 0) (e1 : st 1 = q 1) (e3 : st 3 = q 3) (h8 : st 8 = upd tk s 3) (h9 : ∀ s, s < sv → st 9 s = q 3 (4 * s + 1)) (hm : ∀ s, s < sv → tk s = m 3 s) : SA st (pA m 3 (putv (m 3) 8 r 3)) n sv := by
  have hsv8 := h.1.2.2.2.1
  unfold SA
  rw [e0, e1, e3, h8]
  refine ⟨fun g hg => ⟨(h.2.1.1 g hg).1, (h.2.1.1 g hg).2.1⟩, fun j hj => ⟨?_, (h9 j hj).trans (h.2.1.2.1 j hj).2.1, (h.2.1.2.1 j hj).2.2.1⟩⟩
  show upd tk s 3 j = putv (m 3) 8 r 3 j
  rw [hr, putv_n (by omega) (by decide)]
  by_cases e : j = s
  · subst e; rw [upd_at, upd_at]
  · rw [upd_o e, upd_o e]; exact hm j hj
theorem mz_y {m : MS} {n pl j : Nat} {T : Nat → Int32} {x i i2 : Int32} {z : Int64} (hz : z = msS m n pl T x i j) (hi : i = i2) (h : boB (pA m 4 (putv (m 4) 8 x (nI (j + 1)))) n pl T i2 n = true) : z ||| (1 <<< ((nI (j + 1 - 1)).toInt64 &&& 63)) = msS m n pl T x i (j + 1) := by
  rw [msS, if_pos (by rw [hi]; exact h), hz, Nat.add_sub_cancel]
theorem mz_n {m : MS} {n pl j : Nat} {T : Nat → Int32} {x i i2 : Int32} {z : Int64} (hz : z = msS m n pl T x i j) (hi : i = i2) (h : ¬ boB (pA m 4 (putv (m 4) 8 x (nI (j + 1)))) n pl T i2 n = true) : z ||| 0 = msS m n pl T x i (j + 1) := by
  rw [msS, if_neg (by rw [hi]; exact h), hz, Int64.or_zero]
theorem tz_y {m : MS} {n pl p : Nat} {T : Nat → Int32} {i i2 y : Int32} (hy : y = trS m n pl T i p) (hi : i = i2) (h : boB (pA m 3 (putv (m 3) 8 (m 7 p) 3)) n pl T i2 n = true) : y ||| ((1 : Int32) <<< (nI p &&& 31)) = trS m n pl T i (p + 1) := by
  rw [trS, if_pos (by rw [hi]; exact h), hy]
theorem tz_n {m : MS} {n pl p : Nat} {T : Nat → Int32} {i i2 y : Int32} (hy : y = trS m n pl T i p) (hi : i = i2) (h : ¬ boB (pA m 3 (putv (m 3) 8 (m 7 p) 3)) n pl T i2 n = true) : y ||| 0 = trS m n pl T i (p + 1) := by
  rw [trS, if_neg (by rw [hi]; exact h), hy, Int32.or_zero]
theorem tz_0 {m : MS} {n pl : Nat} {T : Nat → Int32} {i i2 : Int32} (hi : i = i2) (h : boB m n pl T i2 n = true) : 128 = trS m n pl T i 0 := by rw [trS, if_pos (by rw [hi]; exact h)]
theorem tz_z {m : MS} {n pl : Nat} {T : Nat → Int32} {i i2 : Int32} (hi : i = i2) (h : ¬ boB m n pl T i2 n = true) : 0 = trS m n pl T i 0 := by rw [trS, if_neg (by rw [hi]; exact h)]
theorem tk_back {m : MS} {q3 tk : Nat → Int32} {sv s : Nat} (h : ∀ j, j < sv → tk j = m 3 j) (hq : q3 (4 * s) = m 3 s) : ∀ j, j < sv → upd (upd tk s 3) s (q3 (4 * s)) j = m 3 j := fun j hj => by
  by_cases e : j = s
  · subst e; rw [upd_at]; exact hq
  · rw [upd_o e, upd_o e]; exact h j hj
theorem mh_up {m : MS} {mh : Nat → Int32} {sv sn : Nat} {v : Int32} (h : ∀ s, s < sv → ¬ s = sn → mh s = m 4 s) : ∀ s, s < sv → ¬ s = sn → upd mh sn v s = m 4 s := fun s hs e => by rw [upd_o e]; exact h s hs e
theorem sq_T {q : MS} {sh : SHS} {k i n : Nat} (h : SQ q sh) (hk : k < 4) (hn : ¬ sh k 1 0 = -1) (hi : i + n ≤ 24) : ∀ g, g < n → q 16 (24 * k + i + g) = sh k 0 (i + g) := fun g hg => by
  have r := (h k hk).2.2.resolve_left hn
  rw [show 24 * k + i + g = 24 * k + (i + g) by omega]
  exact r.2.2.2 _ (by omega)
theorem mesh_bad {m : MS} {n pl k : Nat} {sh : SHS} {x y l i : Int32} (hk : SK k y) (h : ¬ ((0 ≤ y ∧ y ≤ 3) ∧ 0 ≤ l ∧ l ≤ 2)) : fMesh m n pl sh k x l i = -1 := by
  unfold fMesh
  rw [sb_ite (sk_bad hk h), ite_self]
set_option maxHeartbeats 4000000 in
set_option maxRecDepth 100000 in
theorem c_X5_meshes (cI cS : ClassId) (a : Nat → Nat) (q : Nat → Nat → Int32) {n sv pl : Nat} (m : MS) (hRQ : RQ q m n sv pl) (sh : SHS) (hSQ : SQ q sh) (x y l i : Int32) (k : Nat) (hk : SK k y) : CT cI cS yX5_meshes cX5_meshes 10 (some .long) 3 [.ref (a 0), .int x, .int y, .int l, .int i] (modelW cI a q) 0 0 (fun u : Int64 × (Nat → Nat → Int32) => u.1 = fMesh m n pl sh k x l i ∧ TF u.2 q ∧ OF u.2 q) (fun u => some (.long u.1)) (fun u => (modelW cI a u.2)) := by
  refine ct_intro (by decide) (Nat.le_of_ble_eq_true rfl) (fun E Q hE hQ hI => ?_)
  have hE : CxOk E cI cS RX5 cX5_meshes 10 (some .long) 3 0 0 := hE
  show Go E Q 10 0 0 0 [(0, .ref (a 0)), (1, .int x), (2, .int y), (3, .int l), (4, .int i)] [] (modelW cI a q)
  have hM := hRQ.1
  have hTQ := hRQ.2.1
  have hRG := hRQ.2.2
  have hgr := hTQ.2.2.2.1
  have hsv := hTQ.2.2.2.2.1
  have hpl := hTQ.2.2.2.2.2.1
  have hn6 := hM.2.1
  have hsv8 := hM.2.2.2.1
  have hpl6 := hM.2.2.2.2.2
  have hc0 : m 9 0 = q 18 0 := hM.1.trans hgr.symm
  have hc1 : m 9 1 = q 18 1 := hM.2.2.1.trans hsv.symm
  have hc2 : m 9 2 = q 18 2 := hM.2.2.2.2.1.trans hpl.symm
  refine g_aload_n hE dX5_meshes_0 0 rfl ?_
  refine g_iload_n hE dX5_meshes_1 1 rfl ?_
  refine g_callV hE (c_X5_isSieve cI cS a q hsv hsv8 x) mk_X5_isSieve mv_X5_isSieve ml_X5_99 dX5_meshes_2 (As := [.int x]) (rest := []) rfl rfl 0 rfl (show vwCl[5]? = some (RX5, TX5, 32) from rfl) (by decide) (by decide) (Nat.le_of_ble_eq_true rfl) (by decide) (by decide) [0, 1, 2, 3, 4, 5, 6, 7, 8, 9, 10, 11, 12, 13, 14, 15, 16, 17, 18] rfl (by decide) (fun u => Nat.le_of_ble_eq_true rfl) (ws' := fun u => modelW cI a q) (fun u => rfl) (fun u hu => ?_)
  obtain ⟨r_1, rfl⟩ : ∃ z, z = u := ⟨_, rfl⟩
  have h2 : r_1 = if 0 ≤ x ∧ x < (q 18 1) then 1 else 0 := hu
  by_cases c3 : 0 ≤ x ∧ x < (q 18 1)
  · rw [if_pos c3] at h2
    subst h2
    show Go E Q 10 0 0 5 [(0, .ref (a 0)), (1, .int x), (2, .int y), (3, .int l), (4, .int i)] [.int 1] (modelW cI a q)
    refine g_if_eq hE 16 dX5_meshes_5 (by decide) (fun c4 => absurd c4 (by decide)) (fun c4 => ?_)
    refine g_iload_n hE dX5_meshes_8 2 rfl ?_
    refine g_iload_n hE dX5_meshes_9 3 rfl ?_
    refine g_callS hE (c_X5_isSheet cI cS y l) mk_X5_isSheet st_X5_isSheet ml_X5_254 dX5_meshes_10 (As := [.int y, .int l]) (rest := []) rfl rfl (by decide) (by decide) (Nat.le_of_ble_eq_true rfl) (by decide) (by decide) [] rfl (by decide) (fun u => Nat.le_of_ble_eq_true rfl) (ws' := fun u => modelW cI a q) (fun u => rfl) (fun u hu => ?_)
    obtain ⟨r_5, rfl⟩ : ∃ z, z = u := ⟨_, rfl⟩
    have h6 : r_5 = if (0 ≤ y ∧ y ≤ 3) ∧ 0 ≤ l ∧ l ≤ 2 then 1 else 0 := hu
    by_cases c7 : (0 ≤ y ∧ y ≤ 3) ∧ 0 ≤ l ∧ l ≤ 2
    · rw [if_pos c7] at h6
      subst h6
      show Go E Q 10 0 0 13 [(0, .ref (a 0)), (1, .int x), (2, .int y), (3, .int l), (4, .int i)] [.int 1] (modelW cI a q)
      refine g_if_ne hE 20 dX5_meshes_13 (by decide) (fun c8 => ?_) (fun c8 => absurd c8 (by decide))
      obtain ⟨sn, hsnl, hsn, hsnc⟩ := nat_of_lt c3 hsv (by omega)
      obtain ⟨hk4, hkn⟩ := sk_good hk c7.1
      have hk4n : ¬ k = 4 := (by omega)
      refine g_aload_n hE dX5_meshes_20 0 rfl ?_
      refine g_callV hE (c_X5_begin cI cS a q hsv hsv8) mk_X5_begin mv_X5_begin ml_X5_183 dX5_meshes_21 (As := []) (rest := []) rfl rfl 0 rfl (show vwCl[5]? = some (RX5, TX5, 32) from rfl) (by decide) (by decide) (Nat.le_of_ble_eq_true rfl) (by decide) (by decide) [0, 1, 2, 3, 4, 5, 6, 7, 8, 9, 10, 11, 12, 13, 14, 15, 16, 17, 18] rfl (by decide) (fun u => Nat.le_of_ble_eq_true rfl) (ws' := fun u => modelW cI a (pA (pA q 8 u.1) 9 u.2)) (fun u => rfl) (fun u hu => ?_)
      obtain ⟨tk_9, ms_10⟩ := u
      have h11 : ∀ s, s < sv → tk_9 s = (q 3) (4 * s) ∧ ms_10 s = (q 3) (4 * s + 1) := hu
      show Go E Q 10 0 0 24 [(0, .ref (a 0)), (1, .int x), (2, .int y), (3, .int l), (4, .int i)] [] (modelW cI a (pA (pA q 8 tk_9) 9 ms_10))
      refine g_aload_n hE dX5_meshes_24 0 rfl ?_
      refine g_callV hE (c_X5_takeRow cI cS a (pA (pA q 8 tk_9) 9 ms_10) hpl hpl6) mk_X5_takeRow mv_X5_takeRow ml_X5_186 dX5_meshes_25 (As := []) (rest := []) rfl rfl 0 rfl (show vwCl[5]? = some (RX5, TX5, 32) from rfl) (by decide) (by decide) (Nat.le_of_ble_eq_true rfl) (by decide) (by decide) [0, 1, 2, 3, 4, 5, 6, 7, 8, 9, 10, 11, 12, 13, 14, 15, 16, 17, 18] rfl (by decide) (fun u => Nat.le_of_ble_eq_true rfl) (ws' := fun u => modelW cI a (pA (pA (pA (pA q 8 tk_9) 9 ms_10) 18 (upd (q 18) 7 (q 18 2))) 7 u)) (fun u => rfl) (fun u hu => ?_)
      obtain ⟨tr_12, rfl⟩ : ∃ z, z = u := ⟨_, rfl⟩
      have h13 : ∀ k, k < pl → tr_12 k = (q 4) k := hu
      show Go E Q 10 0 0 28 [(0, .ref (a 0)), (1, .int x), (2, .int y), (3, .int l), (4, .int i)] [] (modelW cI a (pA (pA (pA (pA q 8 tk_9) 9 ms_10) 18 (upd (q 18) 7 (q 18 2))) 7 tr_12))
      refine g_iconst hE dX5_meshes_28 0 (by decide) ?_
      refine g_istore hE dX5_meshes_29 [(5, .int 0), (0, .ref (a 0)), (1, .int x), (2, .int y), (3, .int l), (4, .int i)] (by decide) rfl ?_
      refine g_iconst hE dX5_meshes_31 0 (by decide) ?_
      refine g_istore hE dX5_meshes_32 [(6, .int 0), (5, .int 0), (0, .ref (a 0)), (1, .int x), (2, .int y), (3, .int l), (4, .int i)] (by decide) rfl ?_
      have L34 : ∀ (n_34 : Nat) (k3 : Nat) (f : Int32), (k3 ≤ pl) → (f = if inRb m x k3 = true then 1 else 0) → (pl - k3 < n_34) → Go E Q 10 0 0 34 [(0, .ref (a 0)), (1, .int x), (2, .int y), (3, .int l), (4, .int i), (5, .int f), (6, .int (nI k3))] [] (modelW cI a (pA (pA (pA (pA q 8 tk_9) 9 ms_10) 18 (upd (q 18) 7 (q 18 2))) 7 tr_12)) := by
        intro n_34
        induction n_34 with
        | zero => intro k3 f hk3 hf hm_34; exact absurd hm_34 (Nat.not_lt_zero _)
        | succ n_34 ih_34 =>
          intro k3 f hk3 hf hm_34
          refine g_iload hE dX5_meshes_34 6 rfl ?_
          refine g_aload_n hE dX5_meshes_36 0 rfl ?_
          refine g_get hE fl_X5_164 dX5_meshes_37 0 rfl rfl ?_
          refine g_icmp_ge hE 72 dX5_meshes_40 (by decide) (fun c14 => ?_) (fun c14 => ?_)
          · have kc14 := nat_le_t (show (q 18 2) = nI pl from hpl) (show (nI k3) = nI k3 from rfl) (by omega) (by omega) c14
            refine g_iload hE dX5_meshes_72 5 rfl ?_
            refine g_if_eq hE 87 dX5_meshes_74 (by decide) (fun c15 => ?_) (fun c15 => ?_)
            · refine g_ldc2 hE dX5_meshes_87 cl_X5_232 ?_
              exact g_lret hE hQ dX5_meshes_90 ((-2), (pA (pA (pA (pA q 8 tk_9) 9 ms_10) 18 (upd (q 18) 7 (q 18 2))) 7 tr_12)) rfl rfl ⟨(by rw [fMesh, hc1, if_pos c3, if_neg hk4n, if_pos c7.2, if_neg (ir_f (by have e : k3 = pl := (by omega); rw [e] at hf; exact hf) (show f = 0 from c15))]), ⟨⟨rfl, rfl, rfl, rfl, rfl, rfl, rfl, rfl, rfl⟩, ⟨rfl, rfl, rfl, rfl, rfl, rfl, rfl⟩⟩⟩
            · refine g_aload_n hE dX5_meshes_77 0 rfl ?_
              refine g_get hE fl_X5_34 dX5_meshes_78 0 rfl rfl ?_
              refine g_iload_n hE dX5_meshes_81 1 rfl ?_
              refine g_iald_n hE dX5_meshes_82 9 rfl (show x = nI sn from hsn) (by omega) ?_
              refine g_iconst hE dX5_meshes_83 3 (by decide) ?_
              refine g_icmp_ne hE 91 dX5_meshes_84 (by decide) (fun c16 => ?_) (fun c16 => ?_)
              · refine g_aload_n hE dX5_meshes_91 0 rfl ?_
                refine g_iload_n hE dX5_meshes_92 2 rfl ?_
                refine g_iload_n hE dX5_meshes_93 3 rfl ?_
                refine g_iload hE dX5_meshes_94 4 rfl ?_
                refine g_aload_n hE dX5_meshes_96 0 rfl ?_
                refine g_get hE fl_X5_64 dX5_meshes_97 0 rfl rfl ?_
                refine g_callV hE (c_X5_lacksRow cI cS a (pA (pA (pA (pA q 8 tk_9) 9 ms_10) 18 (upd (q 18) 7 (q 18 2))) 7 tr_12) sh hSQ y k hk4 hkn l i (q 18 0) n c7.2.1 (show (q 18 0) = nI n from hgr) (by omega)) mk_X5_lacksRow mv_X5_lacksRow ml_X5_257 dX5_meshes_100 (As := [.int y, .int l, .int i, .int (q 18 0)]) (rest := []) rfl rfl 0 rfl (show vwCl[5]? = some (RX5, TX5, 32) from rfl) (by decide) (by decide) (Nat.le_of_ble_eq_true rfl) (by decide) (by decide) [0, 1, 2, 3, 4, 5, 6, 7, 8, 9, 10, 11, 12, 13, 14, 15, 16, 17, 18] rfl (by decide) (fun u => Nat.le_of_ble_eq_true rfl) (ws' := fun u => modelW cI a (pA (pA (pA (pA q 8 tk_9) 9 ms_10) 18 (upd (q 18) 7 (q 18 2))) 7 tr_12)) (fun u => rfl) (fun u hu => ?_)
                obtain ⟨r_17, rfl⟩ : ∃ z, z = u := ⟨_, rfl⟩
                have h18 : r_17 = (refS (sh k 1 0) (sh k 1 1) l i (q 18 0)) := hu
                subst h18
                show Go E Q 10 0 0 103 [(0, .ref (a 0)), (1, .int x), (2, .int y), (3, .int l), (4, .int i), (5, .int f), (6, .int (nI k3))] [.int (refS (sh k 1 0) (sh k 1 1) l i (q 18 0))] (modelW cI a (pA (pA (pA (pA q 8 tk_9) 9 ms_10) 18 (upd (q 18) 7 (q 18 2))) 7 tr_12))
                refine g_istore hE dX5_meshes_103 [(6, .int (refS (sh k 1 0) (sh k 1 1) l i (q 18 0))), (0, .ref (a 0)), (1, .int x), (2, .int y), (3, .int l), (4, .int i), (5, .int f)] (by decide) rfl ?_
                refine g_iload hE dX5_meshes_105 0 rfl ?_
                refine g_if_ge hE 114 dX5_meshes_107 (by decide) (fun c19 => ?_) (fun c19 => ?_)
                · have hrz := ref_z (show ¬ (refS (sh k 1 0) (sh k 1 1) l i (q 18 0)) < 0 from (Int32.not_lt.mpr c19))
                  obtain ⟨hon, hln, hhas⟩ := ref_has hrz
                  obtain ⟨ij, hij, hijn⟩ := has_nat hhas (hSQ k hk4).2.1 (W := n) hgr (by omega)
                  refine g_lconst hE dX5_meshes_114 0 (by decide) ?_
                  refine g_lstore hE dX5_meshes_115 [(7, .long 0), (6, .int (refS (sh k 1 0) (sh k 1 1) l i (q 18 0))), (0, .ref (a 0)), (1, .int x), (2, .int y), (3, .int l), (4, .int i), (5, .int f)] (by decide) rfl ?_
                  refine g_iconst hE dX5_meshes_117 1 (by decide) ?_
                  refine g_istore hE dX5_meshes_118 [(9, .int 1), (7, .long 0), (6, .int (refS (sh k 1 0) (sh k 1 1) l i (q 18 0))), (0, .ref (a 0)), (1, .int x), (2, .int y), (3, .int l), (4, .int i), (5, .int f)] (by decide) rfl ?_
                  have L120 : ∀ (n_120 : Nat) (j : Nat) (z : Int64) (mh2 : Nat → Int32) (h : Nat → Int32) (cho : Int32) (fal : Int32), (j ≤ 60) → (z = msS m n pl (sh k 0) x i j) → (∀ s, s < sv → ¬ s = sn → mh2 s = m 4 s) → (60 - j < n_120) → Go E Q 10 0 0 120 [(0, .ref (a 0)), (1, .int x), (2, .int y), (3, .int l), (4, .int i), (7, .long z), (9, .int (nI (j + 1)))] [] (modelW cI a (pA (pA (pA (pA (pA q 8 tk_9) 9 mh2) 7 tr_12) 10 h) 18 (upd (upd (upd (q 18) 7 (q 18 2)) 8 cho) 9 fal))) := by
                    intro n_120
                    induction n_120 with
                    | zero => intro j z mh2 h cho fal hj hz hmh hm_120; exact absurd hm_120 (Nat.not_lt_zero _)
                    | succ n_120 ih_120 =>
                      intro j z mh2 h cho fal hj hz hmh hm_120
                      refine g_iload hE dX5_meshes_120 6 rfl ?_
                      refine g_bipush hE dX5_meshes_122 60 (by decide) ?_
                      refine g_icmp_gt hE 170 dX5_meshes_124 (by decide) (fun c20 => ?_) (fun c20 => ?_)
                      · have kc20 := nat_lt_t (show 60 = nI 60 from rfl) (show (nI (j + 1)) = nI (j + 1) from rfl) (by omega) (by omega) c20
                        refine g_lload hE dX5_meshes_170 5 rfl ?_
                        exact g_lret hE hQ dX5_meshes_172 (z, (pA (pA (pA (pA (pA q 8 tk_9) 9 mh2) 7 tr_12) 10 h) 18 (upd (upd (upd (q 18) 7 (q 18 2)) 8 cho) 9 fal))) rfl rfl ⟨(by rw [fMesh, hc1, if_pos c3, if_neg hk4n, if_pos c7.2, if_pos (ir_t (by have e : k3 = pl := (by omega); rw [e] at hf; exact hf) (show ¬ f = 0 from c15)), if_neg (fun z => (show ¬ (tk_9 sn) = 3 from c16) ((show atv (m 3) 8 x = tk_9 sn by rw [show x = nI sn from hsn, atv_n (by omega) (by decide)]; exact ((h11 sn hsnl).1.trans (hTQ.2.1 sn hsnl).1).symm).symm.trans z)), hc0, if_pos hrz, hz, show j = 60 by omega]), ⟨⟨rfl, rfl, rfl, rfl, rfl, rfl, rfl, rfl, rfl⟩, ⟨rfl, rfl, rfl, rfl, rfl, rfl, rfl⟩⟩⟩
                      · have kc20 := nat_lt_f (show 60 = nI 60 from rfl) (show (nI (j + 1)) = nI (j + 1) from rfl) (by omega) (by omega) c20
                        refine g_aload_n hE dX5_meshes_127 0 rfl ?_
                        refine g_get hE fl_X5_37 dX5_meshes_128 0 rfl rfl ?_
                        refine g_iload_n hE dX5_meshes_131 1 rfl ?_
                        refine g_iload hE dX5_meshes_132 6 rfl ?_
                        refine g_iast_n hE dX5_meshes_134 10 rfl (show x = nI sn from hsn) (by omega) (modelW cI a (pA (pA (pA (pA (pA (pA q 8 tk_9) 9 mh2) 7 tr_12) 10 h) 18 (upd (upd (upd (q 18) 7 (q 18 2)) 8 cho) 9 fal)) 9 (upd mh2 sn (nI (j + 1))))) rfl ?_
                        refine g_lload hE dX5_meshes_135 5 rfl ?_
                        refine g_aload_n hE dX5_meshes_137 0 rfl ?_
                        refine g_bipush hE dX5_meshes_138 24 (by decide) ?_
                        refine g_iload_n hE dX5_meshes_140 2 rfl ?_
                        refine g_imul_n hE dX5_meshes_141 (show 24 = nI 24 from rfl) (show y = nI k from hkn) ?_
                        refine g_iload hE dX5_meshes_142 4 rfl ?_
                        refine g_iadd_n hE dX5_meshes_144 (show (nI (24 * k)) = nI (24 * k) from rfl) (show i = nI ij from hijn) ?_
                        refine g_callV hE (c_X5_areFound cI cS a (pA (pA (pA (pA (pA (pA q 8 tk_9) 9 mh2) 7 tr_12) 10 h) 18 (upd (upd (upd (q 18) 7 (q 18 2)) 8 cho) 9 fal)) 9 (upd mh2 sn (nI (j + 1)))) hgr hn6 hpl hpl6 hsv8 (pA m 4 (putv (m 4) 8 x (nI (j + 1)))) (sa_ms hRQ hsn hsnl rfl rfl rfl (fun s hs => (h11 s hs).1) rfl hmh) (show RA _ (m 7) pl sv from ra_mk (m := m) hTQ h13) (nI ((24 * k) + ij)) ((24 * k) + ij) (show (nI ((24 * k) + ij)) = nI ((24 * k) + ij) from rfl) ij (sh k 0) hij (by omega) (sq_T hSQ hk4 hon hij) (fun g hg => (hRG.1 g hg).2.2.1)) mk_X5_areFound mv_X5_areFound ml_X5_264 dX5_meshes_145 (As := [.int (nI ((24 * k) + ij))]) (rest := [.long z]) rfl rfl 0 rfl (show vwCl[5]? = some (RX5, TX5, 32) from rfl) (by decide) (by decide) (Nat.le_of_ble_eq_true rfl) (by decide) (by decide) [0, 1, 2, 3, 4, 5, 6, 7, 8, 9, 10, 11, 12, 13, 14, 15, 16, 17, 18] rfl (by decide) (fun u => Nat.le_of_ble_eq_true rfl) (ws' := fun u => modelW cI a (pA (pA (pA (pA (pA (pA (pA (pA q 8 tk_9) 9 mh2) 7 tr_12) 10 h) 18 (upd (upd (upd (q 18) 7 (q 18 2)) 8 cho) 9 fal)) 9 (upd mh2 sn (nI (j + 1)))) 10 u.2) 18 (upd (upd (upd (upd (upd (q 18) 7 (q 18 2)) 8 cho) 9 fal) 8 (chR (pA m 4 (putv (m 4) 8 x (nI (j + 1)))) n ((pA m 4 (putv (m 4) 8 x (nI (j + 1)))) 7) pl)) 9 (nI (flN (pA m 4 (putv (m 4) 8 x (nI (j + 1)))) n ((pA m 4 (putv (m 4) 8 x (nI (j + 1)))) 7) pl))))) (fun u => rfl) (fun u hu => ?_)
                        obtain ⟨r_21, h_22⟩ := u
                        have h23 : r_21 = if boB (pA m 4 (putv (m 4) 8 x (nI (j + 1)))) n pl (sh k 0) (nI ij) n = true then 1 else 0 := hu
                        by_cases c24 : boB (pA m 4 (putv (m 4) 8 x (nI (j + 1)))) n pl (sh k 0) (nI ij) n = true
                        · rw [if_pos c24] at h23
                          subst h23
                          show Go E Q 10 0 0 148 [(0, .ref (a 0)), (1, .int x), (2, .int y), (3, .int l), (4, .int i), (7, .long z), (9, .int (nI (j + 1)))] [.int 1, .long z] (modelW cI a (pA (pA (pA (pA (pA (pA (pA (pA q 8 tk_9) 9 mh2) 7 tr_12) 10 h) 18 (upd (upd (upd (q 18) 7 (q 18 2)) 8 cho) 9 fal)) 9 (upd mh2 sn (nI (j + 1)))) 10 h_22) 18 (upd (upd (upd (upd (upd (q 18) 7 (q 18 2)) 8 cho) 9 fal) 8 (chR (pA m 4 (putv (m 4) 8 x (nI (j + 1)))) n ((pA m 4 (putv (m 4) 8 x (nI (j + 1)))) 7) pl)) 9 (nI (flN (pA m 4 (putv (m 4) 8 x (nI (j + 1)))) n ((pA m 4 (putv (m 4) 8 x (nI (j + 1)))) 7) pl)))))
                          refine g_if_eq hE 160 dX5_meshes_148 (by decide) (fun c25 => absurd c25 (by decide)) (fun c25 => ?_)
                          refine g_lconst hE dX5_meshes_151 1 (by decide) ?_
                          refine g_iload hE dX5_meshes_152 6 rfl ?_
                          refine g_iconst hE dX5_meshes_154 1 (by decide) ?_
                          refine g_isub_n hE dX5_meshes_155 (show (nI (j + 1)) = nI (j + 1) from rfl) (show 1 = nI 1 from rfl) (by omega) ?_
                          refine g_lshl hE dX5_meshes_156 ?_
                          refine g_goto hE 161 dX5_meshes_157 (by decide) ?_
                          refine g_lor hE dX5_meshes_161 ?_
                          refine g_lstore hE dX5_meshes_162 [(7, .long (z ||| (1 <<< (Int32.toInt64 (nI ((j + 1) - 1)) &&& 63)))), (0, .ref (a 0)), (1, .int x), (2, .int y), (3, .int l), (4, .int i), (9, .int (nI (j + 1)))] (by decide) rfl ?_
                          refine g_iinc hE dX5_meshes_164 6 (nI ((j + 1) + 1)) [(9, .int (nI ((j + 1) + 1))), (7, .long (z ||| (1 <<< (Int32.toInt64 (nI ((j + 1) - 1)) &&& 63)))), (0, .ref (a 0)), (1, .int x), (2, .int y), (3, .int l), (4, .int i)] rfl (nI_1 _) (by decide) rfl ?_
                          refine g_goto hE 120 dX5_meshes_167 (by decide) ?_
                          refine g_locals [2, 3, 4, 5, 6, 1, 0] [(0, .ref (a 0)), (1, .int x), (2, .int y), (3, .int l), (4, .int i), (7, .long (z ||| (1 <<< (Int32.toInt64 (nI ((j + 1) - 1)) &&& 63)))), (9, .int (nI ((j + 1) + 1)))] rfl ?_
                          exact ih_120 (j + 1) (z ||| (1 <<< (Int32.toInt64 (nI ((j + 1) - 1)) &&& 63))) (upd mh2 sn (nI (j + 1))) h_22 (chR (pA m 4 (putv (m 4) 8 x (nI (j + 1)))) n ((pA m 4 (putv (m 4) 8 x (nI (j + 1)))) 7) pl) (nI (flN (pA m 4 (putv (m 4) 8 x (nI (j + 1)))) n ((pA m 4 (putv (m 4) 8 x (nI (j + 1)))) 7) pl)) (by first | assumption | omega) (mz_y hz hijn c24) (mh_up hmh) (by omega)
                        · rw [if_neg c24] at h23
                          subst h23
                          show Go E Q 10 0 0 148 [(0, .ref (a 0)), (1, .int x), (2, .int y), (3, .int l), (4, .int i), (7, .long z), (9, .int (nI (j + 1)))] [.int 0, .long z] (modelW cI a (pA (pA (pA (pA (pA (pA (pA (pA q 8 tk_9) 9 mh2) 7 tr_12) 10 h) 18 (upd (upd (upd (q 18) 7 (q 18 2)) 8 cho) 9 fal)) 9 (upd mh2 sn (nI (j + 1)))) 10 h_22) 18 (upd (upd (upd (upd (upd (q 18) 7 (q 18 2)) 8 cho) 9 fal) 8 (chR (pA m 4 (putv (m 4) 8 x (nI (j + 1)))) n ((pA m 4 (putv (m 4) 8 x (nI (j + 1)))) 7) pl)) 9 (nI (flN (pA m 4 (putv (m 4) 8 x (nI (j + 1)))) n ((pA m 4 (putv (m 4) 8 x (nI (j + 1)))) 7) pl)))))
                          refine g_if_eq hE 160 dX5_meshes_148 (by decide) (fun c26 => ?_) (fun c26 => absurd (by decide) c26)
                          refine g_lconst hE dX5_meshes_160 0 (by decide) ?_
                          refine g_lor hE dX5_meshes_161 ?_
                          refine g_lstore hE dX5_meshes_162 [(7, .long (z ||| 0)), (0, .ref (a 0)), (1, .int x), (2, .int y), (3, .int l), (4, .int i), (9, .int (nI (j + 1)))] (by decide) rfl ?_
                          refine g_iinc hE dX5_meshes_164 6 (nI ((j + 1) + 1)) [(9, .int (nI ((j + 1) + 1))), (7, .long (z ||| 0)), (0, .ref (a 0)), (1, .int x), (2, .int y), (3, .int l), (4, .int i)] rfl (nI_1 _) (by decide) rfl ?_
                          refine g_goto hE 120 dX5_meshes_167 (by decide) ?_
                          refine g_locals [2, 3, 4, 5, 6, 1, 0] [(0, .ref (a 0)), (1, .int x), (2, .int y), (3, .int l), (4, .int i), (7, .long (z ||| 0)), (9, .int (nI ((j + 1) + 1)))] rfl ?_
                          exact ih_120 (j + 1) (z ||| 0) (upd mh2 sn (nI (j + 1))) h_22 (chR (pA m 4 (putv (m 4) 8 x (nI (j + 1)))) n ((pA m 4 (putv (m 4) 8 x (nI (j + 1)))) 7) pl) (nI (flN (pA m 4 (putv (m 4) 8 x (nI (j + 1)))) n ((pA m 4 (putv (m 4) 8 x (nI (j + 1)))) 7) pl)) (by first | assumption | omega) (mz_n hz hijn c24) (mh_up hmh) (by omega)
                  refine g_locals [3, 4, 5, 6, 7, 1, 0] [(0, .ref (a 0)), (1, .int x), (2, .int y), (3, .int l), (4, .int i), (7, .long 0), (9, .int 1)] rfl ?_
                  exact L120 _ 0 0 ms_10 (q 10) (q 18 8) (q 18 9) (Nat.zero_le _) rfl (fun s hs _ => (h11 s hs).2.trans (hTQ.2.1 s hs).2.1) (Nat.lt_succ_self _)
                · refine g_iload hE dX5_meshes_110 0 rfl ?_
                  refine g_i2l hE dX5_meshes_112 ?_
                  exact g_lret hE hQ dX5_meshes_113 ((Int32.toInt64 (refS (sh k 1 0) (sh k 1 1) l i (q 18 0))), (pA (pA (pA (pA q 8 tk_9) 9 ms_10) 18 (upd (q 18) 7 (q 18 2))) 7 tr_12)) rfl rfl ⟨(by rw [fMesh, hc1, if_pos c3, if_neg hk4n, if_pos c7.2, if_pos (ir_t (by have e : k3 = pl := (by omega); rw [e] at hf; exact hf) (show ¬ f = 0 from c15)), if_neg (fun z => (show ¬ (tk_9 sn) = 3 from c16) ((show atv (m 3) 8 x = tk_9 sn by rw [show x = nI sn from hsn, atv_n (by omega) (by decide)]; exact ((h11 sn hsnl).1.trans (hTQ.2.1 sn hsnl).1).symm).symm.trans z)), hc0, if_neg (ref_nz (show (refS (sh k 1 0) (sh k 1 1) l i (q 18 0)) < 0 from (Int32.not_le.mp c19)))]), ⟨⟨rfl, rfl, rfl, rfl, rfl, rfl, rfl, rfl, rfl⟩, ⟨rfl, rfl, rfl, rfl, rfl, rfl, rfl⟩⟩⟩
              · refine g_ldc2 hE dX5_meshes_87 cl_X5_232 ?_
                exact g_lret hE hQ dX5_meshes_90 ((-2), (pA (pA (pA (pA q 8 tk_9) 9 ms_10) 18 (upd (q 18) 7 (q 18 2))) 7 tr_12)) rfl rfl ⟨(by rw [fMesh, hc1, if_pos c3, if_neg hk4n, if_pos c7.2, if_pos (ir_t (by have e : k3 = pl := (by omega); rw [e] at hf; exact hf) (show ¬ f = 0 from c15)), if_pos ((show atv (m 3) 8 x = tk_9 sn by rw [show x = nI sn from hsn, atv_n (by omega) (by decide)]; exact ((h11 sn hsnl).1.trans (hTQ.2.1 sn hsnl).1).symm).trans (show (tk_9 sn) = 3 from c16))]), ⟨⟨rfl, rfl, rfl, rfl, rfl, rfl, rfl, rfl, rfl⟩, ⟨rfl, rfl, rfl, rfl, rfl, rfl, rfl⟩⟩⟩
          · have kc14 := nat_le_f (show (q 18 2) = nI pl from hpl) (show (nI k3) = nI k3 from rfl) (by omega) (by omega) c14
            refine g_iload hE dX5_meshes_43 5 rfl ?_
            refine g_if_ne hE 59 dX5_meshes_45 (by decide) (fun c27 => ?_) (fun c27 => ?_)
            · refine g_iconst hE dX5_meshes_59 1 (by decide) ?_
              refine g_goto hE 64 dX5_meshes_60 (by decide) ?_
              refine g_istore hE dX5_meshes_64 [(5, .int 1), (0, .ref (a 0)), (1, .int x), (2, .int y), (3, .int l), (4, .int i), (6, .int (nI k3))] (by decide) rfl ?_
              refine g_iinc hE dX5_meshes_66 6 (nI (k3 + 1)) [(6, .int (nI (k3 + 1))), (5, .int 1), (0, .ref (a 0)), (1, .int x), (2, .int y), (3, .int l), (4, .int i)] rfl (nI_1 _) (by decide) rfl ?_
              refine g_goto hE 34 dX5_meshes_69 (by decide) ?_
              refine g_locals [2, 3, 4, 5, 6, 1, 0] [(0, .ref (a 0)), (1, .int x), (2, .int y), (3, .int l), (4, .int i), (5, .int 1), (6, .int (nI (k3 + 1)))] rfl ?_
              exact ih_34 (k3 + 1) 1 (by first | assumption | omega) (ir_1 hf (Or.inl (show ¬ f = 0 from c27))) (by omega)
            · refine g_aload_n hE dX5_meshes_48 0 rfl ?_
              refine g_get hE fl_X5_31 dX5_meshes_49 0 rfl rfl ?_
              refine g_iload hE dX5_meshes_52 6 rfl ?_
              refine g_iald_n hE dX5_meshes_54 8 rfl (show (nI k3) = nI k3 from rfl) (by omega) ?_
              refine g_iload_n hE dX5_meshes_55 1 rfl ?_
              refine g_icmp_ne hE 63 dX5_meshes_56 (by decide) (fun c28 => ?_) (fun c28 => ?_)
              · refine g_iconst hE dX5_meshes_63 0 (by decide) ?_
                refine g_istore hE dX5_meshes_64 [(5, .int 0), (0, .ref (a 0)), (1, .int x), (2, .int y), (3, .int l), (4, .int i), (6, .int (nI k3))] (by decide) rfl ?_
                refine g_iinc hE dX5_meshes_66 6 (nI (k3 + 1)) [(6, .int (nI (k3 + 1))), (5, .int 0), (0, .ref (a 0)), (1, .int x), (2, .int y), (3, .int l), (4, .int i)] rfl (nI_1 _) (by decide) rfl ?_
                refine g_goto hE 34 dX5_meshes_69 (by decide) ?_
                refine g_locals [2, 3, 4, 5, 6, 1, 0] [(0, .ref (a 0)), (1, .int x), (2, .int y), (3, .int l), (4, .int i), (5, .int 0), (6, .int (nI (k3 + 1)))] rfl ?_
                exact ih_34 (k3 + 1) 0 (by first | assumption | omega) (ir_0 hf (show f = 0 from c27) (fun z => (show ¬ (tr_12 k3) = x from c28) (((h13 k3 (by omega)).trans (hTQ.2.2.1 k3 (by omega)).1).trans z))) (by omega)
              · refine g_iconst hE dX5_meshes_59 1 (by decide) ?_
                refine g_goto hE 64 dX5_meshes_60 (by decide) ?_
                refine g_istore hE dX5_meshes_64 [(5, .int 1), (0, .ref (a 0)), (1, .int x), (2, .int y), (3, .int l), (4, .int i), (6, .int (nI k3))] (by decide) rfl ?_
                refine g_iinc hE dX5_meshes_66 6 (nI (k3 + 1)) [(6, .int (nI (k3 + 1))), (5, .int 1), (0, .ref (a 0)), (1, .int x), (2, .int y), (3, .int l), (4, .int i)] rfl (nI_1 _) (by decide) rfl ?_
                refine g_goto hE 34 dX5_meshes_69 (by decide) ?_
                refine g_locals [2, 3, 4, 5, 6, 1, 0] [(0, .ref (a 0)), (1, .int x), (2, .int y), (3, .int l), (4, .int i), (5, .int 1), (6, .int (nI (k3 + 1)))] rfl ?_
                exact ih_34 (k3 + 1) 1 (by first | assumption | omega) (ir_1 hf (Or.inr (((h13 k3 (by omega)).trans (hTQ.2.2.1 k3 (by omega)).1).symm.trans (show (tr_12 k3) = x from c28)))) (by omega)
      refine g_locals [2, 3, 4, 5, 6, 1, 0] [(0, .ref (a 0)), (1, .int x), (2, .int y), (3, .int l), (4, .int i), (5, .int 0), (6, .int 0)] rfl ?_
      exact L34 _ 0 0 (Nat.zero_le _) rfl (Nat.lt_succ_self _)
    · rw [if_neg c7] at h6
      subst h6
      show Go E Q 10 0 0 13 [(0, .ref (a 0)), (1, .int x), (2, .int y), (3, .int l), (4, .int i)] [.int 0] (modelW cI a q)
      refine g_if_ne hE 20 dX5_meshes_13 (by decide) (fun c29 => absurd (by decide) c29) (fun c29 => ?_)
      refine g_ldc2 hE dX5_meshes_16 cl_X5_238 ?_
      exact g_lret hE hQ dX5_meshes_19 ((-1), q) rfl rfl ⟨(by exact (mesh_bad hk c7).symm), ⟨⟨rfl, rfl, rfl, rfl, rfl, rfl, rfl, rfl, rfl⟩, ⟨rfl, rfl, rfl, rfl, rfl, rfl, rfl⟩⟩⟩
  · rw [if_neg c3] at h2
    subst h2
    show Go E Q 10 0 0 5 [(0, .ref (a 0)), (1, .int x), (2, .int y), (3, .int l), (4, .int i)] [.int 0] (modelW cI a q)
    refine g_if_eq hE 16 dX5_meshes_5 (by decide) (fun c30 => ?_) (fun c30 => absurd (by decide) c30)
    refine g_ldc2 hE dX5_meshes_16 cl_X5_238 ?_
    exact g_lret hE hQ dX5_meshes_19 ((-1), q) rfl rfl ⟨(by rw [fMesh, hc1, if_neg c3]), ⟨⟨rfl, rfl, rfl, rfl, rfl, rfl, rfl, rfl, rfl⟩, ⟨rfl, rfl, rfl, rfl, rfl, rfl, rfl⟩⟩⟩
set_option maxHeartbeats 4000000 in
set_option maxRecDepth 100000 in
theorem c_X5_torn (cI cS : ClassId) (a : Nat → Nat) (q : Nat → Nat → Int32) {n sv pl : Nat} (m : MS) (hRQ : RQ q m n sv pl) (sh : SHS) (hSQ : SQ q sh) (x l i : Int32) (k : Nat) (hk : SK k x) : CT cI cS yX5_torn cX5_torn 9 (some .int) 3 [.ref (a 0), .int x, .int l, .int i] (modelW cI a q) 0 0 (fun u : Int32 × (Nat → Nat → Int32) => u.1 = fTorn m n pl sh k l i ∧ TF u.2 q ∧ OF u.2 q) (fun u => some (.int u.1)) (fun u => (modelW cI a u.2)) := by
  refine ct_intro (by decide) (Nat.le_of_ble_eq_true rfl) (fun E Q hE hQ hI => ?_)
  have hE : CxOk E cI cS RX5 cX5_torn 9 (some .int) 3 0 0 := hE
  show Go E Q 9 0 0 0 [(0, .ref (a 0)), (1, .int x), (2, .int l), (3, .int i)] [] (modelW cI a q)
  have hM := hRQ.1
  have hTQ := hRQ.2.1
  have hRG := hRQ.2.2
  have hgr := hTQ.2.2.2.1
  have hsv := hTQ.2.2.2.2.1
  have hpl := hTQ.2.2.2.2.2.1
  have hn6 := hM.2.1
  have hsv8 := hM.2.2.2.1
  have hpl6 := hM.2.2.2.2.2
  have hc0 : m 9 0 = q 18 0 := hM.1.trans hgr.symm
  have hc1 : m 9 1 = q 18 1 := hM.2.2.1.trans hsv.symm
  have hc2 : m 9 2 = q 18 2 := hM.2.2.2.2.1.trans hpl.symm
  refine g_iload_n hE dX5_torn_0 1 rfl ?_
  refine g_iload_n hE dX5_torn_1 2 rfl ?_
  refine g_callS hE (c_X5_isSheet cI cS x l) mk_X5_isSheet st_X5_isSheet ml_X5_254 dX5_torn_2 (As := [.int x, .int l]) (rest := []) rfl rfl (by decide) (by decide) (Nat.le_of_ble_eq_true rfl) (by decide) (by decide) [] rfl (by decide) (fun u => Nat.le_of_ble_eq_true rfl) (ws' := fun u => modelW cI a q) (fun u => rfl) (fun u hu => ?_)
  obtain ⟨r_1, rfl⟩ : ∃ z, z = u := ⟨_, rfl⟩
  have h2 : r_1 = if (0 ≤ x ∧ x ≤ 3) ∧ 0 ≤ l ∧ l ≤ 2 then 1 else 0 := hu
  by_cases c3 : (0 ≤ x ∧ x ≤ 3) ∧ 0 ≤ l ∧ l ≤ 2
  · rw [if_pos c3] at h2
    subst h2
    show Go E Q 9 0 0 5 [(0, .ref (a 0)), (1, .int x), (2, .int l), (3, .int i)] [.int 1] (modelW cI a q)
    refine g_if_ne hE 10 dX5_torn_5 (by decide) (fun c4 => ?_) (fun c4 => absurd c4 (by decide))
    obtain ⟨hk4, hkn⟩ := sk_good hk c3.1
    have hk4n : ¬ k = 4 := (by omega)
    refine g_aload_n hE dX5_torn_10 0 rfl ?_
    refine g_iload_n hE dX5_torn_11 1 rfl ?_
    refine g_iload_n hE dX5_torn_12 2 rfl ?_
    refine g_iload_n hE dX5_torn_13 3 rfl ?_
    refine g_aload_n hE dX5_torn_14 0 rfl ?_
    refine g_get hE fl_X5_64 dX5_torn_15 0 rfl rfl ?_
    refine g_callV hE (c_X5_lacksRow cI cS a q sh hSQ x k hk4 hkn l i (q 18 0) n c3.2.1 (show (q 18 0) = nI n from hgr) (by omega)) mk_X5_lacksRow mv_X5_lacksRow ml_X5_257 dX5_torn_18 (As := [.int x, .int l, .int i, .int (q 18 0)]) (rest := []) rfl rfl 0 rfl (show vwCl[5]? = some (RX5, TX5, 32) from rfl) (by decide) (by decide) (Nat.le_of_ble_eq_true rfl) (by decide) (by decide) [0, 1, 2, 3, 4, 5, 6, 7, 8, 9, 10, 11, 12, 13, 14, 15, 16, 17, 18] rfl (by decide) (fun u => Nat.le_of_ble_eq_true rfl) (ws' := fun u => modelW cI a q) (fun u => rfl) (fun u hu => ?_)
    obtain ⟨r_5, rfl⟩ : ∃ z, z = u := ⟨_, rfl⟩
    have h6 : r_5 = (refS (sh k 1 0) (sh k 1 1) l i (q 18 0)) := hu
    subst h6
    show Go E Q 9 0 0 21 [(0, .ref (a 0)), (1, .int x), (2, .int l), (3, .int i)] [.int (refS (sh k 1 0) (sh k 1 1) l i (q 18 0))] (modelW cI a q)
    refine g_istore hE dX5_torn_21 [(4, .int (refS (sh k 1 0) (sh k 1 1) l i (q 18 0))), (0, .ref (a 0)), (1, .int x), (2, .int l), (3, .int i)] (by decide) rfl ?_
    refine g_iload hE dX5_torn_23 0 rfl ?_
    refine g_if_ge hE 31 dX5_torn_25 (by decide) (fun c7 => ?_) (fun c7 => ?_)
    · have hrz := ref_z (show ¬ (refS (sh k 1 0) (sh k 1 1) l i (q 18 0)) < 0 from (Int32.not_lt.mpr c7))
      obtain ⟨hon, hln, hhas⟩ := ref_has hrz
      obtain ⟨ij, hij, hijn⟩ := has_nat hhas (hSQ k hk4).2.1 (W := n) hgr (by omega)
      refine g_aload_n hE dX5_torn_31 1 rfl ?_
      refine g_callV hE (c_X5_begin cI cS a q hsv hsv8) mk_X5_begin mv_X5_begin ml_X5_183 dX5_torn_32 (As := []) (rest := []) rfl rfl 0 rfl (show vwCl[5]? = some (RX5, TX5, 32) from rfl) (by decide) (by decide) (Nat.le_of_ble_eq_true rfl) (by decide) (by decide) [0, 1, 2, 3, 4, 5, 6, 7, 8, 9, 10, 11, 12, 13, 14, 15, 16, 17, 18] rfl (by decide) (fun u => Nat.le_of_ble_eq_true rfl) (ws' := fun u => modelW cI a (pA (pA q 8 u.1) 9 u.2)) (fun u => rfl) (fun u hu => ?_)
      obtain ⟨tk_8, ms_9⟩ := u
      have h10 : ∀ s, s < sv → tk_8 s = (q 3) (4 * s) ∧ ms_9 s = (q 3) (4 * s + 1) := hu
      show Go E Q 9 0 0 35 [(4, .int (refS (sh k 1 0) (sh k 1 1) l i (q 18 0))), (0, .ref (a 0)), (1, .int x), (2, .int l), (3, .int i)] [] (modelW cI a (pA (pA q 8 tk_8) 9 ms_9))
      refine g_aload_n hE dX5_torn_35 1 rfl ?_
      refine g_callV hE (c_X5_takeRow cI cS a (pA (pA q 8 tk_8) 9 ms_9) hpl hpl6) mk_X5_takeRow mv_X5_takeRow ml_X5_186 dX5_torn_36 (As := []) (rest := []) rfl rfl 0 rfl (show vwCl[5]? = some (RX5, TX5, 32) from rfl) (by decide) (by decide) (Nat.le_of_ble_eq_true rfl) (by decide) (by decide) [0, 1, 2, 3, 4, 5, 6, 7, 8, 9, 10, 11, 12, 13, 14, 15, 16, 17, 18] rfl (by decide) (fun u => Nat.le_of_ble_eq_true rfl) (ws' := fun u => modelW cI a (pA (pA (pA (pA q 8 tk_8) 9 ms_9) 18 (upd (q 18) 7 (q 18 2))) 7 u)) (fun u => rfl) (fun u hu => ?_)
      obtain ⟨tr_11, rfl⟩ : ∃ z, z = u := ⟨_, rfl⟩
      have h12 : ∀ k, k < pl → tr_11 k = (q 4) k := hu
      show Go E Q 9 0 0 39 [(4, .int (refS (sh k 1 0) (sh k 1 1) l i (q 18 0))), (0, .ref (a 0)), (1, .int x), (2, .int l), (3, .int i)] [] (modelW cI a (pA (pA (pA (pA q 8 tk_8) 9 ms_9) 18 (upd (q 18) 7 (q 18 2))) 7 tr_11))
      refine g_bipush hE dX5_torn_39 24 (by decide) ?_
      refine g_iload_n hE dX5_torn_41 2 rfl ?_
      refine g_imul_n hE dX5_torn_42 (show 24 = nI 24 from rfl) (show x = nI k from hkn) ?_
      refine g_iload_n hE dX5_torn_43 4 rfl ?_
      refine g_iadd_n hE dX5_torn_44 (show (nI (24 * k)) = nI (24 * k) from rfl) (show i = nI ij from hijn) ?_
      refine g_istore hE dX5_torn_45 [(5, .int (nI ((24 * k) + ij))), (4, .int (refS (sh k 1 0) (sh k 1 1) l i (q 18 0))), (0, .ref (a 0)), (1, .int x), (2, .int l), (3, .int i)] (by decide) rfl ?_
      refine g_aload_n hE dX5_torn_47 2 rfl ?_
      refine g_iload hE dX5_torn_48 0 rfl ?_
      refine g_callV hE (c_X5_areFound cI cS a (pA (pA (pA (pA q 8 tk_8) 9 ms_9) 18 (upd (q 18) 7 (q 18 2))) 7 tr_11) hgr hn6 hpl hpl6 hsv8 m (sa_mk hTQ rfl rfl rfl h10) (show RA _ (m 7) pl sv from ra_mk (m := m) hTQ h12) (nI ((24 * k) + ij)) ((24 * k) + ij) (show (nI ((24 * k) + ij)) = nI ((24 * k) + ij) from rfl) ij (sh k 0) hij (by omega) (sq_T hSQ hk4 hon hij) (fun g hg => (hRG.1 g hg).2.2.1)) mk_X5_areFound mv_X5_areFound ml_X5_264 dX5_torn_50 (As := [.int (nI ((24 * k) + ij))]) (rest := []) rfl rfl 0 rfl (show vwCl[5]? = some (RX5, TX5, 32) from rfl) (by decide) (by decide) (Nat.le_of_ble_eq_true rfl) (by decide) (by decide) [0, 1, 2, 3, 4, 5, 6, 7, 8, 9, 10, 11, 12, 13, 14, 15, 16, 17, 18] rfl (by decide) (fun u => Nat.le_of_ble_eq_true rfl) (ws' := fun u => modelW cI a (pA (pA (pA (pA (pA (pA q 8 tk_8) 9 ms_9) 18 (upd (q 18) 7 (q 18 2))) 7 tr_11) 10 u.2) 18 (upd (upd (upd (q 18) 7 (q 18 2)) 8 (chR m n (m 7) pl)) 9 (nI (flN m n (m 7) pl))))) (fun u => rfl) (fun u hu => ?_)
      obtain ⟨r_13, h_14⟩ := u
      have h15 : r_13 = if boB m n pl (sh k 0) (nI ij) n = true then 1 else 0 := hu
      by_cases c16 : boB m n pl (sh k 0) (nI ij) n = true
      · rw [if_pos c16] at h15
        subst h15
        show Go E Q 9 0 0 53 [(5, .int (nI ((24 * k) + ij))), (4, .int (refS (sh k 1 0) (sh k 1 1) l i (q 18 0))), (0, .ref (a 0)), (1, .int x), (2, .int l), (3, .int i)] [.int 1] (modelW cI a (pA (pA (pA (pA (pA (pA q 8 tk_8) 9 ms_9) 18 (upd (q 18) 7 (q 18 2))) 7 tr_11) 10 h_14) 18 (upd (upd (upd (q 18) 7 (q 18 2)) 8 (chR m n (m 7) pl)) 9 (nI (flN m n (m 7) pl)))))
        refine g_if_eq hE 62 dX5_torn_53 (by decide) (fun c17 => absurd c17 (by decide)) (fun c17 => ?_)
        refine g_sipush hE dX5_torn_56 128 (by decide) ?_
        refine g_goto hE 63 dX5_torn_59 (by decide) ?_
        refine g_istore hE dX5_torn_63 [(6, .int 128), (5, .int (nI ((24 * k) + ij))), (4, .int (refS (sh k 1 0) (sh k 1 1) l i (q 18 0))), (0, .ref (a 0)), (1, .int x), (2, .int l), (3, .int i)] (by decide) rfl ?_
        refine g_iconst hE dX5_torn_65 0 (by decide) ?_
        refine g_istore hE dX5_torn_66 [(7, .int 0), (6, .int 128), (5, .int (nI ((24 * k) + ij))), (4, .int (refS (sh k 1 0) (sh k 1 1) l i (q 18 0))), (0, .ref (a 0)), (1, .int x), (2, .int l), (3, .int i)] (by decide) rfl ?_
        have L68 : ∀ (n_68 : Nat) (p : Nat) (y : Int32) (tk2 : Nat → Int32) (h : Nat → Int32) (cho : Int32) (fal : Int32), (p ≤ pl) → (y = trS m n pl (sh k 0) i p) → (∀ s, s < sv → tk2 s = m 3 s) → (pl - p < n_68) → Go E Q 9 0 0 68 [(0, .ref (a 0)), (1, .int x), (2, .int l), (3, .int i), (5, .int (nI ((24 * k) + ij))), (6, .int y), (7, .int (nI p))] [] (modelW cI a (pA (pA (pA (pA (pA q 8 tk2) 9 ms_9) 7 tr_11) 10 h) 18 (upd (upd (upd (q 18) 7 (q 18 2)) 8 cho) 9 fal))) := by
          intro n_68
          induction n_68 with
          | zero => intro p y tk2 h cho fal hp hy htk hm_68; exact absurd hm_68 (Nat.not_lt_zero _)
          | succ n_68 ih_68 =>
            intro p y tk2 h cho fal hp hy htk hm_68
            refine g_iload hE dX5_torn_68 6 rfl ?_
            refine g_aload_n hE dX5_torn_70 0 rfl ?_
            refine g_get hE fl_X5_164 dX5_torn_71 0 rfl rfl ?_
            refine g_icmp_ge hE 138 dX5_torn_74 (by decide) (fun c18 => ?_) (fun c18 => ?_)
            · have kc18 := nat_le_t (show (q 18 2) = nI pl from hpl) (show (nI p) = nI p from rfl) (by omega) (by omega) c18
              refine g_iload hE dX5_torn_138 5 rfl ?_
              exact g_iret hE hQ dX5_torn_140 rfl (y, (pA (pA (pA (pA (pA q 8 tk2) 9 ms_9) 7 tr_11) 10 h) 18 (upd (upd (upd (q 18) 7 (q 18 2)) 8 cho) 9 fal))) rfl rfl ⟨(by rw [fTorn, hc0, if_neg hk4n, if_pos c3.2, if_pos hrz, hy, show p = pl by omega]), ⟨⟨rfl, rfl, rfl, rfl, rfl, rfl, rfl, rfl, rfl⟩, ⟨rfl, rfl, rfl, rfl, rfl, rfl, rfl⟩⟩⟩
            · have kc18 := nat_le_f (show (q 18 2) = nI pl from hpl) (show (nI p) = nI p from rfl) (by omega) (by omega) c18
              refine g_aload_n hE dX5_torn_77 0 rfl ?_
              refine g_get hE fl_X5_31 dX5_torn_78 0 rfl rfl ?_
              refine g_iload hE dX5_torn_81 6 rfl ?_
              refine g_iald_n hE dX5_torn_83 8 rfl (show (nI p) = nI p from rfl) (by omega) ?_
              obtain ⟨hr0, s, hs, hr⟩ := ra_mk hTQ h12 p (by omega)
              have hs2 : (tr_11 p) = nI s := hr0.trans hr
              refine g_istore hE dX5_torn_84 [(8, .int (tr_11 p)), (0, .ref (a 0)), (1, .int x), (2, .int l), (3, .int i), (5, .int (nI ((24 * k) + ij))), (6, .int y), (7, .int (nI p))] (by decide) rfl ?_
              refine g_aload_n hE dX5_torn_86 1 rfl ?_
              refine g_get hE fl_X5_34 dX5_torn_87 0 rfl rfl ?_
              refine g_iload hE dX5_torn_90 0 rfl ?_
              refine g_iconst hE dX5_torn_92 3 (by decide) ?_
              refine g_iast_n hE dX5_torn_93 9 rfl (show (tr_11 p) = nI s from hs2) (by omega) (modelW cI a (pA (pA (pA (pA (pA (pA q 8 tk2) 9 ms_9) 7 tr_11) 10 h) 18 (upd (upd (upd (q 18) 7 (q 18 2)) 8 cho) 9 fal)) 8 (upd tk2 s 3))) rfl ?_
              refine g_iload hE dX5_torn_94 6 rfl ?_
              refine g_aload_n hE dX5_torn_96 1 rfl ?_
              refine g_iload hE dX5_torn_97 5 rfl ?_
              refine g_callV hE (c_X5_areFound cI cS a (pA (pA (pA (pA (pA (pA q 8 tk2) 9 ms_9) 7 tr_11) 10 h) 18 (upd (upd (upd (q 18) 7 (q 18 2)) 8 cho) 9 fal)) 8 (upd tk2 s 3)) hgr hn6 hpl hpl6 hsv8 (pA m 3 (putv (m 3) 8 (m 7 p) 3)) (sa_tr hRQ hr hs rfl rfl rfl rfl (fun s hs => (h10 s hs).2) htk) (show RA _ (m 7) pl sv from ra_mk (m := m) hTQ h12) (nI ((24 * k) + ij)) ((24 * k) + ij) (show (nI ((24 * k) + ij)) = nI ((24 * k) + ij) from rfl) ij (sh k 0) hij (by omega) (sq_T hSQ hk4 hon hij) (fun g hg => (hRG.1 g hg).2.2.1)) mk_X5_areFound mv_X5_areFound ml_X5_264 dX5_torn_99 (As := [.int (nI ((24 * k) + ij))]) (rest := [.int y]) rfl rfl 0 rfl (show vwCl[5]? = some (RX5, TX5, 32) from rfl) (by decide) (by decide) (Nat.le_of_ble_eq_true rfl) (by decide) (by decide) [0, 1, 2, 3, 4, 5, 6, 7, 8, 9, 10, 11, 12, 13, 14, 15, 16, 17, 18] rfl (by decide) (fun u => Nat.le_of_ble_eq_true rfl) (ws' := fun u => modelW cI a (pA (pA (pA (pA (pA (pA (pA (pA q 8 tk2) 9 ms_9) 7 tr_11) 10 h) 18 (upd (upd (upd (q 18) 7 (q 18 2)) 8 cho) 9 fal)) 8 (upd tk2 s 3)) 10 u.2) 18 (upd (upd (upd (upd (upd (q 18) 7 (q 18 2)) 8 cho) 9 fal) 8 (chR (pA m 3 (putv (m 3) 8 (m 7 p) 3)) n ((pA m 3 (putv (m 3) 8 (m 7 p) 3)) 7) pl)) 9 (nI (flN (pA m 3 (putv (m 3) 8 (m 7 p) 3)) n ((pA m 3 (putv (m 3) 8 (m 7 p) 3)) 7) pl))))) (fun u => rfl) (fun u hu => ?_)
              obtain ⟨r_19, h_20⟩ := u
              have h21 : r_19 = if boB (pA m 3 (putv (m 3) 8 (m 7 p) 3)) n pl (sh k 0) (nI ij) n = true then 1 else 0 := hu
              by_cases c22 : boB (pA m 3 (putv (m 3) 8 (m 7 p) 3)) n pl (sh k 0) (nI ij) n = true
              · rw [if_pos c22] at h21
                subst h21
                show Go E Q 9 0 0 102 [(8, .int (tr_11 p)), (0, .ref (a 0)), (1, .int x), (2, .int l), (3, .int i), (5, .int (nI ((24 * k) + ij))), (6, .int y), (7, .int (nI p))] [.int 1, .int y] (modelW cI a (pA (pA (pA (pA (pA (pA (pA (pA q 8 tk2) 9 ms_9) 7 tr_11) 10 h) 18 (upd (upd (upd (q 18) 7 (q 18 2)) 8 cho) 9 fal)) 8 (upd tk2 s 3)) 10 h_20) 18 (upd (upd (upd (upd (upd (q 18) 7 (q 18 2)) 8 cho) 9 fal) 8 (chR (pA m 3 (putv (m 3) 8 (m 7 p) 3)) n ((pA m 3 (putv (m 3) 8 (m 7 p) 3)) 7) pl)) 9 (nI (flN (pA m 3 (putv (m 3) 8 (m 7 p) 3)) n ((pA m 3 (putv (m 3) 8 (m 7 p) 3)) 7) pl)))))
                refine g_if_eq hE 112 dX5_torn_102 (by decide) (fun c23 => absurd c23 (by decide)) (fun c23 => ?_)
                refine g_iconst hE dX5_torn_105 1 (by decide) ?_
                refine g_iload hE dX5_torn_106 7 rfl ?_
                refine g_ishl hE dX5_torn_108 ?_
                refine g_goto hE 113 dX5_torn_109 (by decide) ?_
                refine g_ior hE dX5_torn_113 ?_
                refine g_istore hE dX5_torn_114 [(6, .int (y ||| (1 <<< ((nI p) &&& 31)))), (8, .int (tr_11 p)), (0, .ref (a 0)), (1, .int x), (2, .int l), (3, .int i), (5, .int (nI ((24 * k) + ij))), (7, .int (nI p))] (by decide) rfl ?_
                refine g_aload_n hE dX5_torn_116 2 rfl ?_
                refine g_get hE fl_X5_34 dX5_torn_117 0 rfl rfl ?_
                refine g_iload hE dX5_torn_120 1 rfl ?_
                refine g_aload_n hE dX5_torn_122 2 rfl ?_
                refine g_get hE fl_X5_19 dX5_torn_123 0 rfl rfl ?_
                refine g_iconst hE dX5_torn_126 4 (by decide) ?_
                refine g_iload hE dX5_torn_127 1 rfl ?_
                refine g_imul_n hE dX5_torn_129 (show 4 = nI 4 from rfl) (show (tr_11 p) = nI s from hs2) ?_
                refine g_iald_n hE dX5_torn_130 4 rfl (show (nI (4 * s)) = nI (4 * s) from rfl) (by omega) ?_
                refine g_iast_n hE dX5_torn_131 9 rfl (show (tr_11 p) = nI s from hs2) (by omega) (modelW cI a (pA (pA (pA (pA (pA (pA (pA (pA (pA q 8 tk2) 9 ms_9) 7 tr_11) 10 h) 18 (upd (upd (upd (q 18) 7 (q 18 2)) 8 cho) 9 fal)) 8 (upd tk2 s 3)) 10 h_20) 18 (upd (upd (upd (upd (upd (q 18) 7 (q 18 2)) 8 cho) 9 fal) 8 (chR (pA m 3 (putv (m 3) 8 (m 7 p) 3)) n ((pA m 3 (putv (m 3) 8 (m 7 p) 3)) 7) pl)) 9 (nI (flN (pA m 3 (putv (m 3) 8 (m 7 p) 3)) n ((pA m 3 (putv (m 3) 8 (m 7 p) 3)) 7) pl)))) 8 (upd (upd tk2 s 3) s ((q 3) (4 * s))))) rfl ?_
                refine g_iinc hE dX5_torn_132 7 (nI (p + 1)) [(7, .int (nI (p + 1))), (6, .int (y ||| (1 <<< ((nI p) &&& 31)))), (8, .int (tr_11 p)), (0, .ref (a 0)), (1, .int x), (2, .int l), (3, .int i), (5, .int (nI ((24 * k) + ij)))] rfl (nI_1 _) (by decide) rfl ?_
                refine g_goto hE 68 dX5_torn_135 (by decide) ?_
                refine g_locals [3, 4, 5, 6, 7, 1, 0] [(0, .ref (a 0)), (1, .int x), (2, .int l), (3, .int i), (5, .int (nI ((24 * k) + ij))), (6, .int (y ||| (1 <<< ((nI p) &&& 31)))), (7, .int (nI (p + 1)))] rfl ?_
                exact ih_68 (p + 1) (y ||| (1 <<< ((nI p) &&& 31))) (upd (upd tk2 s 3) s ((q 3) (4 * s))) h_20 (chR (pA m 3 (putv (m 3) 8 (m 7 p) 3)) n ((pA m 3 (putv (m 3) 8 (m 7 p) 3)) 7) pl) (nI (flN (pA m 3 (putv (m 3) 8 (m 7 p) 3)) n ((pA m 3 (putv (m 3) 8 (m 7 p) 3)) 7) pl)) (by first | assumption | omega) (tz_y hy hijn c22) (tk_back (q3 := q 3) htk (hTQ.2.1 s hs).1) (by omega)
              · rw [if_neg c22] at h21
                subst h21
                show Go E Q 9 0 0 102 [(8, .int (tr_11 p)), (0, .ref (a 0)), (1, .int x), (2, .int l), (3, .int i), (5, .int (nI ((24 * k) + ij))), (6, .int y), (7, .int (nI p))] [.int 0, .int y] (modelW cI a (pA (pA (pA (pA (pA (pA (pA (pA q 8 tk2) 9 ms_9) 7 tr_11) 10 h) 18 (upd (upd (upd (q 18) 7 (q 18 2)) 8 cho) 9 fal)) 8 (upd tk2 s 3)) 10 h_20) 18 (upd (upd (upd (upd (upd (q 18) 7 (q 18 2)) 8 cho) 9 fal) 8 (chR (pA m 3 (putv (m 3) 8 (m 7 p) 3)) n ((pA m 3 (putv (m 3) 8 (m 7 p) 3)) 7) pl)) 9 (nI (flN (pA m 3 (putv (m 3) 8 (m 7 p) 3)) n ((pA m 3 (putv (m 3) 8 (m 7 p) 3)) 7) pl)))))
                refine g_if_eq hE 112 dX5_torn_102 (by decide) (fun c24 => ?_) (fun c24 => absurd (by decide) c24)
                refine g_iconst hE dX5_torn_112 0 (by decide) ?_
                refine g_ior hE dX5_torn_113 ?_
                refine g_istore hE dX5_torn_114 [(6, .int (y ||| 0)), (8, .int (tr_11 p)), (0, .ref (a 0)), (1, .int x), (2, .int l), (3, .int i), (5, .int (nI ((24 * k) + ij))), (7, .int (nI p))] (by decide) rfl ?_
                refine g_aload_n hE dX5_torn_116 2 rfl ?_
                refine g_get hE fl_X5_34 dX5_torn_117 0 rfl rfl ?_
                refine g_iload hE dX5_torn_120 1 rfl ?_
                refine g_aload_n hE dX5_torn_122 2 rfl ?_
                refine g_get hE fl_X5_19 dX5_torn_123 0 rfl rfl ?_
                refine g_iconst hE dX5_torn_126 4 (by decide) ?_
                refine g_iload hE dX5_torn_127 1 rfl ?_
                refine g_imul_n hE dX5_torn_129 (show 4 = nI 4 from rfl) (show (tr_11 p) = nI s from hs2) ?_
                refine g_iald_n hE dX5_torn_130 4 rfl (show (nI (4 * s)) = nI (4 * s) from rfl) (by omega) ?_
                refine g_iast_n hE dX5_torn_131 9 rfl (show (tr_11 p) = nI s from hs2) (by omega) (modelW cI a (pA (pA (pA (pA (pA (pA (pA (pA (pA q 8 tk2) 9 ms_9) 7 tr_11) 10 h) 18 (upd (upd (upd (q 18) 7 (q 18 2)) 8 cho) 9 fal)) 8 (upd tk2 s 3)) 10 h_20) 18 (upd (upd (upd (upd (upd (q 18) 7 (q 18 2)) 8 cho) 9 fal) 8 (chR (pA m 3 (putv (m 3) 8 (m 7 p) 3)) n ((pA m 3 (putv (m 3) 8 (m 7 p) 3)) 7) pl)) 9 (nI (flN (pA m 3 (putv (m 3) 8 (m 7 p) 3)) n ((pA m 3 (putv (m 3) 8 (m 7 p) 3)) 7) pl)))) 8 (upd (upd tk2 s 3) s ((q 3) (4 * s))))) rfl ?_
                refine g_iinc hE dX5_torn_132 7 (nI (p + 1)) [(7, .int (nI (p + 1))), (6, .int (y ||| 0)), (8, .int (tr_11 p)), (0, .ref (a 0)), (1, .int x), (2, .int l), (3, .int i), (5, .int (nI ((24 * k) + ij)))] rfl (nI_1 _) (by decide) rfl ?_
                refine g_goto hE 68 dX5_torn_135 (by decide) ?_
                refine g_locals [3, 4, 5, 6, 7, 1, 0] [(0, .ref (a 0)), (1, .int x), (2, .int l), (3, .int i), (5, .int (nI ((24 * k) + ij))), (6, .int (y ||| 0)), (7, .int (nI (p + 1)))] rfl ?_
                exact ih_68 (p + 1) (y ||| 0) (upd (upd tk2 s 3) s ((q 3) (4 * s))) h_20 (chR (pA m 3 (putv (m 3) 8 (m 7 p) 3)) n ((pA m 3 (putv (m 3) 8 (m 7 p) 3)) 7) pl) (nI (flN (pA m 3 (putv (m 3) 8 (m 7 p) 3)) n ((pA m 3 (putv (m 3) 8 (m 7 p) 3)) 7) pl)) (by first | assumption | omega) (tz_n hy hijn c22) (tk_back (q3 := q 3) htk (hTQ.2.1 s hs).1) (by omega)
        refine g_locals [4, 5, 6, 7, 2, 1, 0] [(0, .ref (a 0)), (1, .int x), (2, .int l), (3, .int i), (5, .int (nI ((24 * k) + ij))), (6, .int 128), (7, .int 0)] rfl ?_
        exact L68 _ 0 128 tk_8 h_14 (chR m n (m 7) pl) (nI (flN m n (m 7) pl)) (Nat.zero_le _) (tz_0 hijn c16) (fun s hs => (h10 s hs).1.trans (hTQ.2.1 s hs).1) (Nat.lt_succ_self _)
      · rw [if_neg c16] at h15
        subst h15
        show Go E Q 9 0 0 53 [(5, .int (nI ((24 * k) + ij))), (4, .int (refS (sh k 1 0) (sh k 1 1) l i (q 18 0))), (0, .ref (a 0)), (1, .int x), (2, .int l), (3, .int i)] [.int 0] (modelW cI a (pA (pA (pA (pA (pA (pA q 8 tk_8) 9 ms_9) 18 (upd (q 18) 7 (q 18 2))) 7 tr_11) 10 h_14) 18 (upd (upd (upd (q 18) 7 (q 18 2)) 8 (chR m n (m 7) pl)) 9 (nI (flN m n (m 7) pl)))))
        refine g_if_eq hE 62 dX5_torn_53 (by decide) (fun c25 => ?_) (fun c25 => absurd (by decide) c25)
        refine g_iconst hE dX5_torn_62 0 (by decide) ?_
        refine g_istore hE dX5_torn_63 [(6, .int 0), (5, .int (nI ((24 * k) + ij))), (4, .int (refS (sh k 1 0) (sh k 1 1) l i (q 18 0))), (0, .ref (a 0)), (1, .int x), (2, .int l), (3, .int i)] (by decide) rfl ?_
        refine g_iconst hE dX5_torn_65 0 (by decide) ?_
        refine g_istore hE dX5_torn_66 [(7, .int 0), (6, .int 0), (5, .int (nI ((24 * k) + ij))), (4, .int (refS (sh k 1 0) (sh k 1 1) l i (q 18 0))), (0, .ref (a 0)), (1, .int x), (2, .int l), (3, .int i)] (by decide) rfl ?_
        have L68 : ∀ (n_68 : Nat) (p : Nat) (y : Int32) (tk2 : Nat → Int32) (h : Nat → Int32) (cho : Int32) (fal : Int32), (p ≤ pl) → (y = trS m n pl (sh k 0) i p) → (∀ s, s < sv → tk2 s = m 3 s) → (pl - p < n_68) → Go E Q 9 0 0 68 [(0, .ref (a 0)), (1, .int x), (2, .int l), (3, .int i), (5, .int (nI ((24 * k) + ij))), (6, .int y), (7, .int (nI p))] [] (modelW cI a (pA (pA (pA (pA (pA q 8 tk2) 9 ms_9) 7 tr_11) 10 h) 18 (upd (upd (upd (q 18) 7 (q 18 2)) 8 cho) 9 fal))) := by
          intro n_68
          induction n_68 with
          | zero => intro p y tk2 h cho fal hp hy htk hm_68; exact absurd hm_68 (Nat.not_lt_zero _)
          | succ n_68 ih_68 =>
            intro p y tk2 h cho fal hp hy htk hm_68
            refine g_iload hE dX5_torn_68 6 rfl ?_
            refine g_aload_n hE dX5_torn_70 0 rfl ?_
            refine g_get hE fl_X5_164 dX5_torn_71 0 rfl rfl ?_
            refine g_icmp_ge hE 138 dX5_torn_74 (by decide) (fun c26 => ?_) (fun c26 => ?_)
            · have kc26 := nat_le_t (show (q 18 2) = nI pl from hpl) (show (nI p) = nI p from rfl) (by omega) (by omega) c26
              refine g_iload hE dX5_torn_138 5 rfl ?_
              exact g_iret hE hQ dX5_torn_140 rfl (y, (pA (pA (pA (pA (pA q 8 tk2) 9 ms_9) 7 tr_11) 10 h) 18 (upd (upd (upd (q 18) 7 (q 18 2)) 8 cho) 9 fal))) rfl rfl ⟨(by rw [fTorn, hc0, if_neg hk4n, if_pos c3.2, if_pos hrz, hy, show p = pl by omega]), ⟨⟨rfl, rfl, rfl, rfl, rfl, rfl, rfl, rfl, rfl⟩, ⟨rfl, rfl, rfl, rfl, rfl, rfl, rfl⟩⟩⟩
            · have kc26 := nat_le_f (show (q 18 2) = nI pl from hpl) (show (nI p) = nI p from rfl) (by omega) (by omega) c26
              refine g_aload_n hE dX5_torn_77 0 rfl ?_
              refine g_get hE fl_X5_31 dX5_torn_78 0 rfl rfl ?_
              refine g_iload hE dX5_torn_81 6 rfl ?_
              refine g_iald_n hE dX5_torn_83 8 rfl (show (nI p) = nI p from rfl) (by omega) ?_
              obtain ⟨hr0, s, hs, hr⟩ := ra_mk hTQ h12 p (by omega)
              have hs2 : (tr_11 p) = nI s := hr0.trans hr
              refine g_istore hE dX5_torn_84 [(8, .int (tr_11 p)), (0, .ref (a 0)), (1, .int x), (2, .int l), (3, .int i), (5, .int (nI ((24 * k) + ij))), (6, .int y), (7, .int (nI p))] (by decide) rfl ?_
              refine g_aload_n hE dX5_torn_86 1 rfl ?_
              refine g_get hE fl_X5_34 dX5_torn_87 0 rfl rfl ?_
              refine g_iload hE dX5_torn_90 0 rfl ?_
              refine g_iconst hE dX5_torn_92 3 (by decide) ?_
              refine g_iast_n hE dX5_torn_93 9 rfl (show (tr_11 p) = nI s from hs2) (by omega) (modelW cI a (pA (pA (pA (pA (pA (pA q 8 tk2) 9 ms_9) 7 tr_11) 10 h) 18 (upd (upd (upd (q 18) 7 (q 18 2)) 8 cho) 9 fal)) 8 (upd tk2 s 3))) rfl ?_
              refine g_iload hE dX5_torn_94 6 rfl ?_
              refine g_aload_n hE dX5_torn_96 1 rfl ?_
              refine g_iload hE dX5_torn_97 5 rfl ?_
              refine g_callV hE (c_X5_areFound cI cS a (pA (pA (pA (pA (pA (pA q 8 tk2) 9 ms_9) 7 tr_11) 10 h) 18 (upd (upd (upd (q 18) 7 (q 18 2)) 8 cho) 9 fal)) 8 (upd tk2 s 3)) hgr hn6 hpl hpl6 hsv8 (pA m 3 (putv (m 3) 8 (m 7 p) 3)) (sa_tr hRQ hr hs rfl rfl rfl rfl (fun s hs => (h10 s hs).2) htk) (show RA _ (m 7) pl sv from ra_mk (m := m) hTQ h12) (nI ((24 * k) + ij)) ((24 * k) + ij) (show (nI ((24 * k) + ij)) = nI ((24 * k) + ij) from rfl) ij (sh k 0) hij (by omega) (sq_T hSQ hk4 hon hij) (fun g hg => (hRG.1 g hg).2.2.1)) mk_X5_areFound mv_X5_areFound ml_X5_264 dX5_torn_99 (As := [.int (nI ((24 * k) + ij))]) (rest := [.int y]) rfl rfl 0 rfl (show vwCl[5]? = some (RX5, TX5, 32) from rfl) (by decide) (by decide) (Nat.le_of_ble_eq_true rfl) (by decide) (by decide) [0, 1, 2, 3, 4, 5, 6, 7, 8, 9, 10, 11, 12, 13, 14, 15, 16, 17, 18] rfl (by decide) (fun u => Nat.le_of_ble_eq_true rfl) (ws' := fun u => modelW cI a (pA (pA (pA (pA (pA (pA (pA (pA q 8 tk2) 9 ms_9) 7 tr_11) 10 h) 18 (upd (upd (upd (q 18) 7 (q 18 2)) 8 cho) 9 fal)) 8 (upd tk2 s 3)) 10 u.2) 18 (upd (upd (upd (upd (upd (q 18) 7 (q 18 2)) 8 cho) 9 fal) 8 (chR (pA m 3 (putv (m 3) 8 (m 7 p) 3)) n ((pA m 3 (putv (m 3) 8 (m 7 p) 3)) 7) pl)) 9 (nI (flN (pA m 3 (putv (m 3) 8 (m 7 p) 3)) n ((pA m 3 (putv (m 3) 8 (m 7 p) 3)) 7) pl))))) (fun u => rfl) (fun u hu => ?_)
              obtain ⟨r_27, h_28⟩ := u
              have h29 : r_27 = if boB (pA m 3 (putv (m 3) 8 (m 7 p) 3)) n pl (sh k 0) (nI ij) n = true then 1 else 0 := hu
              by_cases c30 : boB (pA m 3 (putv (m 3) 8 (m 7 p) 3)) n pl (sh k 0) (nI ij) n = true
              · rw [if_pos c30] at h29
                subst h29
                show Go E Q 9 0 0 102 [(8, .int (tr_11 p)), (0, .ref (a 0)), (1, .int x), (2, .int l), (3, .int i), (5, .int (nI ((24 * k) + ij))), (6, .int y), (7, .int (nI p))] [.int 1, .int y] (modelW cI a (pA (pA (pA (pA (pA (pA (pA (pA q 8 tk2) 9 ms_9) 7 tr_11) 10 h) 18 (upd (upd (upd (q 18) 7 (q 18 2)) 8 cho) 9 fal)) 8 (upd tk2 s 3)) 10 h_28) 18 (upd (upd (upd (upd (upd (q 18) 7 (q 18 2)) 8 cho) 9 fal) 8 (chR (pA m 3 (putv (m 3) 8 (m 7 p) 3)) n ((pA m 3 (putv (m 3) 8 (m 7 p) 3)) 7) pl)) 9 (nI (flN (pA m 3 (putv (m 3) 8 (m 7 p) 3)) n ((pA m 3 (putv (m 3) 8 (m 7 p) 3)) 7) pl)))))
                refine g_if_eq hE 112 dX5_torn_102 (by decide) (fun c31 => absurd c31 (by decide)) (fun c31 => ?_)
                refine g_iconst hE dX5_torn_105 1 (by decide) ?_
                refine g_iload hE dX5_torn_106 7 rfl ?_
                refine g_ishl hE dX5_torn_108 ?_
                refine g_goto hE 113 dX5_torn_109 (by decide) ?_
                refine g_ior hE dX5_torn_113 ?_
                refine g_istore hE dX5_torn_114 [(6, .int (y ||| (1 <<< ((nI p) &&& 31)))), (8, .int (tr_11 p)), (0, .ref (a 0)), (1, .int x), (2, .int l), (3, .int i), (5, .int (nI ((24 * k) + ij))), (7, .int (nI p))] (by decide) rfl ?_
                refine g_aload_n hE dX5_torn_116 2 rfl ?_
                refine g_get hE fl_X5_34 dX5_torn_117 0 rfl rfl ?_
                refine g_iload hE dX5_torn_120 1 rfl ?_
                refine g_aload_n hE dX5_torn_122 2 rfl ?_
                refine g_get hE fl_X5_19 dX5_torn_123 0 rfl rfl ?_
                refine g_iconst hE dX5_torn_126 4 (by decide) ?_
                refine g_iload hE dX5_torn_127 1 rfl ?_
                refine g_imul_n hE dX5_torn_129 (show 4 = nI 4 from rfl) (show (tr_11 p) = nI s from hs2) ?_
                refine g_iald_n hE dX5_torn_130 4 rfl (show (nI (4 * s)) = nI (4 * s) from rfl) (by omega) ?_
                refine g_iast_n hE dX5_torn_131 9 rfl (show (tr_11 p) = nI s from hs2) (by omega) (modelW cI a (pA (pA (pA (pA (pA (pA (pA (pA (pA q 8 tk2) 9 ms_9) 7 tr_11) 10 h) 18 (upd (upd (upd (q 18) 7 (q 18 2)) 8 cho) 9 fal)) 8 (upd tk2 s 3)) 10 h_28) 18 (upd (upd (upd (upd (upd (q 18) 7 (q 18 2)) 8 cho) 9 fal) 8 (chR (pA m 3 (putv (m 3) 8 (m 7 p) 3)) n ((pA m 3 (putv (m 3) 8 (m 7 p) 3)) 7) pl)) 9 (nI (flN (pA m 3 (putv (m 3) 8 (m 7 p) 3)) n ((pA m 3 (putv (m 3) 8 (m 7 p) 3)) 7) pl)))) 8 (upd (upd tk2 s 3) s ((q 3) (4 * s))))) rfl ?_
                refine g_iinc hE dX5_torn_132 7 (nI (p + 1)) [(7, .int (nI (p + 1))), (6, .int (y ||| (1 <<< ((nI p) &&& 31)))), (8, .int (tr_11 p)), (0, .ref (a 0)), (1, .int x), (2, .int l), (3, .int i), (5, .int (nI ((24 * k) + ij)))] rfl (nI_1 _) (by decide) rfl ?_
                refine g_goto hE 68 dX5_torn_135 (by decide) ?_
                refine g_locals [3, 4, 5, 6, 7, 1, 0] [(0, .ref (a 0)), (1, .int x), (2, .int l), (3, .int i), (5, .int (nI ((24 * k) + ij))), (6, .int (y ||| (1 <<< ((nI p) &&& 31)))), (7, .int (nI (p + 1)))] rfl ?_
                exact ih_68 (p + 1) (y ||| (1 <<< ((nI p) &&& 31))) (upd (upd tk2 s 3) s ((q 3) (4 * s))) h_28 (chR (pA m 3 (putv (m 3) 8 (m 7 p) 3)) n ((pA m 3 (putv (m 3) 8 (m 7 p) 3)) 7) pl) (nI (flN (pA m 3 (putv (m 3) 8 (m 7 p) 3)) n ((pA m 3 (putv (m 3) 8 (m 7 p) 3)) 7) pl)) (by first | assumption | omega) (tz_y hy hijn c30) (tk_back (q3 := q 3) htk (hTQ.2.1 s hs).1) (by omega)
              · rw [if_neg c30] at h29
                subst h29
                show Go E Q 9 0 0 102 [(8, .int (tr_11 p)), (0, .ref (a 0)), (1, .int x), (2, .int l), (3, .int i), (5, .int (nI ((24 * k) + ij))), (6, .int y), (7, .int (nI p))] [.int 0, .int y] (modelW cI a (pA (pA (pA (pA (pA (pA (pA (pA q 8 tk2) 9 ms_9) 7 tr_11) 10 h) 18 (upd (upd (upd (q 18) 7 (q 18 2)) 8 cho) 9 fal)) 8 (upd tk2 s 3)) 10 h_28) 18 (upd (upd (upd (upd (upd (q 18) 7 (q 18 2)) 8 cho) 9 fal) 8 (chR (pA m 3 (putv (m 3) 8 (m 7 p) 3)) n ((pA m 3 (putv (m 3) 8 (m 7 p) 3)) 7) pl)) 9 (nI (flN (pA m 3 (putv (m 3) 8 (m 7 p) 3)) n ((pA m 3 (putv (m 3) 8 (m 7 p) 3)) 7) pl)))))
                refine g_if_eq hE 112 dX5_torn_102 (by decide) (fun c32 => ?_) (fun c32 => absurd (by decide) c32)
                refine g_iconst hE dX5_torn_112 0 (by decide) ?_
                refine g_ior hE dX5_torn_113 ?_
                refine g_istore hE dX5_torn_114 [(6, .int (y ||| 0)), (8, .int (tr_11 p)), (0, .ref (a 0)), (1, .int x), (2, .int l), (3, .int i), (5, .int (nI ((24 * k) + ij))), (7, .int (nI p))] (by decide) rfl ?_
                refine g_aload_n hE dX5_torn_116 2 rfl ?_
                refine g_get hE fl_X5_34 dX5_torn_117 0 rfl rfl ?_
                refine g_iload hE dX5_torn_120 1 rfl ?_
                refine g_aload_n hE dX5_torn_122 2 rfl ?_
                refine g_get hE fl_X5_19 dX5_torn_123 0 rfl rfl ?_
                refine g_iconst hE dX5_torn_126 4 (by decide) ?_
                refine g_iload hE dX5_torn_127 1 rfl ?_
                refine g_imul_n hE dX5_torn_129 (show 4 = nI 4 from rfl) (show (tr_11 p) = nI s from hs2) ?_
                refine g_iald_n hE dX5_torn_130 4 rfl (show (nI (4 * s)) = nI (4 * s) from rfl) (by omega) ?_
                refine g_iast_n hE dX5_torn_131 9 rfl (show (tr_11 p) = nI s from hs2) (by omega) (modelW cI a (pA (pA (pA (pA (pA (pA (pA (pA (pA q 8 tk2) 9 ms_9) 7 tr_11) 10 h) 18 (upd (upd (upd (q 18) 7 (q 18 2)) 8 cho) 9 fal)) 8 (upd tk2 s 3)) 10 h_28) 18 (upd (upd (upd (upd (upd (q 18) 7 (q 18 2)) 8 cho) 9 fal) 8 (chR (pA m 3 (putv (m 3) 8 (m 7 p) 3)) n ((pA m 3 (putv (m 3) 8 (m 7 p) 3)) 7) pl)) 9 (nI (flN (pA m 3 (putv (m 3) 8 (m 7 p) 3)) n ((pA m 3 (putv (m 3) 8 (m 7 p) 3)) 7) pl)))) 8 (upd (upd tk2 s 3) s ((q 3) (4 * s))))) rfl ?_
                refine g_iinc hE dX5_torn_132 7 (nI (p + 1)) [(7, .int (nI (p + 1))), (6, .int (y ||| 0)), (8, .int (tr_11 p)), (0, .ref (a 0)), (1, .int x), (2, .int l), (3, .int i), (5, .int (nI ((24 * k) + ij)))] rfl (nI_1 _) (by decide) rfl ?_
                refine g_goto hE 68 dX5_torn_135 (by decide) ?_
                refine g_locals [3, 4, 5, 6, 7, 1, 0] [(0, .ref (a 0)), (1, .int x), (2, .int l), (3, .int i), (5, .int (nI ((24 * k) + ij))), (6, .int (y ||| 0)), (7, .int (nI (p + 1)))] rfl ?_
                exact ih_68 (p + 1) (y ||| 0) (upd (upd tk2 s 3) s ((q 3) (4 * s))) h_28 (chR (pA m 3 (putv (m 3) 8 (m 7 p) 3)) n ((pA m 3 (putv (m 3) 8 (m 7 p) 3)) 7) pl) (nI (flN (pA m 3 (putv (m 3) 8 (m 7 p) 3)) n ((pA m 3 (putv (m 3) 8 (m 7 p) 3)) 7) pl)) (by first | assumption | omega) (tz_n hy hijn c30) (tk_back (q3 := q 3) htk (hTQ.2.1 s hs).1) (by omega)
        refine g_locals [4, 5, 6, 7, 2, 1, 0] [(0, .ref (a 0)), (1, .int x), (2, .int l), (3, .int i), (5, .int (nI ((24 * k) + ij))), (6, .int 0), (7, .int 0)] rfl ?_
        exact L68 _ 0 0 tk_8 h_14 (chR m n (m 7) pl) (nI (flN m n (m 7) pl)) (Nat.zero_le _) (tz_z hijn c16) (fun s hs => (h10 s hs).1.trans (hTQ.2.1 s hs).1) (Nat.lt_succ_self _)
    · refine g_iload hE dX5_torn_28 0 rfl ?_
      exact g_iret hE hQ dX5_torn_30 rfl ((refS (sh k 1 0) (sh k 1 1) l i (q 18 0)), q) rfl rfl ⟨(by rw [fTorn, hc0, if_neg hk4n, if_pos c3.2, if_neg (ref_nz (show (refS (sh k 1 0) (sh k 1 1) l i (q 18 0)) < 0 from (Int32.not_le.mp c7)))]), ⟨⟨rfl, rfl, rfl, rfl, rfl, rfl, rfl, rfl, rfl⟩, ⟨rfl, rfl, rfl, rfl, rfl, rfl, rfl⟩⟩⟩
  · rw [if_neg c3] at h2
    subst h2
    show Go E Q 9 0 0 5 [(0, .ref (a 0)), (1, .int x), (2, .int l), (3, .int i)] [.int 0] (modelW cI a q)
    refine g_if_ne hE 10 dX5_torn_5 (by decide) (fun c33 => absurd (by decide) c33) (fun c33 => ?_)
    refine g_iconst hE dX5_torn_8 (-1) (by decide) ?_
    exact g_iret hE hQ dX5_torn_9 rfl ((-1), q) rfl rfl ⟨(by unfold fTorn; exact (sb_ite (sk_bad hk c3)).symm), ⟨⟨rfl, rfl, rfl, rfl, rfl, rfl, rfl, rfl, rfl⟩, ⟨rfl, rfl, rfl, rfl, rfl, rfl, rfl⟩⟩⟩
