/-! the search for the best row -/
abbrev SST : Type := (Nat → Int32) × (Nat → Int32) × Int32 × Int32
def fo (g : Nat → SST → SST) : Nat → SST → SST
  | 0, st => st
  | s + 1, st => g s (fo g s st)
def tbC (T C : Nat → Int32) (va le : Int32) (k : Nat) (tot : Int32) : (Nat → Int32) × Int32 × Int32 := if le < 0 ∨ va < tot ∨ (tot = va ∧ nI k < le) then (T, tot, nI k) else (C, va, le)
def tbG (m : MS) (n : Nat) (rec : Nat → Nat → Int32 → SST → SST) (k c : Nat) (x : Int32) (s : Nat) (st : SST) : SST := if fallS m n (nI s) c = c then st else rec (k + 1) (fallS m n (nI s) c) (x + wS m n (nd c (fallS m n (nI s) c))) (upd st.1 k (nI s), st.2.1, st.2.2.1, st.2.2.2)
def tbS (m : MS) (n sv : Nat) (li : Int32) : Nat → Nat → Nat → Int32 → SST → SST
  | 0, _, _, _, st => st
  | f + 1, k, c, x, st => if nI k < li ∧ k < 4 then fo (tbG m n (tbS m n sv li f) k c x) sv (st.1, tbC st.1 st.2.1 st.2.2.1 st.2.2.2 k (x + wS m n c)) else (st.1, tbC st.1 st.2.1 st.2.2.1 st.2.2.2 k (x + wS m n c))
theorem set_eq {z : Int32} {a b : Nat} (hz : z = nI b) (hb : b < 64) (ha : a < 64) (h : nI a = z) : a = b := by
  rw [hz] at h
  exact (nI_eq (by omega) (by omega)).mp h
set_option maxHeartbeats 4000000 in
set_option maxRecDepth 100000 in
theorem c_X4_tryBest : ∀ (f : Nat) (cI cS : ClassId) (a b : Nat → Nat) (m : Nat → Nat → Int32) {n sv pl : Nat} (hM : MW m n sv pl) (T C : Nat → Int32) (li ap va le : Int32) (y : Int32) (k : Nat) (hy : y = nI k) (hk4 : k ≤ 4) (hkf : k + f = 5) (z : Int32) (c : Nat) (hz : z = nI c) (hs64 : c < 64) (x : Int32), CT cI cS yX4_tryBest cX4_tryBest 8 none (4 + f) [.ref (a 0), .ref (b 0), .int y, .int z, .int x] (millW cI a m ++ (searchW cI b (seS T C li ap va le))) 0 0 (fun u : Unit => True) (fun u => none) (fun u => (millW cI a m ++ (searchW cI b (seS (tbS m n sv li f k c x (T, C, va, le)).1 (tbS m n sv li f k c x (T, C, va, le)).2.1 li ap (tbS m n sv li f k c x (T, C, va, le)).2.2.1 (tbS m n sv li f k c x (T, C, va, le)).2.2.2)))) := by
  intro f
  induction f with
  | zero => intro cI cS a b m n sv pl hM T C li ap va le y k hy hk4 hkf z c hz hs64 x; exact absurd hkf (by omega)
  | succ f c_ih =>
    intro cI cS a b m n sv pl hM T C li ap va le y k hy hk4 hkf z c hz hs64 x
    refine ct_intro (by decide) (Nat.le_of_ble_eq_true rfl) (fun E Q hE hQ hI => ?_)
    have hE : CxOk E cI cS RX4 cX4_tryBest 8 none (4 + (f + 1)) 0 0 := hE
    show Go E Q 8 0 0 0 [(0, .ref (a 0)), (1, .ref (b 0)), (2, .int y), (3, .int z), (4, .int x)] [] (millW cI a m ++ (searchW cI b (seS T C li ap va le)))
    have hn := hM.1
    have hn6 := hM.2.1
    have hsv := hM.2.2.1
    have hsv8 := hM.2.2.2.1
    have hpl := hM.2.2.2.2.1
    have hpl6 := hM.2.2.2.2.2
    refine g_iload hE dX4_tryBest_0 4 rfl ?_
    refine g_aload_n hE dX4_tryBest_2 0 rfl ?_
    refine g_iload_n hE dX4_tryBest_3 3 rfl ?_
    refine g_callV hE (c_X0_worth cI cS a m (by first | assumption | exact mw_of (by assumption)) z c (show z = nI c from hz) (by first | assumption | exact bs_lt64 _ (by assumption) | exact fallS_lt (by assumption) (by assumption) | exact nd_lt (by assumption) (by assumption) | exact nd_lt (by assumption) (fallS_lt (by assumption) (by assumption)) | exact nd_lt (by assumption) (bs_lt64 _ (by assumption)) | exact and_lt (by assumption) (by assumption) | exact hpS_lt (by assumption) | decide)) mk_X0_worth mv_X0_worth ml_X4_164 dX4_tryBest_4 (As := [.int z]) (rest := [.int x]) rfl rfl 0 rfl (show vwCl[0]? = some (RX0, TX0, 13) from rfl) (by omega) (by decide) (Nat.le_of_ble_eq_true rfl) (by decide) (by decide) [0, 1, 2, 3, 4, 5, 6, 7, 8, 9] rfl (by decide) (fun u => Nat.le_of_ble_eq_true rfl) (ws' := fun u => millW cI a m ++ (searchW cI b (seS T C li ap va le))) (fun u => rfl) (fun u hu => ?_)
    obtain ⟨r_1, rfl⟩ : ∃ z, z = u := ⟨_, rfl⟩
    have h2 : r_1 = (wS m n c) := hu
    subst h2
    show Go E Q 8 0 0 7 [(0, .ref (a 0)), (1, .ref (b 0)), (2, .int y), (3, .int z), (4, .int x)] [.int (wS m n c), .int x] (millW cI a m ++ (searchW cI b (seS T C li ap va le)))
    refine g_iadd hE dX4_tryBest_7 ?_
    obtain ⟨tot, htot⟩ : ∃ q, q = (x + (wS m n c)) := ⟨_, rfl⟩
    rw [← htot]
    refine g_istore hE dX4_tryBest_8 [(5, .int tot), (0, .ref (a 0)), (1, .ref (b 0)), (2, .int y), (3, .int z), (4, .int x)] (by decide) rfl ?_
    have L50 : ∀ (C2 : Nat → Int32) (va2 : Int32) (le2 : Int32), ((C2, va2, le2) = tbC T C va le k tot) → Go E Q 8 0 0 50 [(0, .ref (a 0)), (1, .ref (b 0)), (2, .int y), (3, .int z), (4, .int x), (5, .int tot)] [] (millW cI a m ++ (searchW cI b (seS T C2 li ap va2 le2))) := by
      intro C2 va2 le2 h50
      refine g_iload_n hE dX4_tryBest_50 2 rfl ?_
      refine g_aload_n hE dX4_tryBest_51 1 rfl ?_
      refine g_get hE fl_X4_273 dX4_tryBest_52 10 rfl rfl ?_
      refine g_icmp_ge hE 63 dX4_tryBest_55 (by decide) (fun c3 => ?_) (fun c3 => ?_)
      · have hk : tbS m n sv li (f + 1) k c x (T, C, va, le) = (T, C2, va2, le2) := by rw [tbS, if_neg (show ¬ (nI k < li ∧ k < 4) by rw [← hy]; exact (fun q => (show ¬ y < li from (Int32.not_lt.mpr c3)) q.1)), ← htot, ← h50]
        refine g_world (millW cI a m ++ (searchW cI b (seS (tbS m n sv li (f + 1) k c x (T, C, va, le)).1 (tbS m n sv li (f + 1) k c x (T, C, va, le)).2.1 li ap (tbS m n sv li (f + 1) k c x (T, C, va, le)).2.2.1 (tbS m n sv li (f + 1) k c x (T, C, va, le)).2.2.2))) (by rw [hk]) ?_
        exact g_vret hE hQ dX4_tryBest_63 () rfl rfl trivial
      · refine g_iload_n hE dX4_tryBest_58 2 rfl ?_
        refine g_iconst hE dX4_tryBest_59 4 (by decide) ?_
        refine g_icmp_lt hE 64 dX4_tryBest_60 (by decide) (fun c4 => ?_) (fun c4 => ?_)
        · have kc4 := nat_lt_t (show y = nI k from hy) (show 4 = nI 4 from rfl) (by omega) (by omega) c4
          refine g_iconst hE dX4_tryBest_64 0 (by decide) ?_
          refine g_istore hE dX4_tryBest_65 [(6, .int 0), (0, .ref (a 0)), (1, .ref (b 0)), (2, .int y), (3, .int z), (4, .int x), (5, .int tot)] (by decide) rfl ?_
          have L67 : ∀ (n_67 : Nat) (s : Nat) (T3 : Nat → Int32) (C3 : Nat → Int32) (va3 : Int32) (le3 : Int32), (s ≤ sv) → ((T3, C3, va3, le3) = fo (tbG m n (tbS m n sv li f) k c x) s (T, C2, va2, le2)) → (sv - s < n_67) → Go E Q 8 0 0 67 [(0, .ref (a 0)), (1, .ref (b 0)), (2, .int y), (3, .int z), (4, .int x), (5, .int tot), (6, .int (nI s))] [] (millW cI a m ++ (searchW cI b (seS T3 C3 li ap va3 le3))) := by
            intro n_67
            induction n_67 with
            | zero => intro s T3 C3 va3 le3 hs hst hm_67; exact absurd hm_67 (Nat.not_lt_zero _)
            | succ n_67 ih_67 =>
              intro s T3 C3 va3 le3 hs hst hm_67
              refine g_iload hE dX4_tryBest_67 6 rfl ?_
              refine g_aload_n hE dX4_tryBest_69 0 rfl ?_
              refine g_get hE fl_X4_78 dX4_tryBest_70 0 rfl rfl ?_
              refine g_icmp_ge hE 133 dX4_tryBest_73 (by decide) (fun c5 => ?_) (fun c5 => ?_)
              · have kc5 := nat_le_t (show (m 9 1) = nI sv from hsv) (show (nI s) = nI s from rfl) (by omega) (by omega) c5
                have hk : tbS m n sv li (f + 1) k c x (T, C, va, le) = (T3, C3, va3, le3) := by rw [tbS, if_pos (show nI k < li ∧ k < 4 by rw [← hy]; exact ⟨(show y < li from (Int32.not_le.mp c3)), by omega⟩), ← htot, ← h50, hst, show sv = s by omega]
                refine g_world (millW cI a m ++ (searchW cI b (seS (tbS m n sv li (f + 1) k c x (T, C, va, le)).1 (tbS m n sv li (f + 1) k c x (T, C, va, le)).2.1 li ap (tbS m n sv li (f + 1) k c x (T, C, va, le)).2.2.1 (tbS m n sv li (f + 1) k c x (T, C, va, le)).2.2.2))) (by rw [hk]) ?_
                exact g_vret hE hQ dX4_tryBest_133 () rfl rfl trivial
              · have kc5 := nat_le_f (show (m 9 1) = nI sv from hsv) (show (nI s) = nI s from rfl) (by omega) (by omega) c5
                refine g_aload_n hE dX4_tryBest_76 0 rfl ?_
                refine g_iload hE dX4_tryBest_77 6 rfl ?_
                refine g_iload_n hE dX4_tryBest_79 3 rfl ?_
                refine g_callV hE (c_X0_falling cI cS a m (by first | assumption | exact mw_of (by assumption)) (nI s) z c (show z = nI c from hz) (by first | assumption | exact bs_lt64 _ (by assumption) | exact fallS_lt (by assumption) (by assumption) | exact nd_lt (by assumption) (by assumption) | exact nd_lt (by assumption) (fallS_lt (by assumption) (by assumption)) | exact nd_lt (by assumption) (bs_lt64 _ (by assumption)) | exact and_lt (by assumption) (by assumption) | exact hpS_lt (by assumption) | decide)) mk_X0_falling mv_X0_falling ml_X4_181 dX4_tryBest_80 (As := [.int (nI s), .int z]) (rest := []) rfl rfl 0 rfl (show vwCl[0]? = some (RX0, TX0, 13) from rfl) (by omega) (by decide) (Nat.le_of_ble_eq_true rfl) (by decide) (by decide) [0, 1, 2, 3, 4, 5, 6, 7, 8, 9] rfl (by decide) (fun u => Nat.le_of_ble_eq_true rfl) (ws' := fun u => millW cI a m ++ (searchW cI b (seS T3 C3 li ap va3 le3))) (fun u => rfl) (fun u hu => ?_)
                obtain ⟨r_6, rfl⟩ : ∃ z, z = u := ⟨_, rfl⟩
                have h7 : r_6 = (nI (fallS m n (nI s) c)) := hu
                subst h7
                show Go E Q 8 0 0 83 [(0, .ref (a 0)), (1, .ref (b 0)), (2, .int y), (3, .int z), (4, .int x), (5, .int tot), (6, .int (nI s))] [.int (nI (fallS m n (nI s) c))] (millW cI a m ++ (searchW cI b (seS T3 C3 li ap va3 le3)))
                refine g_istore hE dX4_tryBest_83 [(7, .int (nI (fallS m n (nI s) c))), (0, .ref (a 0)), (1, .ref (b 0)), (2, .int y), (3, .int z), (4, .int x), (5, .int tot), (6, .int (nI s))] (by decide) rfl ?_
                refine g_iload hE dX4_tryBest_85 0 rfl ?_
                refine g_iload_n hE dX4_tryBest_87 4 rfl ?_
                refine g_icmp_ne hE 94 dX4_tryBest_88 (by decide) (fun c8 => ?_) (fun c8 => ?_)
                · refine g_aload_n hE dX4_tryBest_94 2 rfl ?_
                  refine g_get hE fl_X4_276 dX4_tryBest_95 10 rfl rfl ?_
                  refine g_iload_n hE dX4_tryBest_98 3 rfl ?_
                  refine g_iload hE dX4_tryBest_99 7 rfl ?_
                  refine g_callS hE (c_X4_put cI cS (b 1) 4 T3 y (nI s) (by decide)) mk_X4_put st_X4_put ml_X4_236 dX4_tryBest_101 (As := [.ref (b 1), .int y, .int (nI s)]) (rest := []) rfl rfl (by omega) (by decide) (Nat.le_of_ble_eq_true rfl) (by decide) (by decide) [11] rfl (by decide) (fun u => Nat.le_of_ble_eq_true rfl) (ws' := fun u => millW cI a m ++ (searchW cI b (seS u C3 li ap va3 le3))) (fun u => rfl) (fun u hu => ?_)
                  obtain ⟨f_9, rfl⟩ : ∃ z, z = u := ⟨_, rfl⟩
                  have h10 : f_9 = putv T3 4 y (nI s) := hu
                  have h11 : f_9 = (upd T3 k (nI s)) := h10.trans (by rw [show y = nI k from hy]; exact putv_n (by omega) (by decide))
                  subst h11
                  show Go E Q 8 0 0 104 [(7, .int (nI (fallS m n (nI s) c))), (0, .ref (a 0)), (1, .ref (b 0)), (2, .int y), (3, .int z), (4, .int x), (5, .int tot), (6, .int (nI s))] [] (millW cI a m ++ (searchW cI b (seS (upd T3 k (nI s)) C3 li ap va3 le3)))
                  refine g_aload_n hE dX4_tryBest_104 1 rfl ?_
                  refine g_aload_n hE dX4_tryBest_105 2 rfl ?_
                  refine g_iload_n hE dX4_tryBest_106 3 rfl ?_
                  refine g_iconst hE dX4_tryBest_107 1 (by decide) ?_
                  refine g_iadd_n hE dX4_tryBest_108 hy (show 1 = nI 1 from rfl) ?_
                  refine g_iload hE dX4_tryBest_109 0 rfl ?_
                  refine g_iload hE dX4_tryBest_111 5 rfl ?_
                  refine g_aload_n hE dX4_tryBest_113 1 rfl ?_
                  refine g_iload_n hE dX4_tryBest_114 4 rfl ?_
                  refine g_iload hE dX4_tryBest_115 0 rfl ?_
                  refine g_iconst hE dX4_tryBest_117 (-1) (by decide) ?_
                  refine g_ixor hE dX4_tryBest_118 ?_
                  refine g_iand hE dX4_tryBest_119 ?_
                  refine g_callV hE (c_X0_worth cI cS a m (by first | assumption | exact mw_of (by assumption)) (z &&& ((nI (fallS m n (nI s) c)) ^^^ (-1))) (nd c (fallS m n (nI s) c)) (show (z &&& ((nI (fallS m n (nI s) c)) ^^^ (-1))) = nI (nd c (fallS m n (nI s) c)) from (nd_i (show z = nI c from hz) (show (nI (fallS m n (nI s) c)) = nI (fallS m n (nI s) c) from rfl) (by first | assumption | exact bs_lt64 _ (by assumption) | exact fallS_lt (by assumption) (by assumption) | exact nd_lt (by assumption) (by assumption) | exact nd_lt (by assumption) (fallS_lt (by assumption) (by assumption)) | exact nd_lt (by assumption) (bs_lt64 _ (by assumption)) | exact and_lt (by assumption) (by assumption) | exact hpS_lt (by assumption) | decide) (by first | assumption | exact bs_lt64 _ (by assumption) | exact fallS_lt (by assumption) (by assumption) | exact nd_lt (by assumption) (by assumption) | exact nd_lt (by assumption) (fallS_lt (by assumption) (by assumption)) | exact nd_lt (by assumption) (bs_lt64 _ (by assumption)) | exact and_lt (by assumption) (by assumption) | exact hpS_lt (by assumption) | decide))) (by first | assumption | exact bs_lt64 _ (by assumption) | exact fallS_lt (by assumption) (by assumption) | exact nd_lt (by assumption) (by assumption) | exact nd_lt (by assumption) (fallS_lt (by assumption) (by assumption)) | exact nd_lt (by assumption) (bs_lt64 _ (by assumption)) | exact and_lt (by assumption) (by assumption) | exact hpS_lt (by assumption) | decide)) mk_X0_worth mv_X0_worth ml_X4_164 dX4_tryBest_120 (As := [.int (z &&& ((nI (fallS m n (nI s) c)) ^^^ (-1)))]) (rest := [.int x, .int (nI (fallS m n (nI s) c)), .int (nI (k + 1)), .ref (b 0), .ref (a 0)]) rfl rfl 0 rfl (show vwCl[0]? = some (RX0, TX0, 13) from rfl) (by omega) (by decide) (Nat.le_of_ble_eq_true rfl) (by decide) (by decide) [0, 1, 2, 3, 4, 5, 6, 7, 8, 9] rfl (by decide) (fun u => Nat.le_of_ble_eq_true rfl) (ws' := fun u => millW cI a m ++ (searchW cI b (seS (upd T3 k (nI s)) C3 li ap va3 le3))) (fun u => rfl) (fun u hu => ?_)
                  obtain ⟨r_12, rfl⟩ : ∃ z, z = u := ⟨_, rfl⟩
                  have h13 : r_12 = (wS m n (nd c (fallS m n (nI s) c))) := hu
                  subst h13
                  show Go E Q 8 0 0 123 [(7, .int (nI (fallS m n (nI s) c))), (0, .ref (a 0)), (1, .ref (b 0)), (2, .int y), (3, .int z), (4, .int x), (5, .int tot), (6, .int (nI s))] [.int (wS m n (nd c (fallS m n (nI s) c))), .int x, .int (nI (fallS m n (nI s) c)), .int (nI (k + 1)), .ref (b 0), .ref (a 0)] (millW cI a m ++ (searchW cI b (seS (upd T3 k (nI s)) C3 li ap va3 le3)))
                  refine g_iadd hE dX4_tryBest_123 ?_
                  refine g_callS hE (c_ih cI cS a b m (by first | assumption | exact mw_of (by assumption)) (upd T3 k (nI s)) C3 li ap va3 le3 (nI (k + 1)) (k + 1) (show (nI (k + 1)) = nI (k + 1) from rfl) (by omega) (by omega) (nI (fallS m n (nI s) c)) (fallS m n (nI s) c) (show (nI (fallS m n (nI s) c)) = nI (fallS m n (nI s) c) from rfl) (by first | assumption | exact bs_lt64 _ (by assumption) | exact fallS_lt (by assumption) (by assumption) | exact nd_lt (by assumption) (by assumption) | exact nd_lt (by assumption) (fallS_lt (by assumption) (by assumption)) | exact nd_lt (by assumption) (bs_lt64 _ (by assumption)) | exact and_lt (by assumption) (by assumption) | exact hpS_lt (by assumption) | decide) (x + (wS m n (nd c (fallS m n (nI s) c))))) mk_X4_tryBest st_X4_tryBest ml_X4_266 dX4_tryBest_124 (As := [.ref (a 0), .ref (b 0), .int (nI (k + 1)), .int (nI (fallS m n (nI s) c)), .int (x + (wS m n (nd c (fallS m n (nI s) c))))]) (rest := []) rfl rfl (by omega) (by decide) (Nat.le_of_ble_eq_true rfl) (by decide) (by decide) [0, 1, 2, 3, 4, 5, 6, 7, 8, 9, 10, 11, 12] rfl (by decide) (fun u => Nat.le_of_ble_eq_true rfl) (ws' := fun u => millW cI a m ++ (searchW cI b (seS (tbS m n sv li f (k + 1) (fallS m n (nI s) c) (x + (wS m n (nd c (fallS m n (nI s) c)))) ((upd T3 k (nI s)), C3, va3, le3)).1 (tbS m n sv li f (k + 1) (fallS m n (nI s) c) (x + (wS m n (nd c (fallS m n (nI s) c)))) ((upd T3 k (nI s)), C3, va3, le3)).2.1 li ap (tbS m n sv li f (k + 1) (fallS m n (nI s) c) (x + (wS m n (nd c (fallS m n (nI s) c)))) ((upd T3 k (nI s)), C3, va3, le3)).2.2.1 (tbS m n sv li f (k + 1) (fallS m n (nI s) c) (x + (wS m n (nd c (fallS m n (nI s) c)))) ((upd T3 k (nI s)), C3, va3, le3)).2.2.2))) (fun u => rfl) (fun u hu => ?_)
                  show Go E Q 8 0 0 127 [(7, .int (nI (fallS m n (nI s) c))), (0, .ref (a 0)), (1, .ref (b 0)), (2, .int y), (3, .int z), (4, .int x), (5, .int tot), (6, .int (nI s))] [] (millW cI a m ++ (searchW cI b (seS (tbS m n sv li f (k + 1) (fallS m n (nI s) c) (x + (wS m n (nd c (fallS m n (nI s) c)))) ((upd T3 k (nI s)), C3, va3, le3)).1 (tbS m n sv li f (k + 1) (fallS m n (nI s) c) (x + (wS m n (nd c (fallS m n (nI s) c)))) ((upd T3 k (nI s)), C3, va3, le3)).2.1 li ap (tbS m n sv li f (k + 1) (fallS m n (nI s) c) (x + (wS m n (nd c (fallS m n (nI s) c)))) ((upd T3 k (nI s)), C3, va3, le3)).2.2.1 (tbS m n sv li f (k + 1) (fallS m n (nI s) c) (x + (wS m n (nd c (fallS m n (nI s) c)))) ((upd T3 k (nI s)), C3, va3, le3)).2.2.2)))
                  refine g_iinc hE dX4_tryBest_127 7 (nI (s + 1)) [(6, .int (nI (s + 1))), (7, .int (nI (fallS m n (nI s) c))), (0, .ref (a 0)), (1, .ref (b 0)), (2, .int y), (3, .int z), (4, .int x), (5, .int tot)] rfl (nI_1 _) (by decide) rfl ?_
                  refine g_goto hE 67 dX4_tryBest_130 (by decide) ?_
                  refine g_locals [2, 3, 4, 5, 6, 7, 0] [(0, .ref (a 0)), (1, .ref (b 0)), (2, .int y), (3, .int z), (4, .int x), (5, .int tot), (6, .int (nI (s + 1)))] rfl ?_
                  exact ih_67 (s + 1) ((tbS m n sv li f (k + 1) (fallS m n (nI s) c) (x + (wS m n (nd c (fallS m n (nI s) c)))) ((upd T3 k (nI s)), C3, va3, le3)).1) ((tbS m n sv li f (k + 1) (fallS m n (nI s) c) (x + (wS m n (nd c (fallS m n (nI s) c)))) ((upd T3 k (nI s)), C3, va3, le3)).2.1) ((tbS m n sv li f (k + 1) (fallS m n (nI s) c) (x + (wS m n (nd c (fallS m n (nI s) c)))) ((upd T3 k (nI s)), C3, va3, le3)).2.2.1) ((tbS m n sv li f (k + 1) (fallS m n (nI s) c) (x + (wS m n (nd c (fallS m n (nI s) c)))) ((upd T3 k (nI s)), C3, va3, le3)).2.2.2) (by first | assumption | omega) (by rw [fo, ← hst, tbG, if_neg (fun q => (show ¬ (nI (fallS m n (nI s) c)) = z from c8) (by rw [q, hz]))]) (by omega)
                · refine g_goto hE 127 dX4_tryBest_91 (by decide) ?_
                  refine g_iinc hE dX4_tryBest_127 7 (nI (s + 1)) [(6, .int (nI (s + 1))), (7, .int (nI (fallS m n (nI s) c))), (0, .ref (a 0)), (1, .ref (b 0)), (2, .int y), (3, .int z), (4, .int x), (5, .int tot)] rfl (nI_1 _) (by decide) rfl ?_
                  refine g_goto hE 67 dX4_tryBest_130 (by decide) ?_
                  refine g_locals [2, 3, 4, 5, 6, 7, 0] [(0, .ref (a 0)), (1, .ref (b 0)), (2, .int y), (3, .int z), (4, .int x), (5, .int tot), (6, .int (nI (s + 1)))] rfl ?_
                  exact ih_67 (s + 1) T3 C3 va3 le3 (by first | assumption | omega) (by rw [fo, ← hst, tbG, if_pos (set_eq hz hs64 (fallS_lt hn6 hs64) (show (nI (fallS m n (nI s) c)) = z from c8))]) (by omega)
          refine g_locals [1, 2, 3, 4, 5, 6, 0] [(0, .ref (a 0)), (1, .ref (b 0)), (2, .int y), (3, .int z), (4, .int x), (5, .int tot), (6, .int 0)] rfl ?_
          exact L67 _ 0 T C2 va2 le2 (Nat.zero_le _) rfl (Nat.lt_succ_self _)
        · have kc4 := nat_lt_f (show y = nI k from hy) (show 4 = nI 4 from rfl) (by omega) (by omega) c4
          have hk : tbS m n sv li (f + 1) k c x (T, C, va, le) = (T, C2, va2, le2) := by rw [tbS, if_neg (show ¬ (nI k < li ∧ k < 4) by rw [← hy]; exact (fun q => absurd q.2 (by omega))), ← htot, ← h50]
          refine g_world (millW cI a m ++ (searchW cI b (seS (tbS m n sv li (f + 1) k c x (T, C, va, le)).1 (tbS m n sv li (f + 1) k c x (T, C, va, le)).2.1 li ap (tbS m n sv li (f + 1) k c x (T, C, va, le)).2.2.1 (tbS m n sv li (f + 1) k c x (T, C, va, le)).2.2.2))) (by rw [hk]) ?_
          exact g_vret hE hQ dX4_tryBest_63 () rfl rfl trivial
    refine g_aload_n hE dX4_tryBest_10 2 rfl ?_
    refine g_get hE fl_X4_200 dX4_tryBest_11 10 rfl rfl ?_
    refine g_if_lt hE 43 dX4_tryBest_14 (by decide) (fun c15 => ?_) (fun c15 => ?_)
    · refine g_aload_n hE dX4_tryBest_43 2 rfl ?_
      refine g_iload_n hE dX4_tryBest_44 3 rfl ?_
      refine g_iload hE dX4_tryBest_45 0 rfl ?_
      refine g_callV hE (c_X1_choose cI cS b T C li ap va le y tot) mk_X1_choose mv_X1_choose ml_X4_270 dX4_tryBest_47 (As := [.int y, .int tot]) (rest := []) rfl rfl 10 rfl (show vwCl[1]? = some (RX1, TX1, 6) from rfl) (by omega) (by decide) (Nat.le_of_ble_eq_true rfl) (by decide) (by decide) [10, 11, 12] rfl (by decide) (fun u => Nat.le_of_ble_eq_true rfl) (ws' := fun u => millW cI a m ++ (searchW cI b (seS T T li ap tot y))) (fun u => rfl) (fun u hu => ?_)
      show Go E Q 8 0 0 50 [(5, .int tot), (0, .ref (a 0)), (1, .ref (b 0)), (2, .int y), (3, .int z), (4, .int x)] [] (millW cI a m ++ (searchW cI b (seS T T li ap tot y)))
      refine g_locals [1, 2, 3, 4, 5, 0] [(0, .ref (a 0)), (1, .ref (b 0)), (2, .int y), (3, .int z), (4, .int x), (5, .int tot)] rfl ?_
      exact L50 T tot y (by rw [tbC, if_pos (Or.inl (show le < 0 from c15))]; rw [hy])
    · refine g_iload hE dX4_tryBest_17 0 rfl ?_
      refine g_aload_n hE dX4_tryBest_19 2 rfl ?_
      refine g_get hE fl_X4_197 dX4_tryBest_20 10 rfl rfl ?_
      refine g_icmp_gt hE 43 dX4_tryBest_23 (by decide) (fun c17 => ?_) (fun c17 => ?_)
      · refine g_aload_n hE dX4_tryBest_43 2 rfl ?_
        refine g_iload_n hE dX4_tryBest_44 3 rfl ?_
        refine g_iload hE dX4_tryBest_45 0 rfl ?_
        refine g_callV hE (c_X1_choose cI cS b T C li ap va le y tot) mk_X1_choose mv_X1_choose ml_X4_270 dX4_tryBest_47 (As := [.int y, .int tot]) (rest := []) rfl rfl 10 rfl (show vwCl[1]? = some (RX1, TX1, 6) from rfl) (by omega) (by decide) (Nat.le_of_ble_eq_true rfl) (by decide) (by decide) [10, 11, 12] rfl (by decide) (fun u => Nat.le_of_ble_eq_true rfl) (ws' := fun u => millW cI a m ++ (searchW cI b (seS T T li ap tot y))) (fun u => rfl) (fun u hu => ?_)
        show Go E Q 8 0 0 50 [(5, .int tot), (0, .ref (a 0)), (1, .ref (b 0)), (2, .int y), (3, .int z), (4, .int x)] [] (millW cI a m ++ (searchW cI b (seS T T li ap tot y)))
        refine g_locals [1, 2, 3, 4, 5, 0] [(0, .ref (a 0)), (1, .ref (b 0)), (2, .int y), (3, .int z), (4, .int x), (5, .int tot)] rfl ?_
        exact L50 T tot y (by rw [tbC, if_pos (Or.inr (Or.inl (show va < tot from c17)))]; rw [hy])
      · refine g_iload hE dX4_tryBest_26 0 rfl ?_
        refine g_aload_n hE dX4_tryBest_28 2 rfl ?_
        refine g_get hE fl_X4_197 dX4_tryBest_29 10 rfl rfl ?_
        refine g_icmp_ne hE 50 dX4_tryBest_32 (by decide) (fun c19 => ?_) (fun c19 => ?_)
        · refine g_locals [1, 2, 3, 4, 5, 0] [(0, .ref (a 0)), (1, .ref (b 0)), (2, .int y), (3, .int z), (4, .int x), (5, .int tot)] rfl ?_
          exact L50 C va le (by rw [tbC, if_neg (fun q => q.elim (show ¬ le < 0 from c15) (fun q => q.elim (show ¬ va < tot from c17) (fun q => (show ¬ tot = va from c19) q.1)))])
        · refine g_iload_n hE dX4_tryBest_35 3 rfl ?_
          refine g_aload_n hE dX4_tryBest_36 2 rfl ?_
          refine g_get hE fl_X4_200 dX4_tryBest_37 10 rfl rfl ?_
          refine g_icmp_ge hE 50 dX4_tryBest_40 (by decide) (fun c20 => ?_) (fun c20 => ?_)
          · refine g_locals [1, 2, 3, 4, 5, 0] [(0, .ref (a 0)), (1, .ref (b 0)), (2, .int y), (3, .int z), (4, .int x), (5, .int tot)] rfl ?_
            exact L50 C va le (by rw [tbC, if_neg (fun q => q.elim (show ¬ le < 0 from c15) (fun q => q.elim (show ¬ va < tot from c17) (fun q => (show ¬ y < le from (Int32.not_lt.mpr c20)) (by rw [hy]; exact q.2))))])
          · refine g_aload_n hE dX4_tryBest_43 2 rfl ?_
            refine g_iload_n hE dX4_tryBest_44 3 rfl ?_
            refine g_iload hE dX4_tryBest_45 0 rfl ?_
            refine g_callV hE (c_X1_choose cI cS b T C li ap va le y tot) mk_X1_choose mv_X1_choose ml_X4_270 dX4_tryBest_47 (As := [.int y, .int tot]) (rest := []) rfl rfl 10 rfl (show vwCl[1]? = some (RX1, TX1, 6) from rfl) (by omega) (by decide) (Nat.le_of_ble_eq_true rfl) (by decide) (by decide) [10, 11, 12] rfl (by decide) (fun u => Nat.le_of_ble_eq_true rfl) (ws' := fun u => millW cI a m ++ (searchW cI b (seS T T li ap tot y))) (fun u => rfl) (fun u hu => ?_)
            show Go E Q 8 0 0 50 [(5, .int tot), (0, .ref (a 0)), (1, .ref (b 0)), (2, .int y), (3, .int z), (4, .int x)] [] (millW cI a m ++ (searchW cI b (seS T T li ap tot y)))
            refine g_locals [1, 2, 3, 4, 5, 0] [(0, .ref (a 0)), (1, .ref (b 0)), (2, .int y), (3, .int z), (4, .int x), (5, .int tot)] rfl ?_
            exact L50 T tot y (by rw [tbC, if_pos (Or.inr (Or.inr ⟨(show tot = va from c19), by rw [← hy]; exact (show y < le from (Int32.not_le.mp c20))⟩))]; rw [hy])
