/-! the search for the row by which grains are parted -/
def tpC (T C : Nat → Int32) (va le : Int32) (aps k c : Nat) : (Nat → Int32) × Int32 × Int32 := if ¬ 1 < bcS (c &&& aps) ∧ (le < 0 ∨ nI k < le) then (T, 0, nI k) else (C, va, le)
def tpG (m : MS) (n aps : Nat) (rec : Nat → Nat → SST → SST) (k c : Nat) (s : Nat) (st : SST) : SST := if fallS m n (nI s) c = c ∨ 1 < bcS ((nd c (fallS m n (nI s) c)) &&& aps) then st else rec (k + 1) (fallS m n (nI s) c) (upd st.1 k (nI s), st.2.1, st.2.2.1, st.2.2.2)
def tpR (m : MS) (n sv : Nat) (li : Int32) (aps : Nat) : Nat → Nat → Nat → SST → SST
  | 0, _, _, st => st
  | f + 1, k, c, st => if nI k < li ∧ k < 4 then fo (tpG m n aps (tpR m n sv li aps f) k c) sv (st.1, tpC st.1 st.2.1 st.2.2.1 st.2.2.2 aps k c) else (st.1, tpC st.1 st.2.1 st.2.2.1 st.2.2.2 aps k c)
set_option maxHeartbeats 4000000 in
set_option maxRecDepth 100000 in
theorem c_X4_tryParted : ∀ (f : Nat) (cI cS : ClassId) (a b : Nat → Nat) (m : Nat → Nat → Int32) {n sv pl : Nat} (hM : MW m n sv pl) (T C : Nat → Int32) (li ap va le : Int32) (aps : Nat) (hap : ap = nI aps) (haps : aps < 64) (y : Int32) (k : Nat) (hy : y = nI k) (hk4 : k ≤ 4) (hkf : k + f = 5) (z : Int32) (c : Nat) (hz : z = nI c) (hs64 : c < 64), CT cI cS yX4_tryParted cX4_tryParted 6 none (4 + f) [.ref (a 0), .ref (b 0), .int y, .int z] (millW cI a m ++ (searchW cI b (seS T C li ap va le))) 0 0 (fun u : Unit => True) (fun u => none) (fun u => (millW cI a m ++ (searchW cI b (seS (tpR m n sv li aps f k c (T, C, va, le)).1 (tpR m n sv li aps f k c (T, C, va, le)).2.1 li ap (tpR m n sv li aps f k c (T, C, va, le)).2.2.1 (tpR m n sv li aps f k c (T, C, va, le)).2.2.2)))) := by
  intro f
  induction f with
  | zero => intro cI cS a b m n sv pl hM T C li ap va le aps hap haps y k hy hk4 hkf z c hz hs64; exact absurd hkf (by omega)
  | succ f c_ih =>
    intro cI cS a b m n sv pl hM T C li ap va le aps hap haps y k hy hk4 hkf z c hz hs64
    refine ct_intro (by decide) (Nat.le_of_ble_eq_true rfl) (fun E Q hE hQ hI => ?_)
    have hE : CxOk E cI cS RX4 cX4_tryParted 6 none (4 + (f + 1)) 0 0 := hE
    show Go E Q 6 0 0 0 [(0, .ref (a 0)), (1, .ref (b 0)), (2, .int y), (3, .int z)] [] (millW cI a m ++ (searchW cI b (seS T C li ap va le)))
    have hn := hM.1
    have hn6 := hM.2.1
    have hsv := hM.2.2.1
    have hsv8 := hM.2.2.2.1
    have hpl := hM.2.2.2.2.1
    have hpl6 := hM.2.2.2.2.2
    have L29 : ∀ (C2 : Nat → Int32) (va2 : Int32) (le2 : Int32), ((C2, va2, le2) = tpC T C va le aps k c) → Go E Q 6 0 0 29 [(0, .ref (a 0)), (1, .ref (b 0)), (2, .int y), (3, .int z)] [] (millW cI a m ++ (searchW cI b (seS T C2 li ap va2 le2))) := by
      intro C2 va2 le2 h29
      refine g_iload_n hE dX4_tryParted_29 2 rfl ?_
      refine g_aload_n hE dX4_tryParted_30 1 rfl ?_
      refine g_get hE fl_X4_273 dX4_tryParted_31 10 rfl rfl ?_
      refine g_icmp_ge hE 42 dX4_tryParted_34 (by decide) (fun c1 => ?_) (fun c1 => ?_)
      · have hk : (tpR m n sv li aps (f + 1) k c (T, C, va, le)) = (T, C2, va2, le2) := by rw [tpR, if_neg (show ¬ (nI k < li ∧ k < 4) by rw [← hy]; exact (fun q => (show ¬ y < li from (Int32.not_lt.mpr c1)) q.1)), ← h29]
        refine g_world (millW cI a m ++ (searchW cI b (seS (tpR m n sv li aps (f + 1) k c (T, C, va, le)).1 (tpR m n sv li aps (f + 1) k c (T, C, va, le)).2.1 li ap (tpR m n sv li aps (f + 1) k c (T, C, va, le)).2.2.1 (tpR m n sv li aps (f + 1) k c (T, C, va, le)).2.2.2))) (by rw [hk]) ?_
        exact g_vret hE hQ dX4_tryParted_42 () rfl rfl trivial
      · refine g_iload_n hE dX4_tryParted_37 2 rfl ?_
        refine g_iconst hE dX4_tryParted_38 4 (by decide) ?_
        refine g_icmp_lt hE 43 dX4_tryParted_39 (by decide) (fun c2 => ?_) (fun c2 => ?_)
        · have kc2 := nat_lt_t (show y = nI k from hy) (show 4 = nI 4 from rfl) (by omega) (by omega) c2
          refine g_iconst hE dX4_tryParted_43 0 (by decide) ?_
          refine g_istore hE dX4_tryParted_44 [(4, .int 0), (0, .ref (a 0)), (1, .ref (b 0)), (2, .int y), (3, .int z)] (by decide) rfl ?_
          have L46 : ∀ (n_46 : Nat) (s : Nat) (T3 : Nat → Int32) (C3 : Nat → Int32) (va3 : Int32) (le3 : Int32), (s ≤ sv) → ((T3, C3, va3, le3) = fo (tpG m n aps (tpR m n sv li aps f) k c) s (T, C2, va2, le2)) → (sv - s < n_46) → Go E Q 6 0 0 46 [(0, .ref (a 0)), (1, .ref (b 0)), (2, .int y), (3, .int z), (4, .int (nI s))] [] (millW cI a m ++ (searchW cI b (seS T3 C3 li ap va3 le3))) := by
            intro n_46
            induction n_46 with
            | zero => intro s T3 C3 va3 le3 hs hst hm_46; exact absurd hm_46 (Nat.not_lt_zero _)
            | succ n_46 ih_46 =>
              intro s T3 C3 va3 le3 hs hst hm_46
              refine g_iload hE dX4_tryParted_46 4 rfl ?_
              refine g_aload_n hE dX4_tryParted_48 0 rfl ?_
              refine g_get hE fl_X4_78 dX4_tryParted_49 0 rfl rfl ?_
              refine g_icmp_ge hE 112 dX4_tryParted_52 (by decide) (fun c3 => ?_) (fun c3 => ?_)
              · have kc3 := nat_le_t (show (m 9 1) = nI sv from hsv) (show (nI s) = nI s from rfl) (by omega) (by omega) c3
                have hk : (tpR m n sv li aps (f + 1) k c (T, C, va, le)) = (T3, C3, va3, le3) := by rw [tpR, if_pos (show nI k < li ∧ k < 4 by rw [← hy]; exact ⟨(show y < li from (Int32.not_le.mp c1)), by omega⟩), ← h29, hst, show sv = s by omega]
                refine g_world (millW cI a m ++ (searchW cI b (seS (tpR m n sv li aps (f + 1) k c (T, C, va, le)).1 (tpR m n sv li aps (f + 1) k c (T, C, va, le)).2.1 li ap (tpR m n sv li aps (f + 1) k c (T, C, va, le)).2.2.1 (tpR m n sv li aps (f + 1) k c (T, C, va, le)).2.2.2))) (by rw [hk]) ?_
                exact g_vret hE hQ dX4_tryParted_112 () rfl rfl trivial
              · have kc3 := nat_le_f (show (m 9 1) = nI sv from hsv) (show (nI s) = nI s from rfl) (by omega) (by omega) c3
                refine g_aload_n hE dX4_tryParted_55 0 rfl ?_
                refine g_iload hE dX4_tryParted_56 4 rfl ?_
                refine g_iload_n hE dX4_tryParted_58 3 rfl ?_
                refine g_callV hE (c_X0_falling cI cS a m (by first | assumption | exact mw_of (by assumption)) (nI s) z c (show z = nI c from hz) (by first | assumption | exact bs_lt64 _ (by assumption) | exact fallS_lt (by assumption) (by assumption) | exact nd_lt (by assumption) (by assumption) | exact nd_lt (by assumption) (fallS_lt (by assumption) (by assumption)) | exact nd_lt (by assumption) (bs_lt64 _ (by assumption)) | exact and_lt (by assumption) (by assumption) | exact hpS_lt (by assumption) | decide)) mk_X0_falling mv_X0_falling ml_X4_181 dX4_tryParted_59 (As := [.int (nI s), .int z]) (rest := []) rfl rfl 0 rfl (show vwCl[0]? = some (RX0, TX0, 13) from rfl) (by omega) (by decide) (Nat.le_of_ble_eq_true rfl) (by decide) (by decide) [0, 1, 2, 3, 4, 5, 6, 7, 8, 9] rfl (by decide) (fun u => Nat.le_of_ble_eq_true rfl) (ws' := fun u => millW cI a m ++ (searchW cI b (seS T3 C3 li ap va3 le3))) (fun u => rfl) (fun u hu => ?_)
                obtain ⟨r_4, rfl⟩ : ∃ z, z = u := ⟨_, rfl⟩
                have h5 : r_4 = (nI (fallS m n (nI s) c)) := hu
                subst h5
                show Go E Q 6 0 0 62 [(0, .ref (a 0)), (1, .ref (b 0)), (2, .int y), (3, .int z), (4, .int (nI s))] [.int (nI (fallS m n (nI s) c))] (millW cI a m ++ (searchW cI b (seS T3 C3 li ap va3 le3)))
                refine g_istore hE dX4_tryParted_62 [(5, .int (nI (fallS m n (nI s) c))), (0, .ref (a 0)), (1, .ref (b 0)), (2, .int y), (3, .int z), (4, .int (nI s))] (by decide) rfl ?_
                refine g_iload hE dX4_tryParted_64 0 rfl ?_
                refine g_iload_n hE dX4_tryParted_66 4 rfl ?_
                refine g_icmp_eq hE 106 dX4_tryParted_67 (by decide) (fun c6 => ?_) (fun c6 => ?_)
                · refine g_iinc hE dX4_tryParted_106 5 (nI (s + 1)) [(4, .int (nI (s + 1))), (5, .int (nI (fallS m n (nI s) c))), (0, .ref (a 0)), (1, .ref (b 0)), (2, .int y), (3, .int z)] rfl (nI_1 _) (by decide) rfl ?_
                  refine g_goto hE 46 dX4_tryParted_109 (by decide) ?_
                  refine g_locals [2, 3, 4, 5, 0] [(0, .ref (a 0)), (1, .ref (b 0)), (2, .int y), (3, .int z), (4, .int (nI (s + 1)))] rfl ?_
                  exact ih_46 (s + 1) T3 C3 va3 le3 (by first | assumption | omega) (by rw [fo, ← hst, tpG, if_pos (Or.inl (set_eq hz hs64 (fallS_lt hn6 hs64) (show (nI (fallS m n (nI s) c)) = z from c6)))]) (by omega)
                · refine g_aload_n hE dX4_tryParted_70 2 rfl ?_
                  refine g_iload_n hE dX4_tryParted_71 4 rfl ?_
                  refine g_iload hE dX4_tryParted_72 0 rfl ?_
                  refine g_iconst hE dX4_tryParted_74 (-1) (by decide) ?_
                  refine g_ixor hE dX4_tryParted_75 ?_
                  refine g_iand hE dX4_tryParted_76 ?_
                  refine g_callV hE (c_X1_mixes cI cS b T3 C3 li ap va3 le3 (z &&& ((nI (fallS m n (nI s) c)) ^^^ (-1))) (nd c (fallS m n (nI s) c)) aps (show (z &&& ((nI (fallS m n (nI s) c)) ^^^ (-1))) = nI (nd c (fallS m n (nI s) c)) from (nd_i (show z = nI c from hz) (show (nI (fallS m n (nI s) c)) = nI (fallS m n (nI s) c) from rfl) (by first | assumption | exact bs_lt64 _ (by assumption) | exact fallS_lt (by assumption) (by assumption) | exact nd_lt (by assumption) (by assumption) | exact nd_lt (by assumption) (fallS_lt (by assumption) (by assumption)) | exact nd_lt (by assumption) (bs_lt64 _ (by assumption)) | exact and_lt (by assumption) (by assumption) | exact hpS_lt (by assumption) | decide) (by first | assumption | exact bs_lt64 _ (by assumption) | exact fallS_lt (by assumption) (by assumption) | exact nd_lt (by assumption) (by assumption) | exact nd_lt (by assumption) (fallS_lt (by assumption) (by assumption)) | exact nd_lt (by assumption) (bs_lt64 _ (by assumption)) | exact and_lt (by assumption) (by assumption) | exact hpS_lt (by assumption) | decide))) (by first | assumption | exact bs_lt64 _ (by assumption) | exact fallS_lt (by assumption) (by assumption) | exact nd_lt (by assumption) (by assumption) | exact nd_lt (by assumption) (fallS_lt (by assumption) (by assumption)) | exact nd_lt (by assumption) (bs_lt64 _ (by assumption)) | exact and_lt (by assumption) (by assumption) | exact hpS_lt (by assumption) | decide) hap haps) mk_X1_mixes mv_X1_mixes ml_X4_279 dX4_tryParted_77 (As := [.int (z &&& ((nI (fallS m n (nI s) c)) ^^^ (-1)))]) (rest := []) rfl rfl 10 rfl (show vwCl[1]? = some (RX1, TX1, 6) from rfl) (by omega) (by decide) (Nat.le_of_ble_eq_true rfl) (by decide) (by decide) [10, 11, 12] rfl (by decide) (fun u => Nat.le_of_ble_eq_true rfl) (ws' := fun u => millW cI a m ++ (searchW cI b (seS T3 C3 li ap va3 le3))) (fun u => rfl) (fun u hu => ?_)
                  obtain ⟨r_7, rfl⟩ : ∃ z, z = u := ⟨_, rfl⟩
                  have h8 : r_7 = if 1 < bcS ((nd c (fallS m n (nI s) c)) &&& aps) then 1 else 0 := hu
                  by_cases c9 : 1 < bcS ((nd c (fallS m n (nI s) c)) &&& aps)
                  · rw [if_pos c9] at h8
                    subst h8
                    show Go E Q 6 0 0 80 [(5, .int (nI (fallS m n (nI s) c))), (0, .ref (a 0)), (1, .ref (b 0)), (2, .int y), (3, .int z), (4, .int (nI s))] [.int 1] (millW cI a m ++ (searchW cI b (seS T3 C3 li ap va3 le3)))
                    refine g_if_eq hE 86 dX4_tryParted_80 (by decide) (fun c10 => absurd c10 (by decide)) (fun c10 => ?_)
                    refine g_goto hE 106 dX4_tryParted_83 (by decide) ?_
                    refine g_iinc hE dX4_tryParted_106 5 (nI (s + 1)) [(4, .int (nI (s + 1))), (5, .int (nI (fallS m n (nI s) c))), (0, .ref (a 0)), (1, .ref (b 0)), (2, .int y), (3, .int z)] rfl (nI_1 _) (by decide) rfl ?_
                    refine g_goto hE 46 dX4_tryParted_109 (by decide) ?_
                    refine g_locals [2, 3, 4, 5, 0] [(0, .ref (a 0)), (1, .ref (b 0)), (2, .int y), (3, .int z), (4, .int (nI (s + 1)))] rfl ?_
                    exact ih_46 (s + 1) T3 C3 va3 le3 (by first | assumption | omega) (by rw [fo, ← hst, tpG, if_pos (Or.inr c9)]) (by omega)
                  · rw [if_neg c9] at h8
                    subst h8
                    show Go E Q 6 0 0 80 [(5, .int (nI (fallS m n (nI s) c))), (0, .ref (a 0)), (1, .ref (b 0)), (2, .int y), (3, .int z), (4, .int (nI s))] [.int 0] (millW cI a m ++ (searchW cI b (seS T3 C3 li ap va3 le3)))
                    refine g_if_eq hE 86 dX4_tryParted_80 (by decide) (fun c11 => ?_) (fun c11 => absurd (by decide) c11)
                    refine g_aload_n hE dX4_tryParted_86 2 rfl ?_
                    refine g_get hE fl_X4_276 dX4_tryParted_87 10 rfl rfl ?_
                    refine g_iload_n hE dX4_tryParted_90 3 rfl ?_
                    refine g_iload hE dX4_tryParted_91 5 rfl ?_
                    refine g_callS hE (c_X4_put cI cS (b 1) 4 T3 y (nI s) (by decide)) mk_X4_put st_X4_put ml_X4_236 dX4_tryParted_93 (As := [.ref (b 1), .int y, .int (nI s)]) (rest := []) rfl rfl (by omega) (by decide) (Nat.le_of_ble_eq_true rfl) (by decide) (by decide) [11] rfl (by decide) (fun u => Nat.le_of_ble_eq_true rfl) (ws' := fun u => millW cI a m ++ (searchW cI b (seS u C3 li ap va3 le3))) (fun u => rfl) (fun u hu => ?_)
                    obtain ⟨f_12, rfl⟩ : ∃ z, z = u := ⟨_, rfl⟩
                    have h13 : f_12 = putv T3 4 y (nI s) := hu
                    have h14 : f_12 = (upd T3 k (nI s)) := h13.trans (by rw [show y = nI k from hy]; exact putv_n (by omega) (by decide))
                    subst h14
                    show Go E Q 6 0 0 96 [(5, .int (nI (fallS m n (nI s) c))), (0, .ref (a 0)), (1, .ref (b 0)), (2, .int y), (3, .int z), (4, .int (nI s))] [] (millW cI a m ++ (searchW cI b (seS (upd T3 k (nI s)) C3 li ap va3 le3)))
                    refine g_aload_n hE dX4_tryParted_96 1 rfl ?_
                    refine g_aload_n hE dX4_tryParted_97 2 rfl ?_
                    refine g_iload_n hE dX4_tryParted_98 3 rfl ?_
                    refine g_iconst hE dX4_tryParted_99 1 (by decide) ?_
                    refine g_iadd_n hE dX4_tryParted_100 hy (show 1 = nI 1 from rfl) ?_
                    refine g_iload hE dX4_tryParted_101 0 rfl ?_
                    refine g_callS hE (c_ih cI cS a b m (by first | assumption | exact mw_of (by assumption)) (upd T3 k (nI s)) C3 li ap va3 le3 aps hap haps (nI (k + 1)) (k + 1) (show (nI (k + 1)) = nI (k + 1) from rfl) (by omega) (by omega) (nI (fallS m n (nI s) c)) (fallS m n (nI s) c) (show (nI (fallS m n (nI s) c)) = nI (fallS m n (nI s) c) from rfl) (by first | assumption | exact bs_lt64 _ (by assumption) | exact fallS_lt (by assumption) (by assumption) | exact nd_lt (by assumption) (by assumption) | exact nd_lt (by assumption) (fallS_lt (by assumption) (by assumption)) | exact nd_lt (by assumption) (bs_lt64 _ (by assumption)) | exact and_lt (by assumption) (by assumption) | exact hpS_lt (by assumption) | decide)) mk_X4_tryParted st_X4_tryParted ml_X4_208 dX4_tryParted_103 (As := [.ref (a 0), .ref (b 0), .int (nI (k + 1)), .int (nI (fallS m n (nI s) c))]) (rest := []) rfl rfl (by omega) (by decide) (Nat.le_of_ble_eq_true rfl) (by decide) (by decide) [0, 1, 2, 3, 4, 5, 6, 7, 8, 9, 10, 11, 12] rfl (by decide) (fun u => Nat.le_of_ble_eq_true rfl) (ws' := fun u => millW cI a m ++ (searchW cI b (seS (tpR m n sv li aps f (k + 1) (fallS m n (nI s) c) ((upd T3 k (nI s)), C3, va3, le3)).1 (tpR m n sv li aps f (k + 1) (fallS m n (nI s) c) ((upd T3 k (nI s)), C3, va3, le3)).2.1 li ap (tpR m n sv li aps f (k + 1) (fallS m n (nI s) c) ((upd T3 k (nI s)), C3, va3, le3)).2.2.1 (tpR m n sv li aps f (k + 1) (fallS m n (nI s) c) ((upd T3 k (nI s)), C3, va3, le3)).2.2.2))) (fun u => rfl) (fun u hu => ?_)
                    show Go E Q 6 0 0 106 [(5, .int (nI (fallS m n (nI s) c))), (0, .ref (a 0)), (1, .ref (b 0)), (2, .int y), (3, .int z), (4, .int (nI s))] [] (millW cI a m ++ (searchW cI b (seS (tpR m n sv li aps f (k + 1) (fallS m n (nI s) c) ((upd T3 k (nI s)), C3, va3, le3)).1 (tpR m n sv li aps f (k + 1) (fallS m n (nI s) c) ((upd T3 k (nI s)), C3, va3, le3)).2.1 li ap (tpR m n sv li aps f (k + 1) (fallS m n (nI s) c) ((upd T3 k (nI s)), C3, va3, le3)).2.2.1 (tpR m n sv li aps f (k + 1) (fallS m n (nI s) c) ((upd T3 k (nI s)), C3, va3, le3)).2.2.2)))
                    refine g_iinc hE dX4_tryParted_106 5 (nI (s + 1)) [(4, .int (nI (s + 1))), (5, .int (nI (fallS m n (nI s) c))), (0, .ref (a 0)), (1, .ref (b 0)), (2, .int y), (3, .int z)] rfl (nI_1 _) (by decide) rfl ?_
                    refine g_goto hE 46 dX4_tryParted_109 (by decide) ?_
                    refine g_locals [2, 3, 4, 5, 0] [(0, .ref (a 0)), (1, .ref (b 0)), (2, .int y), (3, .int z), (4, .int (nI (s + 1)))] rfl ?_
                    exact ih_46 (s + 1) ((tpR m n sv li aps f (k + 1) (fallS m n (nI s) c) ((upd T3 k (nI s)), C3, va3, le3)).1) ((tpR m n sv li aps f (k + 1) (fallS m n (nI s) c) ((upd T3 k (nI s)), C3, va3, le3)).2.1) ((tpR m n sv li aps f (k + 1) (fallS m n (nI s) c) ((upd T3 k (nI s)), C3, va3, le3)).2.2.1) ((tpR m n sv li aps f (k + 1) (fallS m n (nI s) c) ((upd T3 k (nI s)), C3, va3, le3)).2.2.2) (by first | assumption | omega) (by rw [fo, ← hst, tpG, if_neg (fun q => q.elim (fun q => (show ¬ (nI (fallS m n (nI s) c)) = z from c6) (by rw [q, hz])) c9)]) (by omega)
          refine g_locals [1, 2, 3, 4, 0] [(0, .ref (a 0)), (1, .ref (b 0)), (2, .int y), (3, .int z), (4, .int 0)] rfl ?_
          exact L46 _ 0 T C2 va2 le2 (Nat.zero_le _) rfl (Nat.lt_succ_self _)
        · have kc2 := nat_lt_f (show y = nI k from hy) (show 4 = nI 4 from rfl) (by omega) (by omega) c2
          have hk : (tpR m n sv li aps (f + 1) k c (T, C, va, le)) = (T, C2, va2, le2) := by rw [tpR, if_neg (show ¬ (nI k < li ∧ k < 4) by rw [← hy]; exact (fun q => absurd q.2 (by omega))), ← h29]
          refine g_world (millW cI a m ++ (searchW cI b (seS (tpR m n sv li aps (f + 1) k c (T, C, va, le)).1 (tpR m n sv li aps (f + 1) k c (T, C, va, le)).2.1 li ap (tpR m n sv li aps (f + 1) k c (T, C, va, le)).2.2.1 (tpR m n sv li aps (f + 1) k c (T, C, va, le)).2.2.2))) (by rw [hk]) ?_
          exact g_vret hE hQ dX4_tryParted_42 () rfl rfl trivial
    refine g_aload_n hE dX4_tryParted_0 1 rfl ?_
    refine g_iload_n hE dX4_tryParted_1 3 rfl ?_
    refine g_callV hE (c_X1_mixes cI cS b T C li ap va le z c aps (show z = nI c from hz) (by first | assumption | exact bs_lt64 _ (by assumption) | exact fallS_lt (by assumption) (by assumption) | exact nd_lt (by assumption) (by assumption) | exact nd_lt (by assumption) (fallS_lt (by assumption) (by assumption)) | exact nd_lt (by assumption) (bs_lt64 _ (by assumption)) | exact and_lt (by assumption) (by assumption) | exact hpS_lt (by assumption) | decide) hap haps) mk_X1_mixes mv_X1_mixes ml_X4_279 dX4_tryParted_2 (As := [.int z]) (rest := []) rfl rfl 10 rfl (show vwCl[1]? = some (RX1, TX1, 6) from rfl) (by omega) (by decide) (Nat.le_of_ble_eq_true rfl) (by decide) (by decide) [10, 11, 12] rfl (by decide) (fun u => Nat.le_of_ble_eq_true rfl) (ws' := fun u => millW cI a m ++ (searchW cI b (seS T C li ap va le))) (fun u => rfl) (fun u hu => ?_)
    obtain ⟨r_16, rfl⟩ : ∃ z, z = u := ⟨_, rfl⟩
    have h17 : r_16 = if 1 < bcS (c &&& aps) then 1 else 0 := hu
    by_cases c18 : 1 < bcS (c &&& aps)
    · rw [if_pos c18] at h17
      subst h17
      show Go E Q 6 0 0 5 [(0, .ref (a 0)), (1, .ref (b 0)), (2, .int y), (3, .int z)] [.int 1] (millW cI a m ++ (searchW cI b (seS T C li ap va le)))
      refine g_if_ne hE 29 dX4_tryParted_5 (by decide) (fun c19 => ?_) (fun c19 => absurd c19 (by decide))
      exact L29 C va le (by rw [tpC, if_neg (fun q => q.1 c18)])
    · rw [if_neg c18] at h17
      subst h17
      show Go E Q 6 0 0 5 [(0, .ref (a 0)), (1, .ref (b 0)), (2, .int y), (3, .int z)] [.int 0] (millW cI a m ++ (searchW cI b (seS T C li ap va le)))
      refine g_if_ne hE 29 dX4_tryParted_5 (by decide) (fun c20 => absurd (by decide) c20) (fun c20 => ?_)
      refine g_aload_n hE dX4_tryParted_8 1 rfl ?_
      refine g_get hE fl_X4_200 dX4_tryParted_9 10 rfl rfl ?_
      refine g_if_lt hE 23 dX4_tryParted_12 (by decide) (fun c21 => ?_) (fun c21 => ?_)
      · refine g_aload_n hE dX4_tryParted_23 1 rfl ?_
        refine g_iload_n hE dX4_tryParted_24 2 rfl ?_
        refine g_iconst hE dX4_tryParted_25 0 (by decide) ?_
        refine g_callV hE (c_X1_choose cI cS b T C li ap va le y 0) mk_X1_choose mv_X1_choose ml_X4_270 dX4_tryParted_26 (As := [.int y, .int 0]) (rest := []) rfl rfl 10 rfl (show vwCl[1]? = some (RX1, TX1, 6) from rfl) (by omega) (by decide) (Nat.le_of_ble_eq_true rfl) (by decide) (by decide) [10, 11, 12] rfl (by decide) (fun u => Nat.le_of_ble_eq_true rfl) (ws' := fun u => millW cI a m ++ (searchW cI b (seS T T li ap 0 y))) (fun u => rfl) (fun u hu => ?_)
        show Go E Q 6 0 0 29 [(0, .ref (a 0)), (1, .ref (b 0)), (2, .int y), (3, .int z)] [] (millW cI a m ++ (searchW cI b (seS T T li ap 0 y)))
        exact L29 T 0 y (by rw [tpC, if_pos ⟨c18, Or.inl (show le < 0 from c21)⟩]; rw [hy])
      · refine g_iload_n hE dX4_tryParted_15 2 rfl ?_
        refine g_aload_n hE dX4_tryParted_16 1 rfl ?_
        refine g_get hE fl_X4_200 dX4_tryParted_17 10 rfl rfl ?_
        refine g_icmp_ge hE 29 dX4_tryParted_20 (by decide) (fun c23 => ?_) (fun c23 => ?_)
        · exact L29 C va le (by rw [tpC, if_neg (fun q => q.2.elim (show ¬ le < 0 from c21) (fun q => (show ¬ y < le from (Int32.not_lt.mpr c23)) (by rw [hy]; exact q)))])
        · refine g_aload_n hE dX4_tryParted_23 1 rfl ?_
          refine g_iload_n hE dX4_tryParted_24 2 rfl ?_
          refine g_iconst hE dX4_tryParted_25 0 (by decide) ?_
          refine g_callV hE (c_X1_choose cI cS b T C li ap va le y 0) mk_X1_choose mv_X1_choose ml_X4_270 dX4_tryParted_26 (As := [.int y, .int 0]) (rest := []) rfl rfl 10 rfl (show vwCl[1]? = some (RX1, TX1, 6) from rfl) (by omega) (by decide) (Nat.le_of_ble_eq_true rfl) (by decide) (by decide) [10, 11, 12] rfl (by decide) (fun u => Nat.le_of_ble_eq_true rfl) (ws' := fun u => millW cI a m ++ (searchW cI b (seS T T li ap 0 y))) (fun u => rfl) (fun u hu => ?_)
          show Go E Q 6 0 0 29 [(0, .ref (a 0)), (1, .ref (b 0)), (2, .int y), (3, .int z)] [] (millW cI a m ++ (searchW cI b (seS T T li ap 0 y)))
          exact L29 T 0 y (by rw [tpC, if_pos ⟨c18, Or.inr (by rw [← hy]; exact (show y < le from (Int32.not_le.mp c23)))⟩]; rw [hy])
set_option maxHeartbeats 4000000 in
set_option maxRecDepth 100000 in
theorem c_X4_seekBest (cI cS : ClassId) (a : Nat → Nat) (m v w : Nat → Nat → Int32) (T C : Nat → Int32) (li ap va le : Int32) (B : Nat → Int32) (L P : Nat) (F : Int32) (sh : Nat → Nat → Nat → Int32) (kf : Int32) {n sv pl n1 sv1 pl1 n2 sv2 pl2 : Nat} (hM : MW m n sv pl) (hV : MW v n1 sv1 pl1) (hW : MW w n2 sv2 pl2) (hL : L ≤ 120) (x : Int32) : CT cI cS yX4_seekBest cX4_seekBest 2 none 10 [.ref (a 0), .int x] (loftW cI cS a m v w (seS T C li ap va le) (tpS B L P F) sh kf) 0 0 (fun u : Unit => True) (fun u => none) (fun u => (loftW cI cS a m v w (seS (tbS m n sv x 5 0 (ldS m n) 0 (T, C, 0, -1)).1 (tbS m n sv x 5 0 (ldS m n) 0 (T, C, 0, -1)).2.1 x 0 (tbS m n sv x 5 0 (ldS m n) 0 (T, C, 0, -1)).2.2.1 (tbS m n sv x 5 0 (ldS m n) 0 (T, C, 0, -1)).2.2.2) (tpS B L P F) sh kf)) := by
  refine ct_intro (by decide) (Nat.le_of_ble_eq_true rfl) (fun E Q hE hQ hI => ?_)
  have hE : CxOk E cI cS RX4 cX4_seekBest 2 none 10 0 0 := hE
  show Go E Q 2 0 0 0 [(0, .ref (a 0)), (1, .int x)] [] (loftW cI cS a m v w (seS T C li ap va le) (tpS B L P F) sh kf)
  have hn := hM.1
  have hn6 := hM.2.1
  have hsv := hM.2.2.1
  have hsv8 := hM.2.2.2.1
  have hpl := hM.2.2.2.2.1
  have hpl6 := hM.2.2.2.2.2
  have hn1 := hV.1
  have hn16 := hV.2.1
  have hsv1 := hV.2.2.1
  have hsv18 := hV.2.2.2.1
  have hpl1 := hV.2.2.2.2.1
  have hpl16 := hV.2.2.2.2.2
  refine g_aload_n hE dX4_seekBest_0 0 rfl ?_
  refine g_get hE fl_X4_29 dX4_seekBest_1 0 rfl rfl ?_
  refine g_iload_n hE dX4_seekBest_4 1 rfl ?_
  refine g_iconst hE dX4_seekBest_5 0 (by decide) ?_
  refine g_callV hE (c_X1_begin cI cS (fun i => a (i + 31)) T C li ap va le x 0) mk_X1_begin mv_X1_begin ml_X4_204 dX4_seekBest_6 (As := [.int x, .int 0]) (rest := []) rfl rfl 31 rfl (show vwCl[1]? = some (RX1, TX1, 6) from rfl) (by decide) (by decide) (Nat.le_of_ble_eq_true rfl) (by decide) (by decide) [31, 32, 33] rfl (by decide) (fun u => Nat.le_of_ble_eq_true rfl) (ws' := fun u => loftW cI cS a m v w (seS T C x 0 0 (-1)) (tpS B L P F) sh kf) (fun u => rfl) (fun u hu => ?_)
  show Go E Q 2 0 0 9 [(0, .ref (a 0)), (1, .int x)] [] (loftW cI cS a m v w (seS T C x 0 0 (-1)) (tpS B L P F) sh kf)
  refine g_aload_n hE dX4_seekBest_9 0 rfl ?_
  refine g_get hE fl_X4_10 dX4_seekBest_10 0 rfl rfl ?_
  refine g_aload_n hE dX4_seekBest_13 0 rfl ?_
  refine g_get hE fl_X4_29 dX4_seekBest_14 0 rfl rfl ?_
  refine g_iconst hE dX4_seekBest_17 0 (by decide) ?_
  refine g_aload_n hE dX4_seekBest_18 0 rfl ?_
  refine g_get hE fl_X4_10 dX4_seekBest_19 0 rfl rfl ?_
  refine g_callV hE (c_X0_load cI cS (fun i => a (i + 1)) m (by first | assumption | exact mw_of (by assumption))) mk_X0_load mv_X0_load ml_X4_148 dX4_seekBest_22 (As := []) (rest := [.int 0, .ref (a 31), .ref (a 1)]) rfl rfl 1 rfl (show vwCl[0]? = some (RX0, TX0, 13) from rfl) (by decide) (by decide) (Nat.le_of_ble_eq_true rfl) (by decide) (by decide) [1, 2, 3, 4, 5, 6, 7, 8, 9, 10] rfl (by decide) (fun u => Nat.le_of_ble_eq_true rfl) (ws' := fun u => loftW cI cS a m v w (seS T C x 0 0 (-1)) (tpS B L P F) sh kf) (fun u => rfl) (fun u hu => ?_)
  obtain ⟨r_2, rfl⟩ : ∃ z, z = u := ⟨_, rfl⟩
  have h3 : r_2 = (nI (ldS m n)) := hu
  subst h3
  show Go E Q 2 0 0 25 [(0, .ref (a 0)), (1, .int x)] [.int (nI (ldS m n)), .int 0, .ref (a 31), .ref (a 1)] (loftW cI cS a m v w (seS T C x 0 0 (-1)) (tpS B L P F) sh kf)
  refine g_iconst hE dX4_seekBest_25 0 (by decide) ?_
  refine g_callS hE (c_X4_tryBest 5 cI cS (fun i => a (i + 1)) (fun i => a (i + 31)) m (by first | assumption | exact mw_of (by assumption)) T C x 0 0 (-1) 0 0 (show 0 = nI 0 from rfl) (by omega) (by omega) (nI (ldS m n)) (ldS m n) (show (nI (ldS m n)) = nI (ldS m n) from rfl) (by first | assumption | exact bs_lt64 _ (by assumption) | exact fallS_lt (by assumption) (by assumption) | exact nd_lt (by assumption) (by assumption) | exact nd_lt (by assumption) (fallS_lt (by assumption) (by assumption)) | exact nd_lt (by assumption) (bs_lt64 _ (by assumption)) | exact and_lt (by assumption) (by assumption) | exact hpS_lt (by assumption) | decide) 0) mk_X4_tryBest st_X4_tryBest ml_X4_266 dX4_seekBest_26 (As := [.ref (a 1), .ref (a 31), .int 0, .int (nI (ldS m n)), .int 0]) (rest := []) rfl rfl (by decide) (by decide) (Nat.le_of_ble_eq_true rfl) (by decide) (by decide) [1, 2, 3, 4, 5, 6, 7, 8, 9, 10, 31, 32, 33] rfl (by decide) (fun u => Nat.le_of_ble_eq_true rfl) (ws' := fun u => loftW cI cS a m v w (seS (tbS m n sv x 5 0 (ldS m n) 0 (T, C, 0, (-1))).1 (tbS m n sv x 5 0 (ldS m n) 0 (T, C, 0, (-1))).2.1 x 0 (tbS m n sv x 5 0 (ldS m n) 0 (T, C, 0, (-1))).2.2.1 (tbS m n sv x 5 0 (ldS m n) 0 (T, C, 0, (-1))).2.2.2) (tpS B L P F) sh kf) (fun u => rfl) (fun u hu => ?_)
  show Go E Q 2 0 0 29 [(0, .ref (a 0)), (1, .int x)] [] (loftW cI cS a m v w (seS (tbS m n sv x 5 0 (ldS m n) 0 (T, C, 0, (-1))).1 (tbS m n sv x 5 0 (ldS m n) 0 (T, C, 0, (-1))).2.1 x 0 (tbS m n sv x 5 0 (ldS m n) 0 (T, C, 0, (-1))).2.2.1 (tbS m n sv x 5 0 (ldS m n) 0 (T, C, 0, (-1))).2.2.2) (tpS B L P F) sh kf)
  exact g_vret hE hQ dX4_seekBest_29 () rfl rfl trivial
