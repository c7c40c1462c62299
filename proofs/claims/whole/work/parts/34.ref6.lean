/-! the reference: grains, sieves, counts, fits, shares -/
theorem upd_self (f : Nat → Int32) (i : Nat) : upd f i (f i) = f := by
  funext j
  show (if j = i then f i else f j) = f j
  by_cases e : j = i
  · rw [if_pos e, e]
  · rw [if_neg e]
theorem upd_at (f : Nat → Int32) (i : Nat) (v : Int32) : upd f i v i = v := if_pos rfl
theorem upd_o {f : Nat → Int32} {i j : Nat} {v : Int32} (h : ¬ j = i) : upd f i v j = f j := if_neg h
theorem RQ_addG {q m st : MS} {n sv pl : Nat} {x y z : Int32} (h : RQ q m n sv pl) (hn : n < 6) (hx : 1 ≤ x ∧ x ≤ 60) (hy : 0 ≤ y ∧ y ≤ 9999) (hz : 0 ≤ z ∧ z ≤ 99) (e0 : st 0 = upd (q 0) n x) (e1 : st 1 = upd (q 1) n y) (e2 : st 2 = upd (q 2) n z) (e3 : st 3 = q 3) (e4 : st 4 = q 4) (c0 : st 18 0 = nI (n + 1)) (c1 : st 18 1 = q 18 1) (c2 : st 18 2 = q 18 2) (c3 : st 18 3 = q 18 3) : RQ st (addG m n x y z) (n + 1) sv pl := by
  obtain ⟨hM, hT, hG⟩ := h
  refine ⟨⟨rfl, by omega, hM.2.2⟩, ⟨fun g hg => ?_, ?_, ?_, c0, c1.trans hT.2.2.2.2.1, c2.trans hT.2.2.2.2.2.1, c3.trans hT.2.2.2.2.2.2⟩, ⟨fun g hg => ?_, hG.2⟩⟩
  · rw [e0, e1, e2]
    show upd (q 0) n x g = upd (m 0) n x g ∧ upd (q 1) n y g = upd (m 1) n y g ∧ upd (q 2) n z g = upd (m 2) n z g
    by_cases e : g = n
    · subst e; rw [upd_at, upd_at, upd_at, upd_at, upd_at, upd_at]; exact ⟨rfl, rfl, rfl⟩
    · rw [upd_o e, upd_o e, upd_o e, upd_o e, upd_o e, upd_o e]; exact hT.1 g (by omega)
  · rw [e3]; exact hT.2.1
  · rw [e4]; exact hT.2.2.1
  · show 1 ≤ upd (m 0) n x g ∧ upd (m 0) n x g ≤ 60 ∧ 0 ≤ upd (m 1) n y g ∧ upd (m 1) n y g ≤ 9999 ∧ 0 ≤ upd (m 2) n z g ∧ upd (m 2) n z g ≤ 99
    by_cases e : g = n
    · subst e; rw [upd_at, upd_at, upd_at]; exact ⟨hx.1, hx.2, hy.1, hy.2, hz.1, hz.2⟩
    · rw [upd_o e, upd_o e, upd_o e]; exact hG.1 g (by omega)
theorem RQ_addV {q m st : MS} {n sv pl : Nat} {x y z t : Int32} (h : RQ q m n sv pl) (hn : sv < 8) (hx : 0 ≤ x ∧ x ≤ 3) (hy : 1 ≤ y ∧ y ≤ 60) (hz : 1 ≤ z ∧ z ≤ 99999) (ht : 0 ≤ t ∧ t ≤ 3) (e0 : st 0 = q 0) (e1 : st 1 = q 1) (e2 : st 2 = q 2) (e3 : st 3 = upd (upd (upd (upd (q 3) (4 * sv) x) (4 * sv + 1) y) (4 * sv + 2) z) (4 * sv + 3) t) (e4 : st 4 = q 4) (c0 : st 18 0 = q 18 0) (c1 : st 18 1 = nI (sv + 1)) (c2 : st 18 2 = q 18 2) (c3 : st 18 3 = q 18 3) : RQ st (addV m sv x y z t) n (sv + 1) pl := by
  obtain ⟨hM, hT, hG⟩ := h
  refine ⟨⟨hM.1, hM.2.1, rfl, by omega, hM.2.2.2.2⟩, ⟨?_, fun s hs => ?_, fun k hk => ?_, c0.trans hT.2.2.2.1, c1, c2.trans hT.2.2.2.2.2.1, c3.trans hT.2.2.2.2.2.2⟩, ⟨hG.1, fun s hs => ?_, hG.2.2⟩⟩
  · rw [e0, e1, e2]; exact hT.1
  · rw [e3]
    show _ = upd (m 3) sv x s ∧ _ = upd (m 4) sv y s ∧ _ = upd (m 5) sv z s ∧ _ = upd (m 6) sv t s
    by_cases e : s = sv
    · subst e
      rw [upd_at, upd_at, upd_at, upd_at, upd_at, upd_o (by omega), upd_o (by omega), upd_o (by omega), upd_at, upd_o (by omega), upd_o (by omega), upd_at, upd_o (by omega), upd_at]
      exact ⟨rfl, rfl, rfl, rfl⟩
    · rw [upd_o (i := sv) e, upd_o (i := sv) e, upd_o (i := sv) e, upd_o (i := sv) e]
      have k := hT.2.1 s (by omega)
      refine ⟨?_, ?_, ?_, ?_⟩
      · rw [upd_o (by omega), upd_o (by omega), upd_o (by omega), upd_o (by omega)]; exact k.1
      · rw [upd_o (by omega), upd_o (by omega), upd_o (by omega), upd_o (by omega)]; exact k.2.1
      · rw [upd_o (by omega), upd_o (by omega), upd_o (by omega), upd_o (by omega)]; exact k.2.2.1
      · rw [upd_o (by omega), upd_o (by omega), upd_o (by omega), upd_o (by omega)]; exact k.2.2.2
  · rw [e4]
    obtain ⟨h1, s, h2, h3⟩ := hT.2.2.1 k hk
    exact ⟨h1, s, by omega, h3⟩
  · show 0 ≤ upd (m 3) sv x s ∧ upd (m 3) sv x s ≤ 3 ∧ 1 ≤ upd (m 4) sv y s ∧ upd (m 4) sv y s ≤ 60 ∧ 1 ≤ upd (m 5) sv z s ∧ upd (m 5) sv z s ≤ 99999 ∧ 0 ≤ upd (m 6) sv t s ∧ upd (m 6) sv t s ≤ 3
    by_cases e : s = sv
    · subst e; rw [upd_at, upd_at, upd_at, upd_at]; exact ⟨hx.1, hx.2, hy.1, hy.2, hz.1, hz.2, ht.1, ht.2⟩
    · rw [upd_o e, upd_o e, upd_o e, upd_o e]; exact hG.2.1 s (by omega)
theorem RQ_set0 {q m st : MS} {n sv pl g : Nat} {z : Int32} (h : RQ q m n sv pl) (hg : g < n) (hz : 1 ≤ z ∧ z ≤ 60) (e0 : st 0 = upd (q 0) g z) (e1 : st 1 = q 1) (e2 : st 2 = q 2) (e3 : st 3 = q 3) (e4 : st 4 = q 4) (ec : st 18 = q 18) : RQ st (pA m 0 (upd (m 0) g z)) n sv pl := by
  obtain ⟨hM, hT, hG⟩ := h
  refine ⟨hM, ⟨fun j hj => ?_, ?_, ?_, ?_⟩, ⟨fun j hj => ?_, hG.2⟩⟩
  · rw [e0, e1, e2]
    show upd (q 0) g z j = upd (m 0) g z j ∧ _
    by_cases e : j = g
    · subst e; rw [upd_at, upd_at]; exact ⟨rfl, (hT.1 j hj).2⟩
    · rw [upd_o e, upd_o e]; exact hT.1 j hj
  · rw [e3]; exact hT.2.1
  · rw [e4]; exact hT.2.2.1
  · rw [ec]; exact hT.2.2.2
  · show 1 ≤ upd (m 0) g z j ∧ upd (m 0) g z j ≤ 60 ∧ _
    by_cases e : j = g
    · subst e; rw [upd_at]; exact ⟨hz.1, hz.2, (hG.1 j hj).2.2⟩
    · rw [upd_o e]; exact hG.1 j hj
theorem RQ_set1 {q m st : MS} {n sv pl g : Nat} {z : Int32} (h : RQ q m n sv pl) (hg : g < n) (hz : 0 ≤ z ∧ z ≤ 9999) (e0 : st 0 = q 0) (e1 : st 1 = upd (q 1) g z) (e2 : st 2 = q 2) (e3 : st 3 = q 3) (e4 : st 4 = q 4) (ec : st 18 = q 18) : RQ st (pA m 1 (upd (m 1) g z)) n sv pl := by
  obtain ⟨hM, hT, hG⟩ := h
  refine ⟨hM, ⟨fun j hj => ?_, ?_, ?_, ?_⟩, ⟨fun j hj => ?_, hG.2⟩⟩
  · rw [e0, e1, e2]
    show _ ∧ upd (q 1) g z j = upd (m 1) g z j ∧ _
    by_cases e : j = g
    · subst e; rw [upd_at, upd_at]; exact ⟨(hT.1 j hj).1, rfl, (hT.1 j hj).2.2⟩
    · rw [upd_o e, upd_o e]; exact hT.1 j hj
  · rw [e3]; exact hT.2.1
  · rw [e4]; exact hT.2.2.1
  · rw [ec]; exact hT.2.2.2
  · show _ ∧ _ ∧ 0 ≤ upd (m 1) g z j ∧ upd (m 1) g z j ≤ 9999 ∧ _
    by_cases e : j = g
    · subst e; rw [upd_at]; exact ⟨(hG.1 j hj).1, (hG.1 j hj).2.1, hz.1, hz.2, (hG.1 j hj).2.2.2.2⟩
    · rw [upd_o e]; exact hG.1 j hj
theorem RQ_set2 {q m st : MS} {n sv pl g : Nat} {z : Int32} (h : RQ q m n sv pl) (hg : g < n) (hz : 0 ≤ z ∧ z ≤ 99) (e0 : st 0 = q 0) (e1 : st 1 = q 1) (e2 : st 2 = upd (q 2) g z) (e3 : st 3 = q 3) (e4 : st 4 = q 4) (ec : st 18 = q 18) : RQ st (pA m 2 (upd (m 2) g z)) n sv pl := by
  obtain ⟨hM, hT, hG⟩ := h
  refine ⟨hM, ⟨fun j hj => ?_, ?_, ?_, ?_⟩, ⟨fun j hj => ?_, hG.2⟩⟩
  · rw [e0, e1, e2]
    show _ ∧ _ ∧ upd (q 2) g z j = upd (m 2) g z j
    by_cases e : j = g
    · subst e; rw [upd_at, upd_at]; exact ⟨(hT.1 j hj).1, (hT.1 j hj).2.1, rfl⟩
    · rw [upd_o e, upd_o e]; exact hT.1 j hj
  · rw [e3]; exact hT.2.1
  · rw [e4]; exact hT.2.2.1
  · rw [ec]; exact hT.2.2.2
  · show _ ∧ _ ∧ _ ∧ _ ∧ 0 ≤ upd (m 2) g z j ∧ upd (m 2) g z j ≤ 99
    by_cases e : j = g
    · subst e; rw [upd_at]; exact ⟨(hG.1 j hj).1, (hG.1 j hj).2.1, (hG.1 j hj).2.2.1, (hG.1 j hj).2.2.2.1, hz.1, hz.2⟩
    · rw [upd_o e]; exact hG.1 j hj
theorem RQ_mend {q m st : MS} {n sv pl s : Nat} {z : Int32} (h : RQ q m n sv pl) (hs : s < sv) (hz : 1 ≤ z ∧ z ≤ 60) (e0 : st 0 = q 0) (e1 : st 1 = q 1) (e2 : st 2 = q 2) (e3 : st 3 = upd (q 3) (4 * s + 1) z) (e4 : st 4 = q 4) (ec : st 18 = q 18) : RQ st (pA m 4 (upd (m 4) s z)) n sv pl := by
  obtain ⟨hM, hT, hG⟩ := h
  refine ⟨hM, ⟨?_, fun j hj => ?_, ?_, ?_⟩, ⟨hG.1, fun j hj => ?_, hG.2.2⟩⟩
  · rw [e0, e1, e2]; exact hT.1
  · rw [e3, upd_o (j := 4 * j) (by omega), upd_o (j := 4 * j + 2) (by omega), upd_o (j := 4 * j + 3) (by omega)]
    show _ ∧ _ = upd (m 4) s z j ∧ _
    by_cases e : j = s
    · subst e; rw [upd_at, upd_at]; exact ⟨(hT.2.1 j hj).1, rfl, (hT.2.1 j hj).2.2⟩
    · rw [upd_o e, upd_o (by omega)]; exact hT.2.1 j hj
  · rw [e4]; exact hT.2.2.1
  · rw [ec]; exact hT.2.2.2
  · show _ ∧ _ ∧ 1 ≤ upd (m 4) s z j ∧ upd (m 4) s z j ≤ 60 ∧ _
    by_cases e : j = s
    · subst e; rw [upd_at]; exact ⟨(hG.2.1 j hj).1, (hG.2.1 j hj).2.1, hz.1, hz.2, (hG.2.1 j hj).2.2.2.2⟩
    · rw [upd_o e]; exact hG.2.1 j hj
theorem set_2 {y : Int32} (h : 0 ≤ y ∧ y ≤ 2) (h0 : ¬ y = 0) (h1 : ¬ y = 1) : y = 2 := by
  obtain ⟨j, j0, j1, j2⟩ := rng_n (a := 0) (b := 2) h.1 h.2 rfl rfl (by decide) (by decide)
  subst j2
  have : j = 0 ∨ j = 1 ∨ j = 2 := by omega
  rcases this with e | e | e
  · subst e; exact absurd rfl h0
  · subst e; exact absurd rfl h1
  · subst e; rfl
theorem told_l {q m : MS} {n sv pl s j : Nat} {x y : Int32} (hT : TQ q m n sv pl) (hs : s < sv) (h8 : sv ≤ 8) (hx : x = nI s) (hj : j ≤ 3) (hy : y = nI j) : q 3 (4 * s + j) = (if y = 0 then atv (m 3) 8 x else if y = 1 then atv (m 4) 8 x else if y = 2 then atv (m 5) 8 x else if y = 3 then atv (m 6) 8 x else -1) := by
  subst hx; subst hy
  have k := hT.2.1 s hs
  have : j = 0 ∨ j = 1 ∨ j = 2 ∨ j = 3 := by omega
  rcases this with e | e | e | e
  · subst e; rw [if_pos (by decide), atv_n (by omega) (by decide)]; exact k.1
  · subst e; rw [if_neg (by decide), if_pos (by decide), atv_n (by omega) (by decide)]; exact k.2.1
  · subst e; rw [if_neg (by decide), if_neg (by decide), if_pos (by decide), atv_n (by omega) (by decide)]; exact k.2.2.1
  · subst e; rw [if_neg (by decide), if_neg (by decide), if_neg (by decide), if_pos (by decide), atv_n (by omega) (by decide)]; exact k.2.2.2
theorem cnt_l {m : MS} {n : Nat} (h : ∀ g, g < n → 0 ≤ m 1 g) {g : Nat} {y v : Int32} (hg : g < n) (hv : v = m 1 g) (hy : y = aS (m 1) (ldS m n) g) : y + v = aS (m 1) (ldS m n) (g + 1) := by
  rw [aS, ld_bit hg, hv, hy]
  by_cases e : 0 < m 1 g
  · rw [decide_eq_true e, if_pos rfl]
  · rw [decide_eq_false e]
    have : m 1 g = 0 := Int32.le_antisymm (Int32.not_lt.mp e) (h g hg)
    rw [this, Int32.add_zero]; rfl
theorem sub_nz {z t : Int32} (h : ¬ z = t) : ¬ z - t = 0 := fun q => h (by
  have := congrArg (· + t) q
  simp only [Int32.sub_add_cancel, Int32.zero_add] at this
  exact this)
theorem fit_n {m : MS} {pl s : Nat} {k : Int32} {z : Int64} (hz : z = fitS m pl k s) (h : ¬ hzR m (nI (s + 1)) pl 0 = k) : z ||| 0 = fitS m pl k (s + 1) := by
  rw [Int64.or_zero]; exact fitS_n hz h
theorem fit_p {q m : MS} {n sv pl k s : Nat} {z a b : Int32} (h : RQ q m n sv pl) (hs : s < sv) (hr : m 7 k = nI s) (hab : a = q 3 (4 * s) ∧ b = q 3 (4 * s + 1)) : (a = 3 ∨ z ≤ b) ↔ (atv (m 3) 8 (m 7 k) = 3 ∨ z ≤ atv (m 4) 8 (m 7 k)) := by
  have h8 := h.1.2.2.2.1
  rw [hr, atv_n (by omega) (by decide), atv_n (by omega) (by decide), hab.1, hab.2, (h.2.1.2.1 s hs).1, (h.2.1.2.1 s hs).2.1]
theorem hz_s {m : MS} {z : Int32} {pl k : Nat} (hk : k < pl) (h : atv (m 3) 8 (m 7 k) = 3 ∨ z ≤ atv (m 4) 8 (m 7 k)) : hzR m z (pl - k) k = hzR m z (pl - (k + 1)) (k + 1) := by
  rw [show pl - k = (pl - (k + 1)) + 1 by omega, hzR, if_pos h]
theorem hz_e {m : MS} {z : Int32} {pl k : Nat} (hk : k < pl) (h : ¬ (atv (m 3) 8 (m 7 k) = 3 ∨ z ≤ atv (m 4) 8 (m 7 k))) : hzR m z (pl - k) k = nI k := by
  rw [show pl - k = (pl - (k + 1)) + 1 by omega, hzR, if_neg h]
theorem hz_p {m : MS} {z : Int32} {pl k : Nat} (hk : k = pl) : hzR m z (pl - k) k = nI k := by
  subst hk; rw [Nat.sub_self, hzR]
set_option maxHeartbeats 4000000 in
set_option maxRecDepth 100000 in
theorem c_X5_addGrain (cI cS : ClassId) (a : Nat → Nat) (q : Nat → Nat → Int32) {n : Nat} (hgr : q 18 0 = nI n) (hn6 : n < 6) (x y z : Int32) : CT cI cS yX5_addGrain cX5_addGrain 4 none 0 [.ref (a 0), .int x, .int y, .int z] (modelW cI a q) 0 0 (fun u : Unit => True) (fun u => none) (fun u => (modelW cI a (pA (pA (pA (pA q 0 (upd (q 0) n x)) 1 (upd (q 1) n y)) 2 (upd (q 2) n z)) 18 (upd (q 18) 0 (nI (n + 1)))))) := by
  refine ct_intro (by decide) (Nat.le_of_ble_eq_true rfl) (fun E Q hE hQ hI => ?_)
  have hE : CxOk E cI cS RX5 cX5_addGrain 4 none 0 0 0 := hE
  show Go E Q 4 0 0 0 [(0, .ref (a 0)), (1, .int x), (2, .int y), (3, .int z)] [] (modelW cI a q)
  refine g_aload_n hE dX5_addGrain_0 0 rfl ?_
  refine g_get hE fl_X5_7 dX5_addGrain_1 0 rfl rfl ?_
  refine g_aload_n hE dX5_addGrain_4 0 rfl ?_
  refine g_get hE fl_X5_64 dX5_addGrain_5 0 rfl rfl ?_
  refine g_iload_n hE dX5_addGrain_8 1 rfl ?_
  refine g_iast_n hE dX5_addGrain_9 1 rfl (show (q 18 0) = nI n from hgr) (by omega) (modelW cI a (pA q 0 (upd (q 0) n x))) rfl ?_
  refine g_aload_n hE dX5_addGrain_10 0 rfl ?_
  refine g_get hE fl_X5_13 dX5_addGrain_11 0 rfl rfl ?_
  refine g_aload_n hE dX5_addGrain_14 0 rfl ?_
  refine g_get hE fl_X5_64 dX5_addGrain_15 0 rfl rfl ?_
  refine g_iload_n hE dX5_addGrain_18 2 rfl ?_
  refine g_iast_n hE dX5_addGrain_19 2 rfl (show (q 18 0) = nI n from hgr) (by omega) (modelW cI a (pA (pA q 0 (upd (q 0) n x)) 1 (upd (q 1) n y))) rfl ?_
  refine g_aload_n hE dX5_addGrain_20 0 rfl ?_
  refine g_get hE fl_X5_16 dX5_addGrain_21 0 rfl rfl ?_
  refine g_aload_n hE dX5_addGrain_24 0 rfl ?_
  refine g_get hE fl_X5_64 dX5_addGrain_25 0 rfl rfl ?_
  refine g_iload_n hE dX5_addGrain_28 3 rfl ?_
  refine g_iast_n hE dX5_addGrain_29 3 rfl (show (q 18 0) = nI n from hgr) (by omega) (modelW cI a (pA (pA (pA q 0 (upd (q 0) n x)) 1 (upd (q 1) n y)) 2 (upd (q 2) n z))) rfl ?_
  refine g_aload_n hE dX5_addGrain_30 0 rfl ?_
  refine g_dup hE dX5_addGrain_31 rfl ?_
  refine g_get hE fl_X5_64 dX5_addGrain_32 0 rfl rfl ?_
  refine g_iconst hE dX5_addGrain_35 1 (by decide) ?_
  refine g_iadd_n hE dX5_addGrain_36 hgr (show 1 = nI 1 from rfl) ?_
  refine g_put hE fl_X5_64 fp_5_3 dX5_addGrain_37 0 rfl rfl rfl (Nat.le_of_ble_eq_true rfl) (modelW cI a (pA (pA (pA (pA q 0 (upd (q 0) n x)) 1 (upd (q 1) n y)) 2 (upd (q 2) n z)) 18 (upd (q 18) 0 (nI (n + 1))))) (by rfl) ?_
  exact g_vret hE hQ dX5_addGrain_40 () rfl rfl trivial
set_option maxHeartbeats 4000000 in
set_option maxRecDepth 100000 in
theorem c_X5_grain (cI cS : ClassId) (a : Nat → Nat) (q : Nat → Nat → Int32) {n sv pl : Nat} (m : MS) (hRQ : RQ q m n sv pl) (x y z : Int32) : CT cI cS yX5_grain cX5_grain 4 (some .int) 2 [.ref (a 0), .int x, .int y, .int z] (modelW cI a q) 0 0 (fun u : Int32 × (Nat → Nat → Int32) => u.1 = (fgGrain m n x y z).1 ∧ (∃ k, RQ u.2 (fgGrain m n x y z).2 k sv pl) ∧ OF u.2 q) (fun u => some (.int u.1)) (fun u => (modelW cI a u.2)) := by
  refine ct_intro (by decide) (Nat.le_of_ble_eq_true rfl) (fun E Q hE hQ hI => ?_)
  have hE : CxOk E cI cS RX5 cX5_grain 4 (some .int) 2 0 0 := hE
  show Go E Q 4 0 0 0 [(0, .ref (a 0)), (1, .int x), (2, .int y), (3, .int z)] [] (modelW cI a q)
  have hM := hRQ.1
  have hTQ := hRQ.2.1
  have hRG := hRQ.2.2
  have hgr := hTQ.2.2.2.1
  have hsv := hTQ.2.2.2.2.1
  have hpl := hTQ.2.2.2.2.2.1
  have hn6 := hM.2.1
  have hsv8 := hM.2.2.2.1
  have hpl6 := hM.2.2.2.2.2
  have hc0 : m 9 0 = q 18 0 := hM.1.trans hgr.symm
  have hc1 : m 9 1 = q 18 1 := hM.2.2.1.trans hsv.symm
  have hc2 : m 9 2 = q 18 2 := hM.2.2.2.2.1.trans hpl.symm
  refine g_iload_n hE dX5_grain_0 1 rfl ?_
  refine g_i2l hE dX5_grain_1 ?_
  refine g_lconst hE dX5_grain_2 1 (by decide) ?_
  refine g_ldc2 hE dX5_grain_3 cl_X5_75 ?_
  refine g_callS hE (c_X5_in cI cS (Int32.toInt64 x) 1 60) mk_X5_in st_X5_in ml_X5_68 dX5_grain_6 (As := [.long (Int32.toInt64 x), .long 1, .long 60]) (rest := []) rfl rfl (by decide) (by decide) (Nat.le_of_ble_eq_true rfl) (by decide) (by decide) [] rfl (by decide) (fun u => Nat.le_of_ble_eq_true rfl) (ws' := fun u => modelW cI a q) (fun u => rfl) (fun u hu => ?_)
  obtain ⟨r_1, rfl⟩ : ∃ z, z = u := ⟨_, rfl⟩
  have h2 : r_1 = if 1 ≤ x ∧ x ≤ 60 then 1 else 0 := (in_i (x := x) (lo := 1) (hi := 60) rfl rfl hu)
  by_cases c3 : 1 ≤ x ∧ x ≤ 60
  · rw [if_pos c3] at h2
    subst h2
    show Go E Q 4 0 0 9 [(0, .ref (a 0)), (1, .int x), (2, .int y), (3, .int z)] [.int 1] (modelW cI a q)
    refine g_if_eq hE 36 dX5_grain_9 (by decide) (fun c4 => absurd c4 (by decide)) (fun c4 => ?_)
    refine g_iload_n hE dX5_grain_12 2 rfl ?_
    refine g_i2l hE dX5_grain_13 ?_
    refine g_lconst hE dX5_grain_14 0 (by decide) ?_
    refine g_ldc2 hE dX5_grain_15 cl_X5_77 ?_
    refine g_callS hE (c_X5_in cI cS (Int32.toInt64 y) 0 9999) mk_X5_in st_X5_in ml_X5_68 dX5_grain_18 (As := [.long (Int32.toInt64 y), .long 0, .long 9999]) (rest := []) rfl rfl (by decide) (by decide) (Nat.le_of_ble_eq_true rfl) (by decide) (by decide) [] rfl (by decide) (fun u => Nat.le_of_ble_eq_true rfl) (ws' := fun u => modelW cI a q) (fun u => rfl) (fun u hu => ?_)
    obtain ⟨r_5, rfl⟩ : ∃ z, z = u := ⟨_, rfl⟩
    have h6 : r_5 = if 0 ≤ y ∧ y ≤ 9999 then 1 else 0 := (in_i (x := y) (lo := 0) (hi := 9999) rfl rfl hu)
    by_cases c7 : 0 ≤ y ∧ y ≤ 9999
    · rw [if_pos c7] at h6
      subst h6
      show Go E Q 4 0 0 21 [(0, .ref (a 0)), (1, .int x), (2, .int y), (3, .int z)] [.int 1] (modelW cI a q)
      refine g_if_eq hE 36 dX5_grain_21 (by decide) (fun c8 => absurd c8 (by decide)) (fun c8 => ?_)
      refine g_iload_n hE dX5_grain_24 3 rfl ?_
      refine g_i2l hE dX5_grain_25 ?_
      refine g_lconst hE dX5_grain_26 0 (by decide) ?_
      refine g_ldc2 hE dX5_grain_27 cl_X5_79 ?_
      refine g_callS hE (c_X5_in cI cS (Int32.toInt64 z) 0 99) mk_X5_in st_X5_in ml_X5_68 dX5_grain_30 (As := [.long (Int32.toInt64 z), .long 0, .long 99]) (rest := []) rfl rfl (by decide) (by decide) (Nat.le_of_ble_eq_true rfl) (by decide) (by decide) [] rfl (by decide) (fun u => Nat.le_of_ble_eq_true rfl) (ws' := fun u => modelW cI a q) (fun u => rfl) (fun u hu => ?_)
      obtain ⟨r_9, rfl⟩ : ∃ z, z = u := ⟨_, rfl⟩
      have h10 : r_9 = if 0 ≤ z ∧ z ≤ 99 then 1 else 0 := (in_i (x := z) (lo := 0) (hi := 99) rfl rfl hu)
      by_cases c11 : 0 ≤ z ∧ z ≤ 99
      · rw [if_pos c11] at h10
        subst h10
        show Go E Q 4 0 0 33 [(0, .ref (a 0)), (1, .int x), (2, .int y), (3, .int z)] [.int 1] (modelW cI a q)
        refine g_if_ne hE 38 dX5_grain_33 (by decide) (fun c12 => ?_) (fun c12 => absurd c12 (by decide))
        refine g_aload_n hE dX5_grain_38 0 rfl ?_
        refine g_get hE fl_X5_64 dX5_grain_39 0 rfl rfl ?_
        refine g_bipush hE dX5_grain_42 6 (by decide) ?_
        refine g_icmp_ne hE 50 dX5_grain_44 (by decide) (fun c13 => ?_) (fun c13 => ?_)
        · have kc13 := nat_eq_f (show (q 18 0) = nI n from hgr) (show 6 = nI 6 from rfl) (by omega) (by omega) c13
          refine g_aload_n hE dX5_grain_50 0 rfl ?_
          refine g_iload_n hE dX5_grain_51 1 rfl ?_
          refine g_iload_n hE dX5_grain_52 2 rfl ?_
          refine g_iload_n hE dX5_grain_53 3 rfl ?_
          refine g_callV hE (c_X5_addGrain cI cS a q hgr (by omega) x y z) mk_X5_addGrain mv_X5_addGrain ml_X5_81 dX5_grain_54 (As := [.int x, .int y, .int z]) (rest := []) rfl rfl 0 rfl (show vwCl[5]? = some (RX5, TX5, 32) from rfl) (by decide) (by decide) (Nat.le_of_ble_eq_true rfl) (by decide) (by decide) [0, 1, 2, 3, 4, 5, 6, 7, 8, 9, 10, 11, 12, 13, 14, 15, 16, 17, 18] rfl (by decide) (fun u => Nat.le_of_ble_eq_true rfl) (ws' := fun u => modelW cI a (pA (pA (pA (pA q 0 (upd (q 0) n x)) 1 (upd (q 1) n y)) 2 (upd (q 2) n z)) 18 (upd (q 18) 0 (nI (n + 1))))) (fun u => rfl) (fun u hu => ?_)
          show Go E Q 4 0 0 57 [(0, .ref (a 0)), (1, .int x), (2, .int y), (3, .int z)] [] (modelW cI a (pA (pA (pA (pA q 0 (upd (q 0) n x)) 1 (upd (q 1) n y)) 2 (upd (q 2) n z)) 18 (upd (q 18) 0 (nI (n + 1)))))
          refine g_aload_n hE dX5_grain_57 0 rfl ?_
          refine g_get hE fl_X5_64 dX5_grain_58 0 rfl rfl ?_
          refine g_iconst hE dX5_grain_61 1 (by decide) ?_
          refine g_isub_n hE dX5_grain_62 (show (nI (n + 1)) = nI (n + 1) from rfl) (show 1 = nI 1 from rfl) (by omega) ?_
          exact g_iret hE hQ dX5_grain_63 rfl ((nI ((n + 1) - 1)), (pA (pA (pA (pA q 0 (upd (q 0) n x)) 1 (upd (q 1) n y)) 2 (upd (q 2) n z)) 18 (upd (q 18) 0 (nI (n + 1))))) rfl rfl ⟨(by simp only [fgGrain, hc0, hc1, hc2, if_pos c3, if_pos c7, if_pos c11, if_pos (show (q 18 0) < 6 by rw [hgr]; exact (nI_ltI (b := 6) (by omega) (by decide)).mpr (by omega)), if_pos trivial]; exact congrArg nI (Nat.add_sub_cancel n 1)), ⟨n + 1, (by simp only [fgGrain, hc0, hc1, hc2, if_pos c3, if_pos c7, if_pos c11, if_pos (show (q 18 0) < 6 by rw [hgr]; exact (nI_ltI (b := 6) (by omega) (by decide)).mpr (by omega)), if_pos trivial]; exact RQ_addG hRQ (by omega) c3 c7 c11 rfl rfl rfl rfl rfl rfl rfl rfl rfl)⟩, ⟨rfl, rfl, rfl, rfl, rfl, rfl, rfl⟩⟩
        · have kc13 := nat_eq_t (show (q 18 0) = nI n from hgr) (show 6 = nI 6 from rfl) (by omega) (by omega) c13
          refine g_bipush hE dX5_grain_47 (-3) (by decide) ?_
          exact g_iret hE hQ dX5_grain_49 rfl ((-3), q) rfl rfl ⟨(by simp only [fgGrain, hc0, hc1, hc2, if_pos c3, if_pos c7, if_pos c11, if_neg (show ¬ (q 18 0) < 6 by rw [(show (q 18 0) = 6 from c13)]; decide), if_pos trivial]), ⟨n, (by simp only [fgGrain, hc0, hc1, hc2, if_pos c3, if_pos c7, if_pos c11, if_neg (show ¬ (q 18 0) < 6 by rw [(show (q 18 0) = 6 from c13)]; decide), if_pos trivial]; exact hRQ)⟩, ⟨rfl, rfl, rfl, rfl, rfl, rfl, rfl⟩⟩
      · rw [if_neg c11] at h10
        subst h10
        show Go E Q 4 0 0 33 [(0, .ref (a 0)), (1, .int x), (2, .int y), (3, .int z)] [.int 0] (modelW cI a q)
        refine g_if_ne hE 38 dX5_grain_33 (by decide) (fun c15 => absurd (by decide) c15) (fun c15 => ?_)
        refine g_iconst hE dX5_grain_36 (-1) (by decide) ?_
        exact g_iret hE hQ dX5_grain_37 rfl ((-1), q) rfl rfl ⟨(by simp only [fgGrain, hc0, hc1, hc2, if_pos c3, if_pos c7, if_neg c11, if_pos trivial]), ⟨n, (by simp only [fgGrain, hc0, hc1, hc2, if_pos c3, if_pos c7, if_neg c11, if_pos trivial]; exact hRQ)⟩, ⟨rfl, rfl, rfl, rfl, rfl, rfl, rfl⟩⟩
    · rw [if_neg c7] at h6
      subst h6
      show Go E Q 4 0 0 21 [(0, .ref (a 0)), (1, .int x), (2, .int y), (3, .int z)] [.int 0] (modelW cI a q)
      refine g_if_eq hE 36 dX5_grain_21 (by decide) (fun c16 => ?_) (fun c16 => absurd (by decide) c16)
      refine g_iconst hE dX5_grain_36 (-1) (by decide) ?_
      exact g_iret hE hQ dX5_grain_37 rfl ((-1), q) rfl rfl ⟨(by simp only [fgGrain, hc0, hc1, hc2, if_pos c3, if_neg c7, if_pos trivial]), ⟨n, (by simp only [fgGrain, hc0, hc1, hc2, if_pos c3, if_neg c7, if_pos trivial]; exact hRQ)⟩, ⟨rfl, rfl, rfl, rfl, rfl, rfl, rfl⟩⟩
  · rw [if_neg c3] at h2
    subst h2
    show Go E Q 4 0 0 9 [(0, .ref (a 0)), (1, .int x), (2, .int y), (3, .int z)] [.int 0] (modelW cI a q)
    refine g_if_eq hE 36 dX5_grain_9 (by decide) (fun c17 => ?_) (fun c17 => absurd (by decide) c17)
    refine g_iconst hE dX5_grain_36 (-1) (by decide) ?_
    exact g_iret hE hQ dX5_grain_37 rfl ((-1), q) rfl rfl ⟨(by simp only [fgGrain, hc0, hc1, hc2, if_neg c3, if_pos trivial]), ⟨n, (by simp only [fgGrain, hc0, hc1, hc2, if_neg c3, if_pos trivial]; exact hRQ)⟩, ⟨rfl, rfl, rfl, rfl, rfl, rfl, rfl⟩⟩
set_option maxHeartbeats 4000000 in
set_option maxRecDepth 100000 in
theorem c_X5_set (cI cS : ClassId) (a : Nat → Nat) (q : Nat → Nat → Int32) {n sv pl : Nat} (m : MS) (hRQ : RQ q m n sv pl) (x y z : Int32) : CT cI cS yX5_set cX5_set 5 (some .int) 2 [.ref (a 0), .int x, .int y, .int z] (modelW cI a q) 0 0 (fun u : Int32 × (Nat → Nat → Int32) => u.1 = (fgSet m x y z).1 ∧ RQ u.2 (fgSet m x y z).2 n sv pl ∧ OF u.2 q) (fun u => some (.int u.1)) (fun u => (modelW cI a u.2)) := by
  refine ct_intro (by decide) (Nat.le_of_ble_eq_true rfl) (fun E Q hE hQ hI => ?_)
  have hE : CxOk E cI cS RX5 cX5_set 5 (some .int) 2 0 0 := hE
  show Go E Q 5 0 0 0 [(0, .ref (a 0)), (1, .int x), (2, .int y), (3, .int z)] [] (modelW cI a q)
  have hM := hRQ.1
  have hTQ := hRQ.2.1
  have hRG := hRQ.2.2
  have hgr := hTQ.2.2.2.1
  have hsv := hTQ.2.2.2.2.1
  have hpl := hTQ.2.2.2.2.2.1
  have hn6 := hM.2.1
  have hsv8 := hM.2.2.2.1
  have hpl6 := hM.2.2.2.2.2
  have hc0 : m 9 0 = q 18 0 := hM.1.trans hgr.symm
  have hc1 : m 9 1 = q 18 1 := hM.2.2.1.trans hsv.symm
  have hc2 : m 9 2 = q 18 2 := hM.2.2.2.2.1.trans hpl.symm
  refine g_aload_n hE dX5_set_0 0 rfl ?_
  refine g_iload_n hE dX5_set_1 1 rfl ?_
  refine g_callV hE (c_X5_isGrain cI cS a q hgr hn6 x) mk_X5_isGrain mv_X5_isGrain ml_X5_85 dX5_set_2 (As := [.int x]) (rest := []) rfl rfl 0 rfl (show vwCl[5]? = some (RX5, TX5, 32) from rfl) (by decide) (by decide) (Nat.le_of_ble_eq_true rfl) (by decide) (by decide) [0, 1, 2, 3, 4, 5, 6, 7, 8, 9, 10, 11, 12, 13, 14, 15, 16, 17, 18] rfl (by decide) (fun u => Nat.le_of_ble_eq_true rfl) (ws' := fun u => modelW cI a q) (fun u => rfl) (fun u hu => ?_)
  obtain ⟨r_1, rfl⟩ : ∃ z, z = u := ⟨_, rfl⟩
  have h2 : r_1 = if 0 ≤ x ∧ x < (q 18 0) then 1 else 0 := hu
  by_cases c3 : 0 ≤ x ∧ x < (q 18 0)
  · rw [if_pos c3] at h2
    subst h2
    show Go E Q 5 0 0 5 [(0, .ref (a 0)), (1, .int x), (2, .int y), (3, .int z)] [.int 1] (modelW cI a q)
    refine g_if_eq hE 62 dX5_set_5 (by decide) (fun c4 => absurd c4 (by decide)) (fun c4 => ?_)
    refine g_iload_n hE dX5_set_8 2 rfl ?_
    refine g_i2l hE dX5_set_9 ?_
    refine g_lconst hE dX5_set_10 0 (by decide) ?_
    refine g_ldc2 hE dX5_set_11 cl_X5_89 ?_
    refine g_callS hE (c_X5_in cI cS (Int32.toInt64 y) 0 2) mk_X5_in st_X5_in ml_X5_68 dX5_set_14 (As := [.long (Int32.toInt64 y), .long 0, .long 2]) (rest := []) rfl rfl (by decide) (by decide) (Nat.le_of_ble_eq_true rfl) (by decide) (by decide) [] rfl (by decide) (fun u => Nat.le_of_ble_eq_true rfl) (ws' := fun u => modelW cI a q) (fun u => rfl) (fun u hu => ?_)
    obtain ⟨r_5, rfl⟩ : ∃ z, z = u := ⟨_, rfl⟩
    have h6 : r_5 = if 0 ≤ y ∧ y ≤ 2 then 1 else 0 := (in_i (x := y) (lo := 0) (hi := 2) rfl rfl hu)
    by_cases c7 : 0 ≤ y ∧ y ≤ 2
    · rw [if_pos c7] at h6
      subst h6
      show Go E Q 5 0 0 17 [(0, .ref (a 0)), (1, .int x), (2, .int y), (3, .int z)] [.int 1] (modelW cI a q)
      refine g_if_eq hE 62 dX5_set_17 (by decide) (fun c8 => absurd c8 (by decide)) (fun c8 => ?_)
      refine g_iload_n hE dX5_set_20 2 rfl ?_
      refine g_if_ne hE 39 dX5_set_21 (by decide) (fun c9 => ?_) (fun c9 => ?_)
      · refine g_iload_n hE dX5_set_39 3 rfl ?_
        refine g_i2l hE dX5_set_40 ?_
        refine g_lconst hE dX5_set_41 0 (by decide) ?_
        refine g_iload_n hE dX5_set_42 2 rfl ?_
        refine g_iconst hE dX5_set_43 1 (by decide) ?_
        refine g_icmp_ne hE 53 dX5_set_44 (by decide) (fun c10 => ?_) (fun c10 => ?_)
        · have hy2 : y = 2 := set_2 c7 (show ¬ y = 0 from c9) (show ¬ y = 1 from c10)
          refine g_ldc2 hE dX5_set_53 cl_X5_79 ?_
          refine g_callS hE (c_X5_in cI cS (Int32.toInt64 z) 0 99) mk_X5_in st_X5_in ml_X5_68 dX5_set_56 (As := [.long (Int32.toInt64 z), .long 0, .long 99]) (rest := []) rfl rfl (by decide) (by decide) (Nat.le_of_ble_eq_true rfl) (by decide) (by decide) [] rfl (by decide) (fun u => Nat.le_of_ble_eq_true rfl) (ws' := fun u => modelW cI a q) (fun u => rfl) (fun u hu => ?_)
          obtain ⟨r_11, rfl⟩ : ∃ z, z = u := ⟨_, rfl⟩
          have h12 : r_11 = if 0 ≤ z ∧ z ≤ 99 then 1 else 0 := (in_i (x := z) (lo := 0) (hi := 99) rfl rfl hu)
          by_cases c13 : 0 ≤ z ∧ z ≤ 99
          · rw [if_pos c13] at h12
            subst h12
            show Go E Q 5 0 0 59 [(0, .ref (a 0)), (1, .int x), (2, .int y), (3, .int z)] [.int 1] (modelW cI a q)
            refine g_if_ne hE 64 dX5_set_59 (by decide) (fun c14 => ?_) (fun c14 => absurd c14 (by decide))
            obtain ⟨gn, hgnl, hgn, hgnc⟩ := nat_of_lt c3 hgr (by omega)
            refine g_iload_n hE dX5_set_64 2 rfl ?_
            refine g_if_ne hE 77 dX5_set_65 (by decide) (fun c15 => ?_) (fun c15 => absurd c15 (show ¬ y = 0 from c9))
            refine g_iload_n hE dX5_set_77 2 rfl ?_
            refine g_iconst hE dX5_set_78 1 (by decide) ?_
            refine g_icmp_ne hE 91 dX5_set_79 (by decide) (fun c16 => ?_) (fun c16 => absurd c16 (show ¬ y = 1 from c10))
            refine g_aload_n hE dX5_set_91 0 rfl ?_
            refine g_get hE fl_X5_16 dX5_set_92 0 rfl rfl ?_
            refine g_iload_n hE dX5_set_95 1 rfl ?_
            refine g_iald_n hE dX5_set_96 3 rfl (show x = nI gn from hgn) (by omega) ?_
            refine g_istore hE dX5_set_97 [(4, .int ((q 2) gn)), (0, .ref (a 0)), (1, .int x), (2, .int y), (3, .int z)] (by decide) rfl ?_
            refine g_aload_n hE dX5_set_99 1 rfl ?_
            refine g_get hE fl_X5_7 dX5_set_100 0 rfl rfl ?_
            refine g_iload_n hE dX5_set_103 2 rfl ?_
            refine g_iload_n hE dX5_set_104 3 rfl ?_
            refine g_if_ne hE 112 dX5_set_105 (by decide) (fun c17 => ?_) (fun c17 => absurd c17 (show ¬ y = 0 from c9))
            refine g_aload_n hE dX5_set_112 1 rfl ?_
            refine g_get hE fl_X5_7 dX5_set_113 0 rfl rfl ?_
            refine g_iload_n hE dX5_set_116 2 rfl ?_
            refine g_iald_n hE dX5_set_117 1 rfl (show x = nI gn from hgn) (by omega) ?_
            refine g_iast_n hE dX5_set_118 1 rfl (show x = nI gn from hgn) (by omega) (modelW cI a (pA q 0 (upd (q 0) gn ((q 0) gn)))) rfl ?_
            refine g_aload_n hE dX5_set_119 1 rfl ?_
            refine g_get hE fl_X5_13 dX5_set_120 0 rfl rfl ?_
            refine g_iload_n hE dX5_set_123 2 rfl ?_
            refine g_iload_n hE dX5_set_124 3 rfl ?_
            refine g_iconst hE dX5_set_125 1 (by decide) ?_
            refine g_icmp_ne hE 133 dX5_set_126 (by decide) (fun c18 => ?_) (fun c18 => absurd c18 (show ¬ y = 1 from c10))
            refine g_aload_n hE dX5_set_133 1 rfl ?_
            refine g_get hE fl_X5_13 dX5_set_134 0 rfl rfl ?_
            refine g_iload_n hE dX5_set_137 2 rfl ?_
            refine g_iald_n hE dX5_set_138 2 rfl (show x = nI gn from hgn) (by omega) ?_
            refine g_iast_n hE dX5_set_139 2 rfl (show x = nI gn from hgn) (by omega) (modelW cI a (pA (pA q 0 (upd (q 0) gn ((q 0) gn))) 1 (upd (q 1) gn ((q 1) gn)))) rfl ?_
            refine g_aload_n hE dX5_set_140 1 rfl ?_
            refine g_get hE fl_X5_16 dX5_set_141 0 rfl rfl ?_
            refine g_iload_n hE dX5_set_144 2 rfl ?_
            refine g_iload_n hE dX5_set_145 3 rfl ?_
            refine g_iconst hE dX5_set_146 2 (by decide) ?_
            refine g_icmp_ne hE 154 dX5_set_147 (by decide) (fun c19 => absurd hy2 c19) (fun c19 => ?_)
            refine g_iload_n hE dX5_set_150 4 rfl ?_
            refine g_goto hE 160 dX5_set_151 (by decide) ?_
            refine g_iast_n hE dX5_set_160 3 rfl (show x = nI gn from hgn) (by omega) (modelW cI a (pA (pA (pA q 0 (upd (q 0) gn ((q 0) gn))) 1 (upd (q 1) gn ((q 1) gn))) 2 (upd (q 2) gn z))) rfl ?_
            refine g_iload hE dX5_set_161 0 rfl ?_
            exact g_iret hE hQ dX5_set_163 rfl (((q 2) gn), (pA (pA (pA q 0 (upd (q 0) gn ((q 0) gn))) 1 (upd (q 1) gn ((q 1) gn))) 2 (upd (q 2) gn z))) rfl rfl ⟨(by simp only [fgSet, hc0, hc1, hc2, if_pos c3, if_neg (show ¬ y = 0 from c9), if_neg (show ¬ y = 1 from c10), if_pos hy2, if_pos c13, if_pos trivial]; rw [show x = nI gn from hgn, atv_n (by omega) (by decide)]; exact (hTQ.1 gn hgnl).2.2), (by simp only [fgSet, hc0, hc1, hc2, if_pos c3, if_neg (show ¬ y = 0 from c9), if_neg (show ¬ y = 1 from c10), if_pos hy2, if_pos c13, if_pos trivial]; rw [show x = nI gn from hgn, putv_n (by omega) (by decide)]; exact RQ_set2 hRQ hgnl c13 (upd_self _ _) (upd_self _ _) rfl rfl rfl rfl), ⟨rfl, rfl, rfl, rfl, rfl, rfl, rfl⟩⟩
          · rw [if_neg c13] at h12
            subst h12
            show Go E Q 5 0 0 59 [(0, .ref (a 0)), (1, .int x), (2, .int y), (3, .int z)] [.int 0] (modelW cI a q)
            refine g_if_ne hE 64 dX5_set_59 (by decide) (fun c20 => absurd (by decide) c20) (fun c20 => ?_)
            refine g_iconst hE dX5_set_62 (-1) (by decide) ?_
            exact g_iret hE hQ dX5_set_63 rfl ((-1), q) rfl rfl ⟨(by simp only [fgSet, hc0, hc1, hc2, if_pos c3, if_neg (show ¬ y = 0 from c9), if_neg (show ¬ y = 1 from c10), if_pos hy2, if_neg c13, if_pos trivial]), (by simp only [fgSet, hc0, hc1, hc2, if_pos c3, if_neg (show ¬ y = 0 from c9), if_neg (show ¬ y = 1 from c10), if_pos hy2, if_neg c13, if_pos trivial]; exact hRQ), ⟨rfl, rfl, rfl, rfl, rfl, rfl, rfl⟩⟩
        · refine g_ldc2 hE dX5_set_47 cl_X5_77 ?_
          refine g_goto hE 56 dX5_set_50 (by decide) ?_
          refine g_callS hE (c_X5_in cI cS (Int32.toInt64 z) 0 9999) mk_X5_in st_X5_in ml_X5_68 dX5_set_56 (As := [.long (Int32.toInt64 z), .long 0, .long 9999]) (rest := []) rfl rfl (by decide) (by decide) (Nat.le_of_ble_eq_true rfl) (by decide) (by decide) [] rfl (by decide) (fun u => Nat.le_of_ble_eq_true rfl) (ws' := fun u => modelW cI a q) (fun u => rfl) (fun u hu => ?_)
          obtain ⟨r_21, rfl⟩ : ∃ z, z = u := ⟨_, rfl⟩
          have h22 : r_21 = if 0 ≤ z ∧ z ≤ 9999 then 1 else 0 := (in_i (x := z) (lo := 0) (hi := 9999) rfl rfl hu)
          by_cases c23 : 0 ≤ z ∧ z ≤ 9999
          · rw [if_pos c23] at h22
            subst h22
            show Go E Q 5 0 0 59 [(0, .ref (a 0)), (1, .int x), (2, .int y), (3, .int z)] [.int 1] (modelW cI a q)
            refine g_if_ne hE 64 dX5_set_59 (by decide) (fun c24 => ?_) (fun c24 => absurd c24 (by decide))
            obtain ⟨gn, hgnl, hgn, hgnc⟩ := nat_of_lt c3 hgr (by omega)
            refine g_iload_n hE dX5_set_64 2 rfl ?_
            refine g_if_ne hE 77 dX5_set_65 (by decide) (fun c25 => ?_) (fun c25 => absurd c25 (show ¬ y = 0 from c9))
            refine g_iload_n hE dX5_set_77 2 rfl ?_
            refine g_iconst hE dX5_set_78 1 (by decide) ?_
            refine g_icmp_ne hE 91 dX5_set_79 (by decide) (fun c26 => absurd (show y = 1 from c10) c26) (fun c26 => ?_)
            refine g_aload_n hE dX5_set_82 0 rfl ?_
            refine g_get hE fl_X5_13 dX5_set_83 0 rfl rfl ?_
            refine g_iload_n hE dX5_set_86 1 rfl ?_
            refine g_iald_n hE dX5_set_87 2 rfl (show x = nI gn from hgn) (by omega) ?_
            refine g_goto hE 97 dX5_set_88 (by decide) ?_
            refine g_istore hE dX5_set_97 [(4, .int ((q 1) gn)), (0, .ref (a 0)), (1, .int x), (2, .int y), (3, .int z)] (by decide) rfl ?_
            refine g_aload_n hE dX5_set_99 1 rfl ?_
            refine g_get hE fl_X5_7 dX5_set_100 0 rfl rfl ?_
            refine g_iload_n hE dX5_set_103 2 rfl ?_
            refine g_iload_n hE dX5_set_104 3 rfl ?_
            refine g_if_ne hE 112 dX5_set_105 (by decide) (fun c27 => ?_) (fun c27 => absurd c27 (show ¬ y = 0 from c9))
            refine g_aload_n hE dX5_set_112 1 rfl ?_
            refine g_get hE fl_X5_7 dX5_set_113 0 rfl rfl ?_
            refine g_iload_n hE dX5_set_116 2 rfl ?_
            refine g_iald_n hE dX5_set_117 1 rfl (show x = nI gn from hgn) (by omega) ?_
            refine g_iast_n hE dX5_set_118 1 rfl (show x = nI gn from hgn) (by omega) (modelW cI a (pA q 0 (upd (q 0) gn ((q 0) gn)))) rfl ?_
            refine g_aload_n hE dX5_set_119 1 rfl ?_
            refine g_get hE fl_X5_13 dX5_set_120 0 rfl rfl ?_
            refine g_iload_n hE dX5_set_123 2 rfl ?_
            refine g_iload_n hE dX5_set_124 3 rfl ?_
            refine g_iconst hE dX5_set_125 1 (by decide) ?_
            refine g_icmp_ne hE 133 dX5_set_126 (by decide) (fun c28 => absurd (show y = 1 from c10) c28) (fun c28 => ?_)
            refine g_iload_n hE dX5_set_129 4 rfl ?_
            refine g_goto hE 139 dX5_set_130 (by decide) ?_
            refine g_iast_n hE dX5_set_139 2 rfl (show x = nI gn from hgn) (by omega) (modelW cI a (pA (pA q 0 (upd (q 0) gn ((q 0) gn))) 1 (upd (q 1) gn z))) rfl ?_
            refine g_aload_n hE dX5_set_140 1 rfl ?_
            refine g_get hE fl_X5_16 dX5_set_141 0 rfl rfl ?_
            refine g_iload_n hE dX5_set_144 2 rfl ?_
            refine g_iload_n hE dX5_set_145 3 rfl ?_
            refine g_iconst hE dX5_set_146 2 (by decide) ?_
            refine g_icmp_ne hE 154 dX5_set_147 (by decide) (fun c29 => ?_) (fun c29 => absurd c29 (by rw [(show y = 1 from c10)]; decide))
            refine g_aload_n hE dX5_set_154 1 rfl ?_
            refine g_get hE fl_X5_16 dX5_set_155 0 rfl rfl ?_
            refine g_iload_n hE dX5_set_158 2 rfl ?_
            refine g_iald_n hE dX5_set_159 3 rfl (show x = nI gn from hgn) (by omega) ?_
            refine g_iast_n hE dX5_set_160 3 rfl (show x = nI gn from hgn) (by omega) (modelW cI a (pA (pA (pA q 0 (upd (q 0) gn ((q 0) gn))) 1 (upd (q 1) gn z)) 2 (upd (q 2) gn ((q 2) gn)))) rfl ?_
            refine g_iload hE dX5_set_161 0 rfl ?_
            exact g_iret hE hQ dX5_set_163 rfl (((q 1) gn), (pA (pA (pA q 0 (upd (q 0) gn ((q 0) gn))) 1 (upd (q 1) gn z)) 2 (upd (q 2) gn ((q 2) gn)))) rfl rfl ⟨(by simp only [fgSet, hc0, hc1, hc2, if_pos c3, if_neg (show ¬ y = 0 from c9), if_pos (show y = 1 from c10), if_pos c23, if_pos trivial]; rw [show x = nI gn from hgn, atv_n (by omega) (by decide)]; exact (hTQ.1 gn hgnl).2.1), (by simp only [fgSet, hc0, hc1, hc2, if_pos c3, if_neg (show ¬ y = 0 from c9), if_pos (show y = 1 from c10), if_pos c23, if_pos trivial]; rw [show x = nI gn from hgn, putv_n (by omega) (by decide)]; exact RQ_set1 hRQ hgnl c23 (upd_self _ _) rfl (upd_self _ _) rfl rfl rfl), ⟨rfl, rfl, rfl, rfl, rfl, rfl, rfl⟩⟩
          · rw [if_neg c23] at h22
            subst h22
            show Go E Q 5 0 0 59 [(0, .ref (a 0)), (1, .int x), (2, .int y), (3, .int z)] [.int 0] (modelW cI a q)
            refine g_if_ne hE 64 dX5_set_59 (by decide) (fun c30 => absurd (by decide) c30) (fun c30 => ?_)
            refine g_iconst hE dX5_set_62 (-1) (by decide) ?_
            exact g_iret hE hQ dX5_set_63 rfl ((-1), q) rfl rfl ⟨(by simp only [fgSet, hc0, hc1, hc2, if_pos c3, if_neg (show ¬ y = 0 from c9), if_pos (show y = 1 from c10), if_neg c23, if_pos trivial]), (by simp only [fgSet, hc0, hc1, hc2, if_pos c3, if_neg (show ¬ y = 0 from c9), if_pos (show y = 1 from c10), if_neg c23, if_pos trivial]; exact hRQ), ⟨rfl, rfl, rfl, rfl, rfl, rfl, rfl⟩⟩
      · refine g_iload_n hE dX5_set_24 3 rfl ?_
        refine g_i2l hE dX5_set_25 ?_
        refine g_lconst hE dX5_set_26 1 (by decide) ?_
        refine g_ldc2 hE dX5_set_27 cl_X5_75 ?_
        refine g_callS hE (c_X5_in cI cS (Int32.toInt64 z) 1 60) mk_X5_in st_X5_in ml_X5_68 dX5_set_30 (As := [.long (Int32.toInt64 z), .long 1, .long 60]) (rest := []) rfl rfl (by decide) (by decide) (Nat.le_of_ble_eq_true rfl) (by decide) (by decide) [] rfl (by decide) (fun u => Nat.le_of_ble_eq_true rfl) (ws' := fun u => modelW cI a q) (fun u => rfl) (fun u hu => ?_)
        obtain ⟨r_31, rfl⟩ : ∃ z, z = u := ⟨_, rfl⟩
        have h32 : r_31 = if 1 ≤ z ∧ z ≤ 60 then 1 else 0 := (in_i (x := z) (lo := 1) (hi := 60) rfl rfl hu)
        by_cases c33 : 1 ≤ z ∧ z ≤ 60
        · rw [if_pos c33] at h32
          subst h32
          show Go E Q 5 0 0 33 [(0, .ref (a 0)), (1, .int x), (2, .int y), (3, .int z)] [.int 1] (modelW cI a q)
          refine g_if_eq hE 62 dX5_set_33 (by decide) (fun c34 => absurd c34 (by decide)) (fun c34 => ?_)
          refine g_goto hE 64 dX5_set_36 (by decide) ?_
          obtain ⟨gn, hgnl, hgn, hgnc⟩ := nat_of_lt c3 hgr (by omega)
          refine g_iload_n hE dX5_set_64 2 rfl ?_
          refine g_if_ne hE 77 dX5_set_65 (by decide) (fun c35 => absurd (show y = 0 from c9) c35) (fun c35 => ?_)
          refine g_aload_n hE dX5_set_68 0 rfl ?_
          refine g_get hE fl_X5_7 dX5_set_69 0 rfl rfl ?_
          refine g_iload_n hE dX5_set_72 1 rfl ?_
          refine g_iald_n hE dX5_set_73 1 rfl (show x = nI gn from hgn) (by omega) ?_
          refine g_goto hE 97 dX5_set_74 (by decide) ?_
          refine g_istore hE dX5_set_97 [(4, .int ((q 0) gn)), (0, .ref (a 0)), (1, .int x), (2, .int y), (3, .int z)] (by decide) rfl ?_
          refine g_aload_n hE dX5_set_99 1 rfl ?_
          refine g_get hE fl_X5_7 dX5_set_100 0 rfl rfl ?_
          refine g_iload_n hE dX5_set_103 2 rfl ?_
          refine g_iload_n hE dX5_set_104 3 rfl ?_
          refine g_if_ne hE 112 dX5_set_105 (by decide) (fun c36 => absurd (show y = 0 from c9) c36) (fun c36 => ?_)
          refine g_iload_n hE dX5_set_108 4 rfl ?_
          refine g_goto hE 118 dX5_set_109 (by decide) ?_
          refine g_iast_n hE dX5_set_118 1 rfl (show x = nI gn from hgn) (by omega) (modelW cI a (pA q 0 (upd (q 0) gn z))) rfl ?_
          refine g_aload_n hE dX5_set_119 1 rfl ?_
          refine g_get hE fl_X5_13 dX5_set_120 0 rfl rfl ?_
          refine g_iload_n hE dX5_set_123 2 rfl ?_
          refine g_iload_n hE dX5_set_124 3 rfl ?_
          refine g_iconst hE dX5_set_125 1 (by decide) ?_
          refine g_icmp_ne hE 133 dX5_set_126 (by decide) (fun c37 => ?_) (fun c37 => absurd c37 (by rw [(show y = 0 from c9)]; decide))
          refine g_aload_n hE dX5_set_133 1 rfl ?_
          refine g_get hE fl_X5_13 dX5_set_134 0 rfl rfl ?_
          refine g_iload_n hE dX5_set_137 2 rfl ?_
          refine g_iald_n hE dX5_set_138 2 rfl (show x = nI gn from hgn) (by omega) ?_
          refine g_iast_n hE dX5_set_139 2 rfl (show x = nI gn from hgn) (by omega) (modelW cI a (pA (pA q 0 (upd (q 0) gn z)) 1 (upd (q 1) gn ((q 1) gn)))) rfl ?_
          refine g_aload_n hE dX5_set_140 1 rfl ?_
          refine g_get hE fl_X5_16 dX5_set_141 0 rfl rfl ?_
          refine g_iload_n hE dX5_set_144 2 rfl ?_
          refine g_iload_n hE dX5_set_145 3 rfl ?_
          refine g_iconst hE dX5_set_146 2 (by decide) ?_
          refine g_icmp_ne hE 154 dX5_set_147 (by decide) (fun c38 => ?_) (fun c38 => absurd c38 (by rw [(show y = 0 from c9)]; decide))
          refine g_aload_n hE dX5_set_154 1 rfl ?_
          refine g_get hE fl_X5_16 dX5_set_155 0 rfl rfl ?_
          refine g_iload_n hE dX5_set_158 2 rfl ?_
          refine g_iald_n hE dX5_set_159 3 rfl (show x = nI gn from hgn) (by omega) ?_
          refine g_iast_n hE dX5_set_160 3 rfl (show x = nI gn from hgn) (by omega) (modelW cI a (pA (pA (pA q 0 (upd (q 0) gn z)) 1 (upd (q 1) gn ((q 1) gn))) 2 (upd (q 2) gn ((q 2) gn)))) rfl ?_
          refine g_iload hE dX5_set_161 0 rfl ?_
          exact g_iret hE hQ dX5_set_163 rfl (((q 0) gn), (pA (pA (pA q 0 (upd (q 0) gn z)) 1 (upd (q 1) gn ((q 1) gn))) 2 (upd (q 2) gn ((q 2) gn)))) rfl rfl ⟨(by simp only [fgSet, hc0, hc1, hc2, if_pos c3, if_pos (show y = 0 from c9), if_pos c33, if_pos trivial]; rw [show x = nI gn from hgn, atv_n (by omega) (by decide)]; exact (hTQ.1 gn hgnl).1), (by simp only [fgSet, hc0, hc1, hc2, if_pos c3, if_pos (show y = 0 from c9), if_pos c33, if_pos trivial]; rw [show x = nI gn from hgn, putv_n (by omega) (by decide)]; exact RQ_set0 hRQ hgnl c33 rfl (upd_self _ _) (upd_self _ _) rfl rfl rfl), ⟨rfl, rfl, rfl, rfl, rfl, rfl, rfl⟩⟩
        · rw [if_neg c33] at h32
          subst h32
          show Go E Q 5 0 0 33 [(0, .ref (a 0)), (1, .int x), (2, .int y), (3, .int z)] [.int 0] (modelW cI a q)
          refine g_if_eq hE 62 dX5_set_33 (by decide) (fun c39 => ?_) (fun c39 => absurd (by decide) c39)
          refine g_iconst hE dX5_set_62 (-1) (by decide) ?_
          exact g_iret hE hQ dX5_set_63 rfl ((-1), q) rfl rfl ⟨(by simp only [fgSet, hc0, hc1, hc2, if_pos c3, if_pos (show y = 0 from c9), if_neg c33, if_pos trivial]), (by simp only [fgSet, hc0, hc1, hc2, if_pos c3, if_pos (show y = 0 from c9), if_neg c33, if_pos trivial]; exact hRQ), ⟨rfl, rfl, rfl, rfl, rfl, rfl, rfl⟩⟩
    · rw [if_neg c7] at h6
      subst h6
      show Go E Q 5 0 0 17 [(0, .ref (a 0)), (1, .int x), (2, .int y), (3, .int z)] [.int 0] (modelW cI a q)
      refine g_if_eq hE 62 dX5_set_17 (by decide) (fun c40 => ?_) (fun c40 => absurd (by decide) c40)
      refine g_iconst hE dX5_set_62 (-1) (by decide) ?_
      exact g_iret hE hQ dX5_set_63 rfl ((-1), q) rfl rfl ⟨(by simp only [fgSet, hc0, hc1, hc2, if_pos c3, if_neg (show ¬ y = 0 from fun e => c7 (by rw [e]; decide)), if_neg (show ¬ y = 1 from fun e => c7 (by rw [e]; decide)), if_neg (show ¬ y = 2 from fun e => c7 (by rw [e]; decide)), if_pos trivial]), (by simp only [fgSet, hc0, hc1, hc2, if_pos c3, if_neg (show ¬ y = 0 from fun e => c7 (by rw [e]; decide)), if_neg (show ¬ y = 1 from fun e => c7 (by rw [e]; decide)), if_neg (show ¬ y = 2 from fun e => c7 (by rw [e]; decide)), if_pos trivial]; exact hRQ), ⟨rfl, rfl, rfl, rfl, rfl, rfl, rfl⟩⟩
  · rw [if_neg c3] at h2
    subst h2
    show Go E Q 5 0 0 5 [(0, .ref (a 0)), (1, .int x), (2, .int y), (3, .int z)] [.int 0] (modelW cI a q)
    refine g_if_eq hE 62 dX5_set_5 (by decide) (fun c41 => ?_) (fun c41 => absurd (by decide) c41)
    refine g_iconst hE dX5_set_62 (-1) (by decide) ?_
    exact g_iret hE hQ dX5_set_63 rfl ((-1), q) rfl rfl ⟨(by simp only [fgSet, hc0, hc1, hc2, if_neg c3, if_pos trivial]), (by simp only [fgSet, hc0, hc1, hc2, if_neg c3, if_pos trivial]; exact hRQ), ⟨rfl, rfl, rfl, rfl, rfl, rfl, rfl⟩⟩
set_option maxHeartbeats 4000000 in
set_option maxRecDepth 100000 in
theorem c_X5_addSieve (cI cS : ClassId) (a : Nat → Nat) (q : Nat → Nat → Int32) {sv : Nat} (hsv : q 18 1 = nI sv) (hsv8 : sv < 8) (x y z t : Int32) : CT cI cS yX5_addSieve cX5_addSieve 5 none 0 [.ref (a 0), .int x, .int y, .int z, .int t] (modelW cI a q) 0 0 (fun u : Unit => True) (fun u => none) (fun u => (modelW cI a (pA (pA q 3 (upd (upd (upd (upd (q 3) (4 * sv) x) (4 * sv + 1) y) (4 * sv + 2) z) (4 * sv + 3) t)) 18 (upd (q 18) 1 (nI (sv + 1)))))) := by
  refine ct_intro (by decide) (Nat.le_of_ble_eq_true rfl) (fun E Q hE hQ hI => ?_)
  have hE : CxOk E cI cS RX5 cX5_addSieve 5 none 0 0 0 := hE
  show Go E Q 5 0 0 0 [(0, .ref (a 0)), (1, .int x), (2, .int y), (3, .int z), (4, .int t)] [] (modelW cI a q)
  refine g_aload_n hE dX5_addSieve_0 0 rfl ?_
  refine g_get hE fl_X5_19 dX5_addSieve_1 0 rfl rfl ?_
  refine g_iconst hE dX5_addSieve_4 4 (by decide) ?_
  refine g_aload_n hE dX5_addSieve_5 0 rfl ?_
  refine g_get hE fl_X5_72 dX5_addSieve_6 0 rfl rfl ?_
  refine g_imul_n hE dX5_addSieve_9 (show 4 = nI 4 from rfl) (show (q 18 1) = nI sv from hsv) ?_
  refine g_iload_n hE dX5_addSieve_10 1 rfl ?_
  refine g_iast_n hE dX5_addSieve_11 4 rfl (show (nI (4 * sv)) = nI (4 * sv) from rfl) (by omega) (modelW cI a (pA q 3 (upd (q 3) (4 * sv) x))) rfl ?_
  refine g_aload_n hE dX5_addSieve_12 0 rfl ?_
  refine g_get hE fl_X5_19 dX5_addSieve_13 0 rfl rfl ?_
  refine g_iconst hE dX5_addSieve_16 4 (by decide) ?_
  refine g_aload_n hE dX5_addSieve_17 0 rfl ?_
  refine g_get hE fl_X5_72 dX5_addSieve_18 0 rfl rfl ?_
  refine g_imul_n hE dX5_addSieve_21 (show 4 = nI 4 from rfl) (show (q 18 1) = nI sv from hsv) ?_
  refine g_iconst hE dX5_addSieve_22 1 (by decide) ?_
  refine g_iadd_n hE dX5_addSieve_23 (show (nI (4 * sv)) = nI (4 * sv) from rfl) (show 1 = nI 1 from rfl) ?_
  refine g_iload_n hE dX5_addSieve_24 2 rfl ?_
  refine g_iast_n hE dX5_addSieve_25 4 rfl (show (nI ((4 * sv) + 1)) = nI ((4 * sv) + 1) from rfl) (by omega) (modelW cI a (pA (pA q 3 (upd (q 3) (4 * sv) x)) 3 (upd (upd (q 3) (4 * sv) x) ((4 * sv) + 1) y))) rfl ?_
  refine g_aload_n hE dX5_addSieve_26 0 rfl ?_
  refine g_get hE fl_X5_19 dX5_addSieve_27 0 rfl rfl ?_
  refine g_iconst hE dX5_addSieve_30 4 (by decide) ?_
  refine g_aload_n hE dX5_addSieve_31 0 rfl ?_
  refine g_get hE fl_X5_72 dX5_addSieve_32 0 rfl rfl ?_
  refine g_imul_n hE dX5_addSieve_35 (show 4 = nI 4 from rfl) (show (q 18 1) = nI sv from hsv) ?_
  refine g_iconst hE dX5_addSieve_36 2 (by decide) ?_
  refine g_iadd_n hE dX5_addSieve_37 (show (nI (4 * sv)) = nI (4 * sv) from rfl) (show 2 = nI 2 from rfl) ?_
  refine g_iload_n hE dX5_addSieve_38 3 rfl ?_
  refine g_iast_n hE dX5_addSieve_39 4 rfl (show (nI ((4 * sv) + 2)) = nI ((4 * sv) + 2) from rfl) (by omega) (modelW cI a (pA (pA (pA q 3 (upd (q 3) (4 * sv) x)) 3 (upd (upd (q 3) (4 * sv) x) ((4 * sv) + 1) y)) 3 (upd (upd (upd (q 3) (4 * sv) x) ((4 * sv) + 1) y) ((4 * sv) + 2) z))) rfl ?_
  refine g_aload_n hE dX5_addSieve_40 0 rfl ?_
  refine g_get hE fl_X5_19 dX5_addSieve_41 0 rfl rfl ?_
  refine g_iconst hE dX5_addSieve_44 4 (by decide) ?_
  refine g_aload_n hE dX5_addSieve_45 0 rfl ?_
  refine g_get hE fl_X5_72 dX5_addSieve_46 0 rfl rfl ?_
  refine g_imul_n hE dX5_addSieve_49 (show 4 = nI 4 from rfl) (show (q 18 1) = nI sv from hsv) ?_
  refine g_iconst hE dX5_addSieve_50 3 (by decide) ?_
  refine g_iadd_n hE dX5_addSieve_51 (show (nI (4 * sv)) = nI (4 * sv) from rfl) (show 3 = nI 3 from rfl) ?_
  refine g_iload hE dX5_addSieve_52 4 rfl ?_
  refine g_iast_n hE dX5_addSieve_54 4 rfl (show (nI ((4 * sv) + 3)) = nI ((4 * sv) + 3) from rfl) (by omega) (modelW cI a (pA (pA (pA (pA q 3 (upd (q 3) (4 * sv) x)) 3 (upd (upd (q 3) (4 * sv) x) ((4 * sv) + 1) y)) 3 (upd (upd (upd (q 3) (4 * sv) x) ((4 * sv) + 1) y) ((4 * sv) + 2) z)) 3 (upd (upd (upd (upd (q 3) (4 * sv) x) ((4 * sv) + 1) y) ((4 * sv) + 2) z) ((4 * sv) + 3) t))) rfl ?_
  refine g_aload_n hE dX5_addSieve_55 0 rfl ?_
  refine g_dup hE dX5_addSieve_56 rfl ?_
  refine g_get hE fl_X5_72 dX5_addSieve_57 0 rfl rfl ?_
  refine g_iconst hE dX5_addSieve_60 1 (by decide) ?_
  refine g_iadd_n hE dX5_addSieve_61 hsv (show 1 = nI 1 from rfl) ?_
  refine g_put hE fl_X5_72 fp_5_5 dX5_addSieve_62 0 rfl rfl rfl (Nat.le_of_ble_eq_true rfl) (modelW cI a (pA (pA (pA (pA (pA q 3 (upd (q 3) (4 * sv) x)) 3 (upd (upd (q 3) (4 * sv) x) ((4 * sv) + 1) y)) 3 (upd (upd (upd (q 3) (4 * sv) x) ((4 * sv) + 1) y) ((4 * sv) + 2) z)) 3 (upd (upd (upd (upd (q 3) (4 * sv) x) ((4 * sv) + 1) y) ((4 * sv) + 2) z) ((4 * sv) + 3) t)) 18 (upd (q 18) 1 (nI (sv + 1))))) (by rfl) ?_
  exact g_vret hE hQ dX5_addSieve_65 () rfl rfl trivial
set_option maxHeartbeats 4000000 in
set_option maxRecDepth 100000 in
theorem c_X5_sieve (cI cS : ClassId) (a : Nat → Nat) (q : Nat → Nat → Int32) {n sv pl : Nat} (m : MS) (hRQ : RQ q m n sv pl) (x y z t : Int32) : CT cI cS yX5_sieve cX5_sieve 5 (some .int) 2 [.ref (a 0), .int x, .int y, .int z, .int t] (modelW cI a q) 0 0 (fun u : Int32 × (Nat → Nat → Int32) => u.1 = (fgSieve m sv x y z t).1 ∧ (∃ k, RQ u.2 (fgSieve m sv x y z t).2 n k pl) ∧ OF u.2 q) (fun u => some (.int u.1)) (fun u => (modelW cI a u.2)) := by
  refine ct_intro (by decide) (Nat.le_of_ble_eq_true rfl) (fun E Q hE hQ hI => ?_)
  have hE : CxOk E cI cS RX5 cX5_sieve 5 (some .int) 2 0 0 := hE
  show Go E Q 5 0 0 0 [(0, .ref (a 0)), (1, .int x), (2, .int y), (3, .int z), (4, .int t)] [] (modelW cI a q)
  have hM := hRQ.1
  have hTQ := hRQ.2.1
  have hRG := hRQ.2.2
  have hgr := hTQ.2.2.2.1
  have hsv := hTQ.2.2.2.2.1
  have hpl := hTQ.2.2.2.2.2.1
  have hn6 := hM.2.1
  have hsv8 := hM.2.2.2.1
  have hpl6 := hM.2.2.2.2.2
  have hc0 : m 9 0 = q 18 0 := hM.1.trans hgr.symm
  have hc1 : m 9 1 = q 18 1 := hM.2.2.1.trans hsv.symm
  have hc2 : m 9 2 = q 18 2 := hM.2.2.2.2.1.trans hpl.symm
  refine g_iload_n hE dX5_sieve_0 1 rfl ?_
  refine g_i2l hE dX5_sieve_1 ?_
  refine g_lconst hE dX5_sieve_2 0 (by decide) ?_
  refine g_ldc2 hE dX5_sieve_3 cl_X5_91 ?_
  refine g_callS hE (c_X5_in cI cS (Int32.toInt64 x) 0 3) mk_X5_in st_X5_in ml_X5_68 dX5_sieve_6 (As := [.long (Int32.toInt64 x), .long 0, .long 3]) (rest := []) rfl rfl (by decide) (by decide) (Nat.le_of_ble_eq_true rfl) (by decide) (by decide) [] rfl (by decide) (fun u => Nat.le_of_ble_eq_true rfl) (ws' := fun u => modelW cI a q) (fun u => rfl) (fun u hu => ?_)
  obtain ⟨r_1, rfl⟩ : ∃ z, z = u := ⟨_, rfl⟩
  have h2 : r_1 = if 0 ≤ x ∧ x ≤ 3 then 1 else 0 := (in_i (x := x) (lo := 0) (hi := 3) rfl rfl hu)
  by_cases c3 : 0 ≤ x ∧ x ≤ 3
  · rw [if_pos c3] at h2
    subst h2
    show Go E Q 5 0 0 9 [(0, .ref (a 0)), (1, .int x), (2, .int y), (3, .int z), (4, .int t)] [.int 1] (modelW cI a q)
    refine g_if_eq hE 49 dX5_sieve_9 (by decide) (fun c4 => absurd c4 (by decide)) (fun c4 => ?_)
    refine g_iload_n hE dX5_sieve_12 2 rfl ?_
    refine g_i2l hE dX5_sieve_13 ?_
    refine g_lconst hE dX5_sieve_14 1 (by decide) ?_
    refine g_ldc2 hE dX5_sieve_15 cl_X5_75 ?_
    refine g_callS hE (c_X5_in cI cS (Int32.toInt64 y) 1 60) mk_X5_in st_X5_in ml_X5_68 dX5_sieve_18 (As := [.long (Int32.toInt64 y), .long 1, .long 60]) (rest := []) rfl rfl (by decide) (by decide) (Nat.le_of_ble_eq_true rfl) (by decide) (by decide) [] rfl (by decide) (fun u => Nat.le_of_ble_eq_true rfl) (ws' := fun u => modelW cI a q) (fun u => rfl) (fun u hu => ?_)
    obtain ⟨r_5, rfl⟩ : ∃ z, z = u := ⟨_, rfl⟩
    have h6 : r_5 = if 1 ≤ y ∧ y ≤ 60 then 1 else 0 := (in_i (x := y) (lo := 1) (hi := 60) rfl rfl hu)
    by_cases c7 : 1 ≤ y ∧ y ≤ 60
    · rw [if_pos c7] at h6
      subst h6
      show Go E Q 5 0 0 21 [(0, .ref (a 0)), (1, .int x), (2, .int y), (3, .int z), (4, .int t)] [.int 1] (modelW cI a q)
      refine g_if_eq hE 49 dX5_sieve_21 (by decide) (fun c8 => absurd c8 (by decide)) (fun c8 => ?_)
      refine g_iload_n hE dX5_sieve_24 3 rfl ?_
      refine g_i2l hE dX5_sieve_25 ?_
      refine g_lconst hE dX5_sieve_26 1 (by decide) ?_
      refine g_ldc2 hE dX5_sieve_27 cl_X5_93 ?_
      refine g_callS hE (c_X5_in cI cS (Int32.toInt64 z) 1 99999) mk_X5_in st_X5_in ml_X5_68 dX5_sieve_30 (As := [.long (Int32.toInt64 z), .long 1, .long 99999]) (rest := []) rfl rfl (by decide) (by decide) (Nat.le_of_ble_eq_true rfl) (by decide) (by decide) [] rfl (by decide) (fun u => Nat.le_of_ble_eq_true rfl) (ws' := fun u => modelW cI a q) (fun u => rfl) (fun u hu => ?_)
      obtain ⟨r_9, rfl⟩ : ∃ z, z = u := ⟨_, rfl⟩
      have h10 : r_9 = if 1 ≤ z ∧ z ≤ 99999 then 1 else 0 := (in_i (x := z) (lo := 1) (hi := 99999) rfl rfl hu)
      by_cases c11 : 1 ≤ z ∧ z ≤ 99999
      · rw [if_pos c11] at h10
        subst h10
        show Go E Q 5 0 0 33 [(0, .ref (a 0)), (1, .int x), (2, .int y), (3, .int z), (4, .int t)] [.int 1] (modelW cI a q)
        refine g_if_eq hE 49 dX5_sieve_33 (by decide) (fun c12 => absurd c12 (by decide)) (fun c12 => ?_)
        refine g_iload hE dX5_sieve_36 4 rfl ?_
        refine g_i2l hE dX5_sieve_38 ?_
        refine g_lconst hE dX5_sieve_39 0 (by decide) ?_
        refine g_ldc2 hE dX5_sieve_40 cl_X5_91 ?_
        refine g_callS hE (c_X5_in cI cS (Int32.toInt64 t) 0 3) mk_X5_in st_X5_in ml_X5_68 dX5_sieve_43 (As := [.long (Int32.toInt64 t), .long 0, .long 3]) (rest := []) rfl rfl (by decide) (by decide) (Nat.le_of_ble_eq_true rfl) (by decide) (by decide) [] rfl (by decide) (fun u => Nat.le_of_ble_eq_true rfl) (ws' := fun u => modelW cI a q) (fun u => rfl) (fun u hu => ?_)
        obtain ⟨r_13, rfl⟩ : ∃ z, z = u := ⟨_, rfl⟩
        have h14 : r_13 = if 0 ≤ t ∧ t ≤ 3 then 1 else 0 := (in_i (x := t) (lo := 0) (hi := 3) rfl rfl hu)
        by_cases c15 : 0 ≤ t ∧ t ≤ 3
        · rw [if_pos c15] at h14
          subst h14
          show Go E Q 5 0 0 46 [(0, .ref (a 0)), (1, .int x), (2, .int y), (3, .int z), (4, .int t)] [.int 1] (modelW cI a q)
          refine g_if_ne hE 51 dX5_sieve_46 (by decide) (fun c16 => ?_) (fun c16 => absurd c16 (by decide))
          refine g_aload_n hE dX5_sieve_51 0 rfl ?_
          refine g_get hE fl_X5_72 dX5_sieve_52 0 rfl rfl ?_
          refine g_bipush hE dX5_sieve_55 8 (by decide) ?_
          refine g_icmp_ne hE 63 dX5_sieve_57 (by decide) (fun c17 => ?_) (fun c17 => ?_)
          · have kc17 := nat_eq_f (show (q 18 1) = nI sv from hsv) (show 8 = nI 8 from rfl) (by omega) (by omega) c17
            refine g_aload_n hE dX5_sieve_63 0 rfl ?_
            refine g_iload_n hE dX5_sieve_64 1 rfl ?_
            refine g_iload_n hE dX5_sieve_65 2 rfl ?_
            refine g_iload_n hE dX5_sieve_66 3 rfl ?_
            refine g_iload hE dX5_sieve_67 4 rfl ?_
            refine g_callV hE (c_X5_addSieve cI cS a q hsv (by omega) x y z t) mk_X5_addSieve mv_X5_addSieve ml_X5_95 dX5_sieve_69 (As := [.int x, .int y, .int z, .int t]) (rest := []) rfl rfl 0 rfl (show vwCl[5]? = some (RX5, TX5, 32) from rfl) (by decide) (by decide) (Nat.le_of_ble_eq_true rfl) (by decide) (by decide) [0, 1, 2, 3, 4, 5, 6, 7, 8, 9, 10, 11, 12, 13, 14, 15, 16, 17, 18] rfl (by decide) (fun u => Nat.le_of_ble_eq_true rfl) (ws' := fun u => modelW cI a (pA (pA q 3 (upd (upd (upd (upd (q 3) (4 * sv) x) (4 * sv + 1) y) (4 * sv + 2) z) (4 * sv + 3) t)) 18 (upd (q 18) 1 (nI (sv + 1))))) (fun u => rfl) (fun u hu => ?_)
            show Go E Q 5 0 0 72 [(0, .ref (a 0)), (1, .int x), (2, .int y), (3, .int z), (4, .int t)] [] (modelW cI a (pA (pA q 3 (upd (upd (upd (upd (q 3) (4 * sv) x) (4 * sv + 1) y) (4 * sv + 2) z) (4 * sv + 3) t)) 18 (upd (q 18) 1 (nI (sv + 1)))))
            refine g_aload_n hE dX5_sieve_72 0 rfl ?_
            refine g_get hE fl_X5_72 dX5_sieve_73 0 rfl rfl ?_
            refine g_iconst hE dX5_sieve_76 1 (by decide) ?_
            refine g_isub_n hE dX5_sieve_77 (show (nI (sv + 1)) = nI (sv + 1) from rfl) (show 1 = nI 1 from rfl) (by omega) ?_
            exact g_iret hE hQ dX5_sieve_78 rfl ((nI ((sv + 1) - 1)), (pA (pA q 3 (upd (upd (upd (upd (q 3) (4 * sv) x) (4 * sv + 1) y) (4 * sv + 2) z) (4 * sv + 3) t)) 18 (upd (q 18) 1 (nI (sv + 1))))) rfl rfl ⟨(by simp only [fgSieve, hc0, hc1, hc2, if_pos c3, if_pos c7, if_pos c11, if_pos c15, if_pos (show (q 18 1) < 8 by rw [hsv]; exact (nI_ltI (b := 8) (by omega) (by decide)).mpr (by omega)), if_pos trivial]; exact congrArg nI (Nat.add_sub_cancel sv 1)), ⟨sv + 1, (by simp only [fgSieve, hc0, hc1, hc2, if_pos c3, if_pos c7, if_pos c11, if_pos c15, if_pos (show (q 18 1) < 8 by rw [hsv]; exact (nI_ltI (b := 8) (by omega) (by decide)).mpr (by omega)), if_pos trivial]; exact RQ_addV hRQ (by omega) c3 c7 c11 c15 rfl rfl rfl rfl rfl rfl rfl rfl rfl)⟩, ⟨rfl, rfl, rfl, rfl, rfl, rfl, rfl⟩⟩
          · have kc17 := nat_eq_t (show (q 18 1) = nI sv from hsv) (show 8 = nI 8 from rfl) (by omega) (by omega) c17
            refine g_bipush hE dX5_sieve_60 (-3) (by decide) ?_
            exact g_iret hE hQ dX5_sieve_62 rfl ((-3), q) rfl rfl ⟨(by simp only [fgSieve, hc0, hc1, hc2, if_pos c3, if_pos c7, if_pos c11, if_pos c15, if_neg (show ¬ (q 18 1) < 8 by rw [(show (q 18 1) = 8 from c17)]; decide), if_pos trivial]), ⟨sv, (by simp only [fgSieve, hc0, hc1, hc2, if_pos c3, if_pos c7, if_pos c11, if_pos c15, if_neg (show ¬ (q 18 1) < 8 by rw [(show (q 18 1) = 8 from c17)]; decide), if_pos trivial]; exact hRQ)⟩, ⟨rfl, rfl, rfl, rfl, rfl, rfl, rfl⟩⟩
        · rw [if_neg c15] at h14
          subst h14
          show Go E Q 5 0 0 46 [(0, .ref (a 0)), (1, .int x), (2, .int y), (3, .int z), (4, .int t)] [.int 0] (modelW cI a q)
          refine g_if_ne hE 51 dX5_sieve_46 (by decide) (fun c19 => absurd (by decide) c19) (fun c19 => ?_)
          refine g_iconst hE dX5_sieve_49 (-1) (by decide) ?_
          exact g_iret hE hQ dX5_sieve_50 rfl ((-1), q) rfl rfl ⟨(by simp only [fgSieve, hc0, hc1, hc2, if_pos c3, if_pos c7, if_pos c11, if_neg c15, if_pos trivial]), ⟨sv, (by simp only [fgSieve, hc0, hc1, hc2, if_pos c3, if_pos c7, if_pos c11, if_neg c15, if_pos trivial]; exact hRQ)⟩, ⟨rfl, rfl, rfl, rfl, rfl, rfl, rfl⟩⟩
      · rw [if_neg c11] at h10
        subst h10
        show Go E Q 5 0 0 33 [(0, .ref (a 0)), (1, .int x), (2, .int y), (3, .int z), (4, .int t)] [.int 0] (modelW cI a q)
        refine g_if_eq hE 49 dX5_sieve_33 (by decide) (fun c20 => ?_) (fun c20 => absurd (by decide) c20)
        refine g_iconst hE dX5_sieve_49 (-1) (by decide) ?_
        exact g_iret hE hQ dX5_sieve_50 rfl ((-1), q) rfl rfl ⟨(by simp only [fgSieve, hc0, hc1, hc2, if_pos c3, if_pos c7, if_neg c11, if_pos trivial]), ⟨sv, (by simp only [fgSieve, hc0, hc1, hc2, if_pos c3, if_pos c7, if_neg c11, if_pos trivial]; exact hRQ)⟩, ⟨rfl, rfl, rfl, rfl, rfl, rfl, rfl⟩⟩
    · rw [if_neg c7] at h6
      subst h6
      show Go E Q 5 0 0 21 [(0, .ref (a 0)), (1, .int x), (2, .int y), (3, .int z), (4, .int t)] [.int 0] (modelW cI a q)
      refine g_if_eq hE 49 dX5_sieve_21 (by decide) (fun c21 => ?_) (fun c21 => absurd (by decide) c21)
      refine g_iconst hE dX5_sieve_49 (-1) (by decide) ?_
      exact g_iret hE hQ dX5_sieve_50 rfl ((-1), q) rfl rfl ⟨(by simp only [fgSieve, hc0, hc1, hc2, if_pos c3, if_neg c7, if_pos trivial]), ⟨sv, (by simp only [fgSieve, hc0, hc1, hc2, if_pos c3, if_neg c7, if_pos trivial]; exact hRQ)⟩, ⟨rfl, rfl, rfl, rfl, rfl, rfl, rfl⟩⟩
  · rw [if_neg c3] at h2
    subst h2
    show Go E Q 5 0 0 9 [(0, .ref (a 0)), (1, .int x), (2, .int y), (3, .int z), (4, .int t)] [.int 0] (modelW cI a q)
    refine g_if_eq hE 49 dX5_sieve_9 (by decide) (fun c22 => ?_) (fun c22 => absurd (by decide) c22)
    refine g_iconst hE dX5_sieve_49 (-1) (by decide) ?_
    exact g_iret hE hQ dX5_sieve_50 rfl ((-1), q) rfl rfl ⟨(by simp only [fgSieve, hc0, hc1, hc2, if_neg c3, if_pos trivial]), ⟨sv, (by simp only [fgSieve, hc0, hc1, hc2, if_neg c3, if_pos trivial]; exact hRQ)⟩, ⟨rfl, rfl, rfl, rfl, rfl, rfl, rfl⟩⟩
set_option maxHeartbeats 4000000 in
set_option maxRecDepth 100000 in
theorem c_X5_told (cI cS : ClassId) (a : Nat → Nat) (q : Nat → Nat → Int32) {n sv pl : Nat} (m : MS) (hRQ : RQ q m n sv pl) (x y : Int32) : CT cI cS yX5_told cX5_told 3 (some .int) 2 [.ref (a 0), .int x, .int y] (modelW cI a q) 0 0 (fun u : Int32 × (Nat → Nat → Int32) => u.1 = fTold m x y ∧ TF u.2 q ∧ OF u.2 q) (fun u => some (.int u.1)) (fun u => (modelW cI a u.2)) := by
  refine ct_intro (by decide) (Nat.le_of_ble_eq_true rfl) (fun E Q hE hQ hI => ?_)
  have hE : CxOk E cI cS RX5 cX5_told 3 (some .int) 2 0 0 := hE
  show Go E Q 3 0 0 0 [(0, .ref (a 0)), (1, .int x), (2, .int y)] [] (modelW cI a q)
  have hM := hRQ.1
  have hTQ := hRQ.2.1
  have hRG := hRQ.2.2
  have hgr := hTQ.2.2.2.1
  have hsv := hTQ.2.2.2.2.1
  have hpl := hTQ.2.2.2.2.2.1
  have hn6 := hM.2.1
  have hsv8 := hM.2.2.2.1
  have hpl6 := hM.2.2.2.2.2
  have hc0 : m 9 0 = q 18 0 := hM.1.trans hgr.symm
  have hc1 : m 9 1 = q 18 1 := hM.2.2.1.trans hsv.symm
  have hc2 : m 9 2 = q 18 2 := hM.2.2.2.2.1.trans hpl.symm
  refine g_aload_n hE dX5_told_0 0 rfl ?_
  refine g_iload_n hE dX5_told_1 1 rfl ?_
  refine g_callV hE (c_X5_isSieve cI cS a q hsv hsv8 x) mk_X5_isSieve mv_X5_isSieve ml_X5_99 dX5_told_2 (As := [.int x]) (rest := []) rfl rfl 0 rfl (show vwCl[5]? = some (RX5, TX5, 32) from rfl) (by decide) (by decide) (Nat.le_of_ble_eq_true rfl) (by decide) (by decide) [0, 1, 2, 3, 4, 5, 6, 7, 8, 9, 10, 11, 12, 13, 14, 15, 16, 17, 18] rfl (by decide) (fun u => Nat.le_of_ble_eq_true rfl) (ws' := fun u => modelW cI a q) (fun u => rfl) (fun u hu => ?_)
  obtain ⟨r_1, rfl⟩ : ∃ z, z = u := ⟨_, rfl⟩
  have h2 : r_1 = if 0 ≤ x ∧ x < (q 18 1) then 1 else 0 := hu
  by_cases c3 : 0 ≤ x ∧ x < (q 18 1)
  · rw [if_pos c3] at h2
    subst h2
    show Go E Q 3 0 0 5 [(0, .ref (a 0)), (1, .int x), (2, .int y)] [.int 1] (modelW cI a q)
    refine g_if_eq hE 33 dX5_told_5 (by decide) (fun c4 => absurd c4 (by decide)) (fun c4 => ?_)
    refine g_iload_n hE dX5_told_8 2 rfl ?_
    refine g_i2l hE dX5_told_9 ?_
    refine g_lconst hE dX5_told_10 0 (by decide) ?_
    refine g_ldc2 hE dX5_told_11 cl_X5_91 ?_
    refine g_callS hE (c_X5_in cI cS (Int32.toInt64 y) 0 3) mk_X5_in st_X5_in ml_X5_68 dX5_told_14 (As := [.long (Int32.toInt64 y), .long 0, .long 3]) (rest := []) rfl rfl (by decide) (by decide) (Nat.le_of_ble_eq_true rfl) (by decide) (by decide) [] rfl (by decide) (fun u => Nat.le_of_ble_eq_true rfl) (ws' := fun u => modelW cI a q) (fun u => rfl) (fun u hu => ?_)
    obtain ⟨r_5, rfl⟩ : ∃ z, z = u := ⟨_, rfl⟩
    have h6 : r_5 = if 0 ≤ y ∧ y ≤ 3 then 1 else 0 := (in_i (x := y) (lo := 0) (hi := 3) rfl rfl hu)
    by_cases c7 : 0 ≤ y ∧ y ≤ 3
    · rw [if_pos c7] at h6
      subst h6
      show Go E Q 3 0 0 17 [(0, .ref (a 0)), (1, .int x), (2, .int y)] [.int 1] (modelW cI a q)
      refine g_if_eq hE 33 dX5_told_17 (by decide) (fun c8 => absurd c8 (by decide)) (fun c8 => ?_)
      obtain ⟨sn, hsnl, hsn, hsnc⟩ := nat_of_lt c3 hsv (by omega)
      obtain ⟨yj, _, hyj, hyjn⟩ := rng_n (a := 0) (b := 3) c7.1 c7.2 rfl rfl (by decide) (by decide)
      refine g_aload_n hE dX5_told_20 0 rfl ?_
      refine g_get hE fl_X5_19 dX5_told_21 0 rfl rfl ?_
      refine g_iconst hE dX5_told_24 4 (by decide) ?_
      refine g_iload_n hE dX5_told_25 1 rfl ?_
      refine g_imul_n hE dX5_told_26 (show 4 = nI 4 from rfl) (show x = nI sn from hsn) ?_
      refine g_iload_n hE dX5_told_27 2 rfl ?_
      refine g_iadd_n hE dX5_told_28 (show (nI (4 * sn)) = nI (4 * sn) from rfl) (show y = nI yj from hyjn) ?_
      refine g_iald_n hE dX5_told_29 4 rfl (show (nI ((4 * sn) + yj)) = nI ((4 * sn) + yj) from rfl) (by omega) ?_
      refine g_goto hE 34 dX5_told_30 (by decide) ?_
      exact g_iret hE hQ dX5_told_34 rfl (((q 3) ((4 * sn) + yj)), q) rfl rfl ⟨(by rw [fTold, hc1, if_pos c3]; exact told_l hTQ hsnl hsv8 hsn hyj hyjn), ⟨⟨rfl, rfl, rfl, rfl, rfl, rfl, rfl, rfl, rfl⟩, ⟨rfl, rfl, rfl, rfl, rfl, rfl, rfl⟩⟩⟩
    · rw [if_neg c7] at h6
      subst h6
      show Go E Q 3 0 0 17 [(0, .ref (a 0)), (1, .int x), (2, .int y)] [.int 0] (modelW cI a q)
      refine g_if_eq hE 33 dX5_told_17 (by decide) (fun c9 => ?_) (fun c9 => absurd (by decide) c9)
      refine g_iconst hE dX5_told_33 (-1) (by decide) ?_
      exact g_iret hE hQ dX5_told_34 rfl ((-1), q) rfl rfl ⟨(by simp only [fTold, hc1, if_pos c3, if_neg (show ¬ y = 0 from fun e => c7 (by rw [e]; decide)), if_neg (show ¬ y = 1 from fun e => c7 (by rw [e]; decide)), if_neg (show ¬ y = 2 from fun e => c7 (by rw [e]; decide)), if_neg (show ¬ y = 3 from fun e => c7 (by rw [e]; decide))]), ⟨⟨rfl, rfl, rfl, rfl, rfl, rfl, rfl, rfl, rfl⟩, ⟨rfl, rfl, rfl, rfl, rfl, rfl, rfl⟩⟩⟩
  · rw [if_neg c3] at h2
    subst h2
    show Go E Q 3 0 0 5 [(0, .ref (a 0)), (1, .int x), (2, .int y)] [.int 0] (modelW cI a q)
    refine g_if_eq hE 33 dX5_told_5 (by decide) (fun c10 => ?_) (fun c10 => absurd (by decide) c10)
    refine g_iconst hE dX5_told_33 (-1) (by decide) ?_
    exact g_iret hE hQ dX5_told_34 rfl ((-1), q) rfl rfl ⟨(by simp only [fTold, hc1, if_neg c3]), ⟨⟨rfl, rfl, rfl, rfl, rfl, rfl, rfl, rfl, rfl⟩, ⟨rfl, rfl, rfl, rfl, rfl, rfl, rfl⟩⟩⟩
set_option maxHeartbeats 4000000 in
set_option maxRecDepth 100000 in
theorem c_X5_mend (cI cS : ClassId) (a : Nat → Nat) (q : Nat → Nat → Int32) {n sv pl : Nat} (m : MS) (hRQ : RQ q m n sv pl) (x y : Int32) : CT cI cS yX5_mend cX5_mend 4 (some .int) 2 [.ref (a 0), .int x, .int y] (modelW cI a q) 0 0 (fun u : Int32 × (Nat → Nat → Int32) => u.1 = (fgMend m x y).1 ∧ RQ u.2 (fgMend m x y).2 n sv pl ∧ OF u.2 q) (fun u => some (.int u.1)) (fun u => (modelW cI a u.2)) := by
  refine ct_intro (by decide) (Nat.le_of_ble_eq_true rfl) (fun E Q hE hQ hI => ?_)
  have hE : CxOk E cI cS RX5 cX5_mend 4 (some .int) 2 0 0 := hE
  show Go E Q 4 0 0 0 [(0, .ref (a 0)), (1, .int x), (2, .int y)] [] (modelW cI a q)
  have hM := hRQ.1
  have hTQ := hRQ.2.1
  have hRG := hRQ.2.2
  have hgr := hTQ.2.2.2.1
  have hsv := hTQ.2.2.2.2.1
  have hpl := hTQ.2.2.2.2.2.1
  have hn6 := hM.2.1
  have hsv8 := hM.2.2.2.1
  have hpl6 := hM.2.2.2.2.2
  have hc0 : m 9 0 = q 18 0 := hM.1.trans hgr.symm
  have hc1 : m 9 1 = q 18 1 := hM.2.2.1.trans hsv.symm
  have hc2 : m 9 2 = q 18 2 := hM.2.2.2.2.1.trans hpl.symm
  refine g_aload_n hE dX5_mend_0 0 rfl ?_
  refine g_iload_n hE dX5_mend_1 1 rfl ?_
  refine g_callV hE (c_X5_isSieve cI cS a q hsv hsv8 x) mk_X5_isSieve mv_X5_isSieve ml_X5_99 dX5_mend_2 (As := [.int x]) (rest := []) rfl rfl 0 rfl (show vwCl[5]? = some (RX5, TX5, 32) from rfl) (by decide) (by decide) (Nat.le_of_ble_eq_true rfl) (by decide) (by decide) [0, 1, 2, 3, 4, 5, 6, 7, 8, 9, 10, 11, 12, 13, 14, 15, 16, 17, 18] rfl (by decide) (fun u => Nat.le_of_ble_eq_true rfl) (ws' := fun u => modelW cI a q) (fun u => rfl) (fun u hu => ?_)
  obtain ⟨r_1, rfl⟩ : ∃ z, z = u := ⟨_, rfl⟩
  have h2 : r_1 = if 0 ≤ x ∧ x < (q 18 1) then 1 else 0 := hu
  by_cases c3 : 0 ≤ x ∧ x < (q 18 1)
  · rw [if_pos c3] at h2
    subst h2
    show Go E Q 4 0 0 5 [(0, .ref (a 0)), (1, .int x), (2, .int y)] [.int 1] (modelW cI a q)
    refine g_if_eq hE 20 dX5_mend_5 (by decide) (fun c4 => absurd c4 (by decide)) (fun c4 => ?_)
    refine g_iload_n hE dX5_mend_8 2 rfl ?_
    refine g_i2l hE dX5_mend_9 ?_
    refine g_lconst hE dX5_mend_10 1 (by decide) ?_
    refine g_ldc2 hE dX5_mend_11 cl_X5_75 ?_
    refine g_callS hE (c_X5_in cI cS (Int32.toInt64 y) 1 60) mk_X5_in st_X5_in ml_X5_68 dX5_mend_14 (As := [.long (Int32.toInt64 y), .long 1, .long 60]) (rest := []) rfl rfl (by decide) (by decide) (Nat.le_of_ble_eq_true rfl) (by decide) (by decide) [] rfl (by decide) (fun u => Nat.le_of_ble_eq_true rfl) (ws' := fun u => modelW cI a q) (fun u => rfl) (fun u hu => ?_)
    obtain ⟨r_5, rfl⟩ : ∃ z, z = u := ⟨_, rfl⟩
    have h6 : r_5 = if 1 ≤ y ∧ y ≤ 60 then 1 else 0 := (in_i (x := y) (lo := 1) (hi := 60) rfl rfl hu)
    by_cases c7 : 1 ≤ y ∧ y ≤ 60
    · rw [if_pos c7] at h6
      subst h6
      show Go E Q 4 0 0 17 [(0, .ref (a 0)), (1, .int x), (2, .int y)] [.int 1] (modelW cI a q)
      refine g_if_ne hE 22 dX5_mend_17 (by decide) (fun c8 => ?_) (fun c8 => absurd c8 (by decide))
      obtain ⟨sn, hsnl, hsn, hsnc⟩ := nat_of_lt c3 hsv (by omega)
      refine g_aload_n hE dX5_mend_22 0 rfl ?_
      refine g_get hE fl_X5_19 dX5_mend_23 0 rfl rfl ?_
      refine g_iconst hE dX5_mend_26 4 (by decide) ?_
      refine g_iload_n hE dX5_mend_27 1 rfl ?_
      refine g_imul_n hE dX5_mend_28 (show 4 = nI 4 from rfl) (show x = nI sn from hsn) ?_
      refine g_iald_n hE dX5_mend_29 4 rfl (show (nI (4 * sn)) = nI (4 * sn) from rfl) (by omega) ?_
      refine g_iconst hE dX5_mend_30 3 (by decide) ?_
      refine g_icmp_ne hE 37 dX5_mend_31 (by decide) (fun c9 => ?_) (fun c9 => ?_)
      · refine g_aload_n hE dX5_mend_37 0 rfl ?_
        refine g_get hE fl_X5_19 dX5_mend_38 0 rfl rfl ?_
        refine g_iconst hE dX5_mend_41 4 (by decide) ?_
        refine g_iload_n hE dX5_mend_42 1 rfl ?_
        refine g_imul_n hE dX5_mend_43 (show 4 = nI 4 from rfl) (show x = nI sn from hsn) ?_
        refine g_iconst hE dX5_mend_44 1 (by decide) ?_
        refine g_iadd_n hE dX5_mend_45 (show (nI (4 * sn)) = nI (4 * sn) from rfl) (show 1 = nI 1 from rfl) ?_
        refine g_iald_n hE dX5_mend_46 4 rfl (show (nI ((4 * sn) + 1)) = nI ((4 * sn) + 1) from rfl) (by omega) ?_
        refine g_istore_n hE dX5_mend_47 [(3, .int ((q 3) ((4 * sn) + 1))), (0, .ref (a 0)), (1, .int x), (2, .int y)] rfl (by decide) rfl ?_
        refine g_aload_n hE dX5_mend_48 1 rfl ?_
        refine g_get hE fl_X5_19 dX5_mend_49 0 rfl rfl ?_
        refine g_iconst hE dX5_mend_52 4 (by decide) ?_
        refine g_iload_n hE dX5_mend_53 2 rfl ?_
        refine g_imul_n hE dX5_mend_54 (show 4 = nI 4 from rfl) (show x = nI sn from hsn) ?_
        refine g_iconst hE dX5_mend_55 1 (by decide) ?_
        refine g_iadd_n hE dX5_mend_56 (show (nI (4 * sn)) = nI (4 * sn) from rfl) (show 1 = nI 1 from rfl) ?_
        refine g_iload_n hE dX5_mend_57 3 rfl ?_
        refine g_iast_n hE dX5_mend_58 4 rfl (show (nI ((4 * sn) + 1)) = nI ((4 * sn) + 1) from rfl) (by omega) (modelW cI a (pA q 3 (upd (q 3) ((4 * sn) + 1) y))) rfl ?_
        refine g_iload_n hE dX5_mend_59 0 rfl ?_
        exact g_iret hE hQ dX5_mend_60 rfl (((q 3) ((4 * sn) + 1)), (pA q 3 (upd (q 3) ((4 * sn) + 1) y))) rfl rfl ⟨(by simp only [fgMend, hc0, hc1, hc2, if_pos c3, if_pos c7, if_neg (fun z => (show ¬ ((q 3) (4 * sn)) = 3 from c9) ((show atv (m 3) 8 x = q 3 (4 * sn) by rw [show x = nI sn from hsn, atv_n (by omega) (by decide)]; exact (hTQ.2.1 sn hsnl).1.symm).symm.trans z)), if_pos trivial]; rw [show x = nI sn from hsn, atv_n (by omega) (by decide)]; exact (hTQ.2.1 sn hsnl).2.1), (by simp only [fgMend, hc0, hc1, hc2, if_pos c3, if_pos c7, if_neg (fun z => (show ¬ ((q 3) (4 * sn)) = 3 from c9) ((show atv (m 3) 8 x = q 3 (4 * sn) by rw [show x = nI sn from hsn, atv_n (by omega) (by decide)]; exact (hTQ.2.1 sn hsnl).1.symm).symm.trans z)), if_pos trivial]; rw [show x = nI sn from hsn, putv_n (by omega) (by decide)]; exact RQ_mend hRQ hsnl c7 rfl rfl rfl rfl rfl rfl), ⟨rfl, rfl, rfl, rfl, rfl, rfl, rfl⟩⟩
      · refine g_bipush hE dX5_mend_34 (-2) (by decide) ?_
        exact g_iret hE hQ dX5_mend_36 rfl ((-2), q) rfl rfl ⟨(by simp only [fgMend, hc0, hc1, hc2, if_pos c3, if_pos c7, if_pos ((show atv (m 3) 8 x = q 3 (4 * sn) by rw [show x = nI sn from hsn, atv_n (by omega) (by decide)]; exact (hTQ.2.1 sn hsnl).1.symm).trans (show ((q 3) (4 * sn)) = 3 from c9)), if_pos trivial]), (by simp only [fgMend, hc0, hc1, hc2, if_pos c3, if_pos c7, if_pos ((show atv (m 3) 8 x = q 3 (4 * sn) by rw [show x = nI sn from hsn, atv_n (by omega) (by decide)]; exact (hTQ.2.1 sn hsnl).1.symm).trans (show ((q 3) (4 * sn)) = 3 from c9)), if_pos trivial]; exact hRQ), ⟨rfl, rfl, rfl, rfl, rfl, rfl, rfl⟩⟩
    · rw [if_neg c7] at h6
      subst h6
      show Go E Q 4 0 0 17 [(0, .ref (a 0)), (1, .int x), (2, .int y)] [.int 0] (modelW cI a q)
      refine g_if_ne hE 22 dX5_mend_17 (by decide) (fun c10 => absurd (by decide) c10) (fun c10 => ?_)
      refine g_iconst hE dX5_mend_20 (-1) (by decide) ?_
      exact g_iret hE hQ dX5_mend_21 rfl ((-1), q) rfl rfl ⟨(by simp only [fgMend, hc0, hc1, hc2, if_pos c3, if_neg c7, if_pos trivial]), (by simp only [fgMend, hc0, hc1, hc2, if_pos c3, if_neg c7, if_pos trivial]; exact hRQ), ⟨rfl, rfl, rfl, rfl, rfl, rfl, rfl⟩⟩
  · rw [if_neg c3] at h2
    subst h2
    show Go E Q 4 0 0 5 [(0, .ref (a 0)), (1, .int x), (2, .int y)] [.int 0] (modelW cI a q)
    refine g_if_eq hE 20 dX5_mend_5 (by decide) (fun c11 => ?_) (fun c11 => absurd (by decide) c11)
    refine g_iconst hE dX5_mend_20 (-1) (by decide) ?_
    exact g_iret hE hQ dX5_mend_21 rfl ((-1), q) rfl rfl ⟨(by simp only [fgMend, hc0, hc1, hc2, if_neg c3, if_pos trivial]), (by simp only [fgMend, hc0, hc1, hc2, if_neg c3, if_pos trivial]; exact hRQ), ⟨rfl, rfl, rfl, rfl, rfl, rfl, rfl⟩⟩
set_option maxHeartbeats 4000000 in
set_option maxRecDepth 100000 in
theorem c_X5_count (cI cS : ClassId) (a : Nat → Nat) (q : Nat → Nat → Int32) {n sv pl : Nat} (m : MS) (hRQ : RQ q m n sv pl) (x : Int32) : CT cI cS yX5_count cX5_count 4 (some .int) 1 [.ref (a 0), .int x] (modelW cI a q) 0 0 (fun u : Int32 × (Nat → Nat → Int32) => u.1 = fCount m n x ∧ TF u.2 q ∧ OF u.2 q) (fun u => some (.int u.1)) (fun u => (modelW cI a u.2)) := by
  refine ct_intro (by decide) (Nat.le_of_ble_eq_true rfl) (fun E Q hE hQ hI => ?_)
  have hE : CxOk E cI cS RX5 cX5_count 4 (some .int) 1 0 0 := hE
  show Go E Q 4 0 0 0 [(0, .ref (a 0)), (1, .int x)] [] (modelW cI a q)
  have hM := hRQ.1
  have hTQ := hRQ.2.1
  have hRG := hRQ.2.2
  have hgr := hTQ.2.2.2.1
  have hsv := hTQ.2.2.2.2.1
  have hpl := hTQ.2.2.2.2.2.1
  have hn6 := hM.2.1
  have hsv8 := hM.2.2.2.1
  have hpl6 := hM.2.2.2.2.2
  have hc0 : m 9 0 = q 18 0 := hM.1.trans hgr.symm
  have hc1 : m 9 1 = q 18 1 := hM.2.2.1.trans hsv.symm
  have hc2 : m 9 2 = q 18 2 := hM.2.2.2.2.1.trans hpl.symm
  have hc3 : m 9 3 = q 18 3 := hTQ.2.2.2.2.2.2.symm
  refine g_iconst hE dX5_count_0 0 (by decide) ?_
  refine g_istore_n hE dX5_count_1 [(2, .int 0), (0, .ref (a 0)), (1, .int x)] rfl (by decide) rfl ?_
  refine g_iconst hE dX5_count_2 0 (by decide) ?_
  refine g_istore_n hE dX5_count_3 [(3, .int 0), (2, .int 0), (0, .ref (a 0)), (1, .int x)] rfl (by decide) rfl ?_
  have L4 : ∀ (n_4 : Nat) (g : Nat) (y : Int32), (g ≤ n) → (y = aS (m 1) (ldS m n) g) → (n - g < n_4) → Go E Q 4 0 0 4 [(0, .ref (a 0)), (1, .int x), (2, .int y), (3, .int (nI g))] [] (modelW cI a q) := by
    intro n_4
    induction n_4 with
    | zero => intro g y hg hy hm_4; exact absurd hm_4 (Nat.not_lt_zero _)
    | succ n_4 ih_4 =>
      intro g y hg hy hm_4
      refine g_iload_n hE dX5_count_4 3 rfl ?_
      refine g_aload_n hE dX5_count_5 0 rfl ?_
      refine g_get hE fl_X5_64 dX5_count_6 0 rfl rfl ?_
      refine g_icmp_ge hE 27 dX5_count_9 (by decide) (fun c1 => ?_) (fun c1 => ?_)
      · have kc1 := nat_le_t (show (q 18 0) = nI n from hgr) (show (nI g) = nI g from rfl) (by omega) (by omega) c1
        refine g_iload_n hE dX5_count_27 1 rfl ?_
        refine g_sw hE dX5_count_28 86 (fun j => [64, 69, 74, 79, 84].getD j 0) (by decide) 5 (by decide) (by intro j hj; rcases (show j = 0 ∨ j = 1 ∨ j = 2 ∨ j = 3 ∨ j = 4 by omega) with rfl | rfl | rfl | rfl | rfl <;> exact ⟨_, rfl, by decide⟩) (fun c2 => ?_) (fun j hj c2 => ?_)
        · refine g_iconst hE dX5_count_86 (-1) (by decide) ?_
          exact g_iret hE hQ dX5_count_87 rfl ((-1), q) rfl rfl ⟨(by simp only [fCount, hc0, hc1, hc2, hc3, if_neg (show ¬ x = 0 from by intro zq; rw [zq] at c2; revert c2; decide), if_neg (show ¬ x = 1 from by intro zq; rw [zq] at c2; revert c2; decide), if_neg (show ¬ x = 2 from by intro zq; rw [zq] at c2; revert c2; decide), if_neg (show ¬ x = 3 from by intro zq; rw [zq] at c2; revert c2; decide), if_neg (show ¬ x = 4 from by intro zq; rw [zq] at c2; revert c2; decide), if_pos trivial]), ⟨⟨rfl, rfl, rfl, rfl, rfl, rfl, rfl, rfl, rfl⟩, ⟨rfl, rfl, rfl, rfl, rfl, rfl, rfl⟩⟩⟩
        · rcases (show j = 0 ∨ j = 1 ∨ j = 2 ∨ j = 3 ∨ j = 4 by omega) with rfl | rfl | rfl | rfl | rfl
          · have e3 : x = 0 := Int32.toInt_inj.mp (c2.trans (by decide))
            show Go E Q 4 0 0 64 [(0, .ref (a 0)), (1, .int x), (2, .int y), (3, .int (nI g))] [] (modelW cI a q)
            refine g_aload_n hE dX5_count_64 0 rfl ?_
            refine g_get hE fl_X5_72 dX5_count_65 0 rfl rfl ?_
            exact g_iret hE hQ dX5_count_68 rfl ((q 18 1), q) rfl rfl ⟨(by simp only [fCount, hc0, hc1, hc2, hc3, if_pos e3, if_pos trivial]), ⟨⟨rfl, rfl, rfl, rfl, rfl, rfl, rfl, rfl, rfl⟩, ⟨rfl, rfl, rfl, rfl, rfl, rfl, rfl⟩⟩⟩
          · have e4 : x = 1 := Int32.toInt_inj.mp (c2.trans (by decide))
            show Go E Q 4 0 0 69 [(0, .ref (a 0)), (1, .int x), (2, .int y), (3, .int (nI g))] [] (modelW cI a q)
            refine g_aload_n hE dX5_count_69 0 rfl ?_
            refine g_get hE fl_X5_64 dX5_count_70 0 rfl rfl ?_
            exact g_iret hE hQ dX5_count_73 rfl ((q 18 0), q) rfl rfl ⟨(by simp only [fCount, hc0, hc1, hc2, hc3, if_neg (show ¬ x = 0 by rw [e4]; decide), if_pos e4, if_pos trivial]), ⟨⟨rfl, rfl, rfl, rfl, rfl, rfl, rfl, rfl, rfl⟩, ⟨rfl, rfl, rfl, rfl, rfl, rfl, rfl⟩⟩⟩
          · have e5 : x = 2 := Int32.toInt_inj.mp (c2.trans (by decide))
            show Go E Q 4 0 0 74 [(0, .ref (a 0)), (1, .int x), (2, .int y), (3, .int (nI g))] [] (modelW cI a q)
            refine g_aload_n hE dX5_count_74 0 rfl ?_
            refine g_get hE fl_X5_102 dX5_count_75 0 rfl rfl ?_
            exact g_iret hE hQ dX5_count_78 rfl ((q 18 2), q) rfl rfl ⟨(by simp only [fCount, hc0, hc1, hc2, hc3, if_neg (show ¬ x = 0 by rw [e5]; decide), if_neg (show ¬ x = 1 by rw [e5]; decide), if_pos e5, if_pos trivial]), ⟨⟨rfl, rfl, rfl, rfl, rfl, rfl, rfl, rfl, rfl⟩, ⟨rfl, rfl, rfl, rfl, rfl, rfl, rfl⟩⟩⟩
          · have e6 : x = 3 := Int32.toInt_inj.mp (c2.trans (by decide))
            show Go E Q 4 0 0 79 [(0, .ref (a 0)), (1, .int x), (2, .int y), (3, .int (nI g))] [] (modelW cI a q)
            refine g_aload_n hE dX5_count_79 0 rfl ?_
            refine g_get hE fl_X5_105 dX5_count_80 0 rfl rfl ?_
            exact g_iret hE hQ dX5_count_83 rfl ((q 18 3), q) rfl rfl ⟨(by simp only [fCount, hc0, hc1, hc2, hc3, if_neg (show ¬ x = 0 by rw [e6]; decide), if_neg (show ¬ x = 1 by rw [e6]; decide), if_neg (show ¬ x = 2 by rw [e6]; decide), if_pos e6, if_pos trivial]), ⟨⟨rfl, rfl, rfl, rfl, rfl, rfl, rfl, rfl, rfl⟩, ⟨rfl, rfl, rfl, rfl, rfl, rfl, rfl⟩⟩⟩
          · have e7 : x = 4 := Int32.toInt_inj.mp (c2.trans (by decide))
            show Go E Q 4 0 0 84 [(0, .ref (a 0)), (1, .int x), (2, .int y), (3, .int (nI g))] [] (modelW cI a q)
            refine g_iload_n hE dX5_count_84 2 rfl ?_
            exact g_iret hE hQ dX5_count_85 rfl (y, q) rfl rfl ⟨(by simp only [fCount, hc0, hc1, hc2, hc3, if_neg (show ¬ x = 0 by rw [e7]; decide), if_neg (show ¬ x = 1 by rw [e7]; decide), if_neg (show ¬ x = 2 by rw [e7]; decide), if_neg (show ¬ x = 3 by rw [e7]; decide), if_pos e7, if_pos trivial]; rw [hy, show g = n by omega]), ⟨⟨rfl, rfl, rfl, rfl, rfl, rfl, rfl, rfl, rfl⟩, ⟨rfl, rfl, rfl, rfl, rfl, rfl, rfl⟩⟩⟩
      · have kc1 := nat_le_f (show (q 18 0) = nI n from hgr) (show (nI g) = nI g from rfl) (by omega) (by omega) c1
        refine g_iload_n hE dX5_count_12 2 rfl ?_
        refine g_aload_n hE dX5_count_13 0 rfl ?_
        refine g_get hE fl_X5_13 dX5_count_14 0 rfl rfl ?_
        refine g_iload_n hE dX5_count_17 3 rfl ?_
        refine g_iald_n hE dX5_count_18 2 rfl (show (nI g) = nI g from rfl) (by omega) ?_
        refine g_iadd hE dX5_count_19 ?_
        refine g_istore_n hE dX5_count_20 [(2, .int (y + ((q 1) g))), (0, .ref (a 0)), (1, .int x), (3, .int (nI g))] rfl (by decide) rfl ?_
        refine g_iinc hE dX5_count_21 3 (nI (g + 1)) [(3, .int (nI (g + 1))), (2, .int (y + ((q 1) g))), (0, .ref (a 0)), (1, .int x)] rfl (nI_1 _) (by decide) rfl ?_
        refine g_goto hE 4 dX5_count_24 (by decide) ?_
        refine g_locals [2, 3, 1, 0] [(0, .ref (a 0)), (1, .int x), (2, .int (y + ((q 1) g))), (3, .int (nI (g + 1)))] rfl ?_
        exact ih_4 (g + 1) (y + ((q 1) g)) (by first | assumption | omega) (cnt_l (fun g hg => (hRG.1 g hg).2.2.1) (show g < n by omega) (hTQ.1 g (by omega)).2.1 hy) (by omega)
  refine g_locals [2, 3, 1, 0] [(0, .ref (a 0)), (1, .int x), (2, .int 0), (3, .int 0)] rfl ?_
  exact L4 _ 0 0 (Nat.zero_le _) rfl (Nat.lt_succ_self _)
set_option maxHeartbeats 4000000 in
set_option maxRecDepth 100000 in
theorem c_X5_fits (cI cS : ClassId) (a : Nat → Nat) (q : Nat → Nat → Int32) {n sv pl : Nat} (m : MS) (hRQ : RQ q m n sv pl) (k : Int32) : CT cI cS yX5_fits cX5_fits 6 (some .long) 2 [.ref (a 0), .int k] (modelW cI a q) 0 0 (fun u : Int64 × (Nat → Nat → Int32) => (u.1 = if 0 ≤ k ∧ k ≤ m 9 2 then fitS m pl k 60 else -1) ∧ TF u.2 q ∧ OF u.2 q) (fun u => some (.long u.1)) (fun u => (modelW cI a u.2)) := by
  refine ct_intro (by decide) (Nat.le_of_ble_eq_true rfl) (fun E Q hE hQ hI => ?_)
  have hE : CxOk E cI cS RX5 cX5_fits 6 (some .long) 2 0 0 := hE
  show Go E Q 6 0 0 0 [(0, .ref (a 0)), (1, .int k)] [] (modelW cI a q)
  have hM := hRQ.1
  have hTQ := hRQ.2.1
  have hRG := hRQ.2.2
  have hgr := hTQ.2.2.2.1
  have hsv := hTQ.2.2.2.2.1
  have hpl := hTQ.2.2.2.2.2.1
  have hn6 := hM.2.1
  have hsv8 := hM.2.2.2.1
  have hpl6 := hM.2.2.2.2.2
  have hc0 : m 9 0 = q 18 0 := hM.1.trans hgr.symm
  have hc1 : m 9 1 = q 18 1 := hM.2.2.1.trans hsv.symm
  have hc2 : m 9 2 = q 18 2 := hM.2.2.2.2.1.trans hpl.symm
  refine g_iload_n hE dX5_fits_0 1 rfl ?_
  refine g_i2l hE dX5_fits_1 ?_
  refine g_lconst hE dX5_fits_2 0 (by decide) ?_
  refine g_aload_n hE dX5_fits_3 0 rfl ?_
  refine g_get hE fl_X5_102 dX5_fits_4 0 rfl rfl ?_
  refine g_i2l hE dX5_fits_7 ?_
  refine g_callS hE (c_X5_in cI cS (Int32.toInt64 k) 0 (Int32.toInt64 (q 18 2))) mk_X5_in st_X5_in ml_X5_68 dX5_fits_8 (As := [.long (Int32.toInt64 k), .long 0, .long (Int32.toInt64 (q 18 2))]) (rest := []) rfl rfl (by decide) (by decide) (Nat.le_of_ble_eq_true rfl) (by decide) (by decide) [] rfl (by decide) (fun u => Nat.le_of_ble_eq_true rfl) (ws' := fun u => modelW cI a q) (fun u => rfl) (fun u hu => ?_)
  obtain ⟨r_1, rfl⟩ : ∃ z, z = u := ⟨_, rfl⟩
  have h2 : r_1 = if 0 ≤ k ∧ k ≤ (q 18 2) then 1 else 0 := (in_i (x := k) (lo := 0) (hi := (q 18 2)) rfl rfl hu)
  by_cases c3 : 0 ≤ k ∧ k ≤ (q 18 2)
  · rw [if_pos c3] at h2
    subst h2
    show Go E Q 6 0 0 11 [(0, .ref (a 0)), (1, .int k)] [.int 1] (modelW cI a q)
    refine g_if_ne hE 18 dX5_fits_11 (by decide) (fun c4 => ?_) (fun c4 => absurd c4 (by decide))
    refine g_aload_n hE dX5_fits_18 0 rfl ?_
    refine g_callV hE (c_X5_begin cI cS a q hsv hsv8) mk_X5_begin mv_X5_begin ml_X5_183 dX5_fits_19 (As := []) (rest := []) rfl rfl 0 rfl (show vwCl[5]? = some (RX5, TX5, 32) from rfl) (by decide) (by decide) (Nat.le_of_ble_eq_true rfl) (by decide) (by decide) [0, 1, 2, 3, 4, 5, 6, 7, 8, 9, 10, 11, 12, 13, 14, 15, 16, 17, 18] rfl (by decide) (fun u => Nat.le_of_ble_eq_true rfl) (ws' := fun u => modelW cI a (pA (pA q 8 u.1) 9 u.2)) (fun u => rfl) (fun u hu => ?_)
    obtain ⟨tk_5, ms_6⟩ := u
    have h7 : ∀ s, s < sv → tk_5 s = (q 3) (4 * s) ∧ ms_6 s = (q 3) (4 * s + 1) := hu
    show Go E Q 6 0 0 22 [(0, .ref (a 0)), (1, .int k)] [] (modelW cI a (pA (pA q 8 tk_5) 9 ms_6))
    refine g_aload_n hE dX5_fits_22 0 rfl ?_
    refine g_callV hE (c_X5_takeRow cI cS a (pA (pA q 8 tk_5) 9 ms_6) hpl hpl6) mk_X5_takeRow mv_X5_takeRow ml_X5_186 dX5_fits_23 (As := []) (rest := []) rfl rfl 0 rfl (show vwCl[5]? = some (RX5, TX5, 32) from rfl) (by decide) (by decide) (Nat.le_of_ble_eq_true rfl) (by decide) (by decide) [0, 1, 2, 3, 4, 5, 6, 7, 8, 9, 10, 11, 12, 13, 14, 15, 16, 17, 18] rfl (by decide) (fun u => Nat.le_of_ble_eq_true rfl) (ws' := fun u => modelW cI a (pA (pA (pA (pA q 8 tk_5) 9 ms_6) 18 (upd (q 18) 7 (q 18 2))) 7 u)) (fun u => rfl) (fun u hu => ?_)
    obtain ⟨tr_8, rfl⟩ : ∃ z, z = u := ⟨_, rfl⟩
    have h9 : ∀ k, k < pl → tr_8 k = (q 4) k := hu
    show Go E Q 6 0 0 26 [(0, .ref (a 0)), (1, .int k)] [] (modelW cI a (pA (pA (pA (pA q 8 tk_5) 9 ms_6) 18 (upd (q 18) 7 (q 18 2))) 7 tr_8))
    refine g_lconst hE dX5_fits_26 0 (by decide) ?_
    refine g_lstore_n hE dX5_fits_27 [(2, .long 0), (0, .ref (a 0)), (1, .int k)] rfl (by decide) rfl ?_
    refine g_iconst hE dX5_fits_28 1 (by decide) ?_
    refine g_istore hE dX5_fits_29 [(4, .int 1), (2, .long 0), (0, .ref (a 0)), (1, .int k)] (by decide) rfl ?_
    have L31 : ∀ (n_31 : Nat) (s : Nat) (y : Int64), (s ≤ 60) → (y = fitS m pl k s) → (60 - s < n_31) → Go E Q 6 0 0 31 [(0, .ref (a 0)), (1, .int k), (2, .long y), (4, .int (nI (s + 1)))] [] (modelW cI a (pA (pA (pA (pA q 8 tk_5) 9 ms_6) 18 (upd (q 18) 7 (q 18 2))) 7 tr_8)) := by
      intro n_31
      induction n_31 with
      | zero => intro s y hs hy hm_31; exact absurd hm_31 (Nat.not_lt_zero _)
      | succ n_31 ih_31 =>
        intro s y hs hy hm_31
        refine g_iload hE dX5_fits_31 3 rfl ?_
        refine g_bipush hE dX5_fits_33 60 (by decide) ?_
        refine g_icmp_gt hE 97 dX5_fits_35 (by decide) (fun c10 => ?_) (fun c10 => ?_)
        · have kc10 := nat_lt_t (show 60 = nI 60 from rfl) (show (nI (s + 1)) = nI (s + 1) from rfl) (by omega) (by omega) c10
          refine g_lload_n hE dX5_fits_97 2 rfl ?_
          exact g_lret hE hQ dX5_fits_98 (y, (pA (pA (pA (pA q 8 tk_5) 9 ms_6) 18 (upd (q 18) 7 (q 18 2))) 7 tr_8)) rfl rfl ⟨(by rw [hc2, if_pos c3]; rw [hy, show s = 60 by omega]), ⟨⟨rfl, rfl, rfl, rfl, rfl, rfl, rfl, rfl, rfl⟩, ⟨rfl, rfl, rfl, rfl, rfl, rfl, rfl⟩⟩⟩
        · have kc10 := nat_lt_f (show 60 = nI 60 from rfl) (show (nI (s + 1)) = nI (s + 1) from rfl) (by omega) (by omega) c10
          refine g_iconst hE dX5_fits_38 0 (by decide) ?_
          refine g_istore hE dX5_fits_39 [(5, .int 0), (0, .ref (a 0)), (1, .int k), (2, .long y), (4, .int (nI (s + 1)))] (by decide) rfl ?_
          have L41 : ∀ (n_41 : Nat) (k2 : Nat), (k2 ≤ pl) → (hzR m (nI (s + 1)) pl 0 = hzR m (nI (s + 1)) (pl - k2) k2) → (pl - k2 < n_41) → Go E Q 6 0 0 41 [(0, .ref (a 0)), (1, .int k), (2, .long y), (4, .int (nI (s + 1))), (5, .int (nI k2))] [] (modelW cI a (pA (pA (pA (pA q 8 tk_5) 9 ms_6) 18 (upd (q 18) 7 (q 18 2))) 7 tr_8)) := by
            intro n_41
            induction n_41 with
            | zero => intro k2 hk2 hz hm_41; exact absurd hm_41 (Nat.not_lt_zero _)
            | succ n_41 ih_41 =>
              intro k2 hk2 hz hm_41
              refine g_iload hE dX5_fits_41 4 rfl ?_
              refine g_aload_n hE dX5_fits_43 0 rfl ?_
              refine g_get hE fl_X5_164 dX5_fits_44 0 rfl rfl ?_
              refine g_icmp_ge hE 72 dX5_fits_47 (by decide) (fun c11 => ?_) (fun c11 => ?_)
              · have kc11 := nat_le_t (show (q 18 2) = nI pl from hpl) (show (nI k2) = nI k2 from rfl) (by omega) (by omega) c11
                have hkk := hz.trans (hz_p (show k2 = pl by omega))
                refine g_lload_n hE dX5_fits_72 2 rfl ?_
                refine g_iload hE dX5_fits_73 4 rfl ?_
                refine g_iload_n hE dX5_fits_75 1 rfl ?_
                refine g_icmp_ne hE 88 dX5_fits_76 (by decide) (fun c12 => ?_) (fun c12 => ?_)
                · refine g_lconst hE dX5_fits_88 0 (by decide) ?_
                  refine g_lor hE dX5_fits_89 ?_
                  refine g_lstore_n hE dX5_fits_90 [(2, .long (y ||| 0)), (0, .ref (a 0)), (1, .int k), (4, .int (nI (s + 1))), (5, .int (nI k2))] rfl (by decide) rfl ?_
                  refine g_iinc hE dX5_fits_91 3 (nI ((s + 1) + 1)) [(4, .int (nI ((s + 1) + 1))), (2, .long (y ||| 0)), (0, .ref (a 0)), (1, .int k), (5, .int (nI k2))] rfl (nI_1 _) (by decide) rfl ?_
                  refine g_goto hE 31 dX5_fits_94 (by decide) ?_
                  refine g_locals [2, 3, 1, 0] [(0, .ref (a 0)), (1, .int k), (2, .long (y ||| 0)), (4, .int (nI ((s + 1) + 1)))] rfl ?_
                  exact ih_31 (s + 1) (y ||| 0) (by first | assumption | omega) (fit_n hy (fun z => (show ¬ (nI k2) = k from c12) (hkk.symm.trans z))) (by omega)
                · refine g_lconst hE dX5_fits_79 1 (by decide) ?_
                  refine g_iload hE dX5_fits_80 3 rfl ?_
                  refine g_iconst hE dX5_fits_82 1 (by decide) ?_
                  refine g_isub_n hE dX5_fits_83 (show (nI (s + 1)) = nI (s + 1) from rfl) (show 1 = nI 1 from rfl) (by omega) ?_
                  refine g_lshl hE dX5_fits_84 ?_
                  refine g_goto hE 89 dX5_fits_85 (by decide) ?_
                  refine g_lor hE dX5_fits_89 ?_
                  refine g_lstore_n hE dX5_fits_90 [(2, .long (y ||| (1 <<< (Int32.toInt64 (nI ((s + 1) - 1)) &&& 63)))), (0, .ref (a 0)), (1, .int k), (4, .int (nI (s + 1))), (5, .int (nI k2))] rfl (by decide) rfl ?_
                  refine g_iinc hE dX5_fits_91 3 (nI ((s + 1) + 1)) [(4, .int (nI ((s + 1) + 1))), (2, .long (y ||| (1 <<< (Int32.toInt64 (nI ((s + 1) - 1)) &&& 63)))), (0, .ref (a 0)), (1, .int k), (5, .int (nI k2))] rfl (nI_1 _) (by decide) rfl ?_
                  refine g_goto hE 31 dX5_fits_94 (by decide) ?_
                  refine g_locals [2, 3, 1, 0] [(0, .ref (a 0)), (1, .int k), (2, .long (y ||| (1 <<< (Int32.toInt64 (nI ((s + 1) - 1)) &&& 63)))), (4, .int (nI ((s + 1) + 1)))] rfl ?_
                  exact ih_31 (s + 1) (y ||| (1 <<< (Int32.toInt64 (nI ((s + 1) - 1)) &&& 63))) (by first | assumption | omega) (fitS_y hy (hkk.trans (show (nI k2) = k from c12))) (by omega)
              · have kc11 := nat_le_f (show (q 18 2) = nI pl from hpl) (show (nI k2) = nI k2 from rfl) (by omega) (by omega) c11
                refine g_aload_n hE dX5_fits_50 0 rfl ?_
                refine g_aload_n hE dX5_fits_51 0 rfl ?_
                refine g_get hE fl_X5_31 dX5_fits_52 0 rfl rfl ?_
                refine g_iload hE dX5_fits_55 4 rfl ?_
                refine g_iald_n hE dX5_fits_57 8 rfl (show (nI k2) = nI k2 from rfl) (by omega) ?_
                obtain ⟨hr0, s2, hs2l, hr2⟩ := ra_mk hTQ h9 k2 (by omega)
                have hs2 : (tr_8 k2) = nI s2 := hr0.trans hr2
                refine g_iload hE dX5_fits_58 3 rfl ?_
                refine g_callV hE (c_X5_passes cI cS a (pA (pA (pA (pA q 8 tk_5) 9 ms_6) 18 (upd (q 18) 7 (q 18 2))) 7 tr_8) (tr_8 k2) s2 (show (tr_8 k2) = nI s2 from hs2) (by omega) (nI (s + 1))) mk_X5_passes mv_X5_passes ml_X5_173 dX5_fits_60 (As := [.int (tr_8 k2), .int (nI (s + 1))]) (rest := []) rfl rfl 0 rfl (show vwCl[5]? = some (RX5, TX5, 32) from rfl) (by decide) (by decide) (Nat.le_of_ble_eq_true rfl) (by decide) (by decide) [0, 1, 2, 3, 4, 5, 6, 7, 8, 9, 10, 11, 12, 13, 14, 15, 16, 17, 18] rfl (by decide) (fun u => Nat.le_of_ble_eq_true rfl) (ws' := fun u => modelW cI a (pA (pA (pA (pA q 8 tk_5) 9 ms_6) 18 (upd (q 18) 7 (q 18 2))) 7 tr_8)) (fun u => rfl) (fun u hu => ?_)
                obtain ⟨r_13, rfl⟩ : ∃ z, z = u := ⟨_, rfl⟩
                have h14 : r_13 = if (tk_5 s2) = 3 ∨ (nI (s + 1)) ≤ (ms_6 s2) then 1 else 0 := hu
                by_cases c15 : (tk_5 s2) = 3 ∨ (nI (s + 1)) ≤ (ms_6 s2)
                · rw [if_pos c15] at h14
                  subst h14
                  show Go E Q 6 0 0 63 [(0, .ref (a 0)), (1, .int k), (2, .long y), (4, .int (nI (s + 1))), (5, .int (nI k2))] [.int 1] (modelW cI a (pA (pA (pA (pA q 8 tk_5) 9 ms_6) 18 (upd (q 18) 7 (q 18 2))) 7 tr_8))
                  refine g_if_eq hE 72 dX5_fits_63 (by decide) (fun c16 => absurd c16 (by decide)) (fun c16 => ?_)
                  refine g_iinc hE dX5_fits_66 4 (nI (k2 + 1)) [(5, .int (nI (k2 + 1))), (0, .ref (a 0)), (1, .int k), (2, .long y), (4, .int (nI (s + 1)))] rfl (nI_1 _) (by decide) rfl ?_
                  refine g_goto hE 41 dX5_fits_69 (by decide) ?_
                  refine g_locals [1, 2, 3, 4, 0] [(0, .ref (a 0)), (1, .int k), (2, .long y), (4, .int (nI (s + 1))), (5, .int (nI (k2 + 1)))] rfl ?_
                  exact ih_41 (k2 + 1) (by first | assumption | omega) (hz.trans (hz_s (by omega) ((fit_p (z := nI (s + 1)) hRQ hs2l hr2 (h7 s2 hs2l)).mp c15))) (by omega)
                · rw [if_neg c15] at h14
                  subst h14
                  show Go E Q 6 0 0 63 [(0, .ref (a 0)), (1, .int k), (2, .long y), (4, .int (nI (s + 1))), (5, .int (nI k2))] [.int 0] (modelW cI a (pA (pA (pA (pA q 8 tk_5) 9 ms_6) 18 (upd (q 18) 7 (q 18 2))) 7 tr_8))
                  refine g_if_eq hE 72 dX5_fits_63 (by decide) (fun c17 => ?_) (fun c17 => absurd (by decide) c17)
                  have hkk := hz.trans (hz_e (show k2 < pl by omega) (fun z => c15 ((fit_p (z := nI (s + 1)) hRQ hs2l hr2 (h7 s2 hs2l)).mpr z)))
                  refine g_lload_n hE dX5_fits_72 2 rfl ?_
                  refine g_iload hE dX5_fits_73 4 rfl ?_
                  refine g_iload_n hE dX5_fits_75 1 rfl ?_
                  refine g_icmp_ne hE 88 dX5_fits_76 (by decide) (fun c18 => ?_) (fun c18 => ?_)
                  · refine g_lconst hE dX5_fits_88 0 (by decide) ?_
                    refine g_lor hE dX5_fits_89 ?_
                    refine g_lstore_n hE dX5_fits_90 [(2, .long (y ||| 0)), (0, .ref (a 0)), (1, .int k), (4, .int (nI (s + 1))), (5, .int (nI k2))] rfl (by decide) rfl ?_
                    refine g_iinc hE dX5_fits_91 3 (nI ((s + 1) + 1)) [(4, .int (nI ((s + 1) + 1))), (2, .long (y ||| 0)), (0, .ref (a 0)), (1, .int k), (5, .int (nI k2))] rfl (nI_1 _) (by decide) rfl ?_
                    refine g_goto hE 31 dX5_fits_94 (by decide) ?_
                    refine g_locals [2, 3, 1, 0] [(0, .ref (a 0)), (1, .int k), (2, .long (y ||| 0)), (4, .int (nI ((s + 1) + 1)))] rfl ?_
                    exact ih_31 (s + 1) (y ||| 0) (by first | assumption | omega) (fit_n hy (fun z => (show ¬ (nI k2) = k from c18) (hkk.symm.trans z))) (by omega)
                  · refine g_lconst hE dX5_fits_79 1 (by decide) ?_
                    refine g_iload hE dX5_fits_80 3 rfl ?_
                    refine g_iconst hE dX5_fits_82 1 (by decide) ?_
                    refine g_isub_n hE dX5_fits_83 (show (nI (s + 1)) = nI (s + 1) from rfl) (show 1 = nI 1 from rfl) (by omega) ?_
                    refine g_lshl hE dX5_fits_84 ?_
                    refine g_goto hE 89 dX5_fits_85 (by decide) ?_
                    refine g_lor hE dX5_fits_89 ?_
                    refine g_lstore_n hE dX5_fits_90 [(2, .long (y ||| (1 <<< (Int32.toInt64 (nI ((s + 1) - 1)) &&& 63)))), (0, .ref (a 0)), (1, .int k), (4, .int (nI (s + 1))), (5, .int (nI k2))] rfl (by decide) rfl ?_
                    refine g_iinc hE dX5_fits_91 3 (nI ((s + 1) + 1)) [(4, .int (nI ((s + 1) + 1))), (2, .long (y ||| (1 <<< (Int32.toInt64 (nI ((s + 1) - 1)) &&& 63)))), (0, .ref (a 0)), (1, .int k), (5, .int (nI k2))] rfl (nI_1 _) (by decide) rfl ?_
                    refine g_goto hE 31 dX5_fits_94 (by decide) ?_
                    refine g_locals [2, 3, 1, 0] [(0, .ref (a 0)), (1, .int k), (2, .long (y ||| (1 <<< (Int32.toInt64 (nI ((s + 1) - 1)) &&& 63)))), (4, .int (nI ((s + 1) + 1)))] rfl ?_
                    exact ih_31 (s + 1) (y ||| (1 <<< (Int32.toInt64 (nI ((s + 1) - 1)) &&& 63))) (by first | assumption | omega) (fitS_y hy (hkk.trans (show (nI k2) = k from c18))) (by omega)
          refine g_locals [1, 2, 3, 4, 0] [(0, .ref (a 0)), (1, .int k), (2, .long y), (4, .int (nI (s + 1))), (5, .int 0)] rfl ?_
          exact L41 _ 0 (Nat.zero_le _) rfl (Nat.lt_succ_self _)
    refine g_locals [2, 3, 1, 0] [(0, .ref (a 0)), (1, .int k), (2, .long 0), (4, .int 1)] rfl ?_
    exact L31 _ 0 0 (Nat.zero_le _) rfl (Nat.lt_succ_self _)
  · rw [if_neg c3] at h2
    subst h2
    show Go E Q 6 0 0 11 [(0, .ref (a 0)), (1, .int k)] [.int 0] (modelW cI a q)
    refine g_if_ne hE 18 dX5_fits_11 (by decide) (fun c19 => absurd (by decide) c19) (fun c19 => ?_)
    refine g_ldc2 hE dX5_fits_14 cl_X5_238 ?_
    exact g_lret hE hQ dX5_fits_17 ((-1), q) rfl rfl ⟨(by rw [hc2, if_neg c3]), ⟨⟨rfl, rfl, rfl, rfl, rfl, rfl, rfl, rfl, rfl⟩, ⟨rfl, rfl, rfl, rfl, rfl, rfl, rfl⟩⟩⟩
set_option maxHeartbeats 4000000 in
set_option maxRecDepth 100000 in
theorem c_X5_shares (cI cS : ClassId) (a : Nat → Nat) (q : Nat → Nat → Int32) {n sv pl : Nat} (m : MS) (hRQ : RQ q m n sv pl) (x y z t : Int32) : CT cI cS yX5_shares cX5_shares 7 (some .int) 1 [.ref (a 0), .int x, .int y, .int z, .int t] (modelW cI a q) 0 0 (fun u : Int32 × (Nat → Nat → Int32) => u.1 = fShares x y z t ∧ TF u.2 q ∧ OF u.2 q) (fun u => some (.int u.1)) (fun u => (modelW cI a u.2)) := by
  refine ct_intro (by decide) (Nat.le_of_ble_eq_true rfl) (fun E Q hE hQ hI => ?_)
  have hE : CxOk E cI cS RX5 cX5_shares 7 (some .int) 1 0 0 := hE
  show Go E Q 7 0 0 0 [(0, .ref (a 0)), (1, .int x), (2, .int y), (3, .int z), (4, .int t)] [] (modelW cI a q)
  have hM := hRQ.1
  have hTQ := hRQ.2.1
  have hRG := hRQ.2.2
  have hgr := hTQ.2.2.2.1
  have hsv := hTQ.2.2.2.2.1
  have hpl := hTQ.2.2.2.2.2.1
  have hn6 := hM.2.1
  have hsv8 := hM.2.2.2.1
  have hpl6 := hM.2.2.2.2.2
  have hc0 : m 9 0 = q 18 0 := hM.1.trans hgr.symm
  have hc1 : m 9 1 = q 18 1 := hM.2.2.1.trans hsv.symm
  have hc2 : m 9 2 = q 18 2 := hM.2.2.2.2.1.trans hpl.symm
  refine g_iload_n hE dX5_shares_0 1 rfl ?_
  refine g_i2l hE dX5_shares_1 ?_
  refine g_lconst hE dX5_shares_2 1 (by decide) ?_
  refine g_ldc2 hE dX5_shares_3 cl_X5_77 ?_
  refine g_callS hE (c_X5_in cI cS (Int32.toInt64 x) 1 9999) mk_X5_in st_X5_in ml_X5_68 dX5_shares_6 (As := [.long (Int32.toInt64 x), .long 1, .long 9999]) (rest := []) rfl rfl (by decide) (by decide) (Nat.le_of_ble_eq_true rfl) (by decide) (by decide) [] rfl (by decide) (fun u => Nat.le_of_ble_eq_true rfl) (ws' := fun u => modelW cI a q) (fun u => rfl) (fun u hu => ?_)
  obtain ⟨r_1, rfl⟩ : ∃ z, z = u := ⟨_, rfl⟩
  have h2 : r_1 = if 1 ≤ x ∧ x ≤ 9999 then 1 else 0 := (in_i (x := x) (lo := 1) (hi := 9999) rfl rfl hu)
  by_cases c3 : 1 ≤ x ∧ x ≤ 9999
  · rw [if_pos c3] at h2
    subst h2
    show Go E Q 7 0 0 9 [(0, .ref (a 0)), (1, .int x), (2, .int y), (3, .int z), (4, .int t)] [.int 1] (modelW cI a q)
    refine g_if_eq hE 55 dX5_shares_9 (by decide) (fun c4 => absurd c4 (by decide)) (fun c4 => ?_)
    refine g_iload_n hE dX5_shares_12 2 rfl ?_
    refine g_i2l hE dX5_shares_13 ?_
    refine g_lconst hE dX5_shares_14 1 (by decide) ?_
    refine g_ldc2 hE dX5_shares_15 cl_X5_242 ?_
    refine g_callS hE (c_X5_in cI cS (Int32.toInt64 y) 1 9999999) mk_X5_in st_X5_in ml_X5_68 dX5_shares_18 (As := [.long (Int32.toInt64 y), .long 1, .long 9999999]) (rest := []) rfl rfl (by decide) (by decide) (Nat.le_of_ble_eq_true rfl) (by decide) (by decide) [] rfl (by decide) (fun u => Nat.le_of_ble_eq_true rfl) (ws' := fun u => modelW cI a q) (fun u => rfl) (fun u hu => ?_)
    obtain ⟨r_5, rfl⟩ : ∃ z, z = u := ⟨_, rfl⟩
    have h6 : r_5 = if 1 ≤ y ∧ y ≤ 9999999 then 1 else 0 := (in_i (x := y) (lo := 1) (hi := 9999999) rfl rfl hu)
    by_cases c7 : 1 ≤ y ∧ y ≤ 9999999
    · rw [if_pos c7] at h6
      subst h6
      show Go E Q 7 0 0 21 [(0, .ref (a 0)), (1, .int x), (2, .int y), (3, .int z), (4, .int t)] [.int 1] (modelW cI a q)
      refine g_if_eq hE 55 dX5_shares_21 (by decide) (fun c8 => absurd c8 (by decide)) (fun c8 => ?_)
      refine g_iload_n hE dX5_shares_24 3 rfl ?_
      refine g_i2l hE dX5_shares_25 ?_
      refine g_lconst hE dX5_shares_26 1 (by decide) ?_
      refine g_ldc2 hE dX5_shares_27 cl_X5_244 ?_
      refine g_callS hE (c_X5_in cI cS (Int32.toInt64 z) 1 999) mk_X5_in st_X5_in ml_X5_68 dX5_shares_30 (As := [.long (Int32.toInt64 z), .long 1, .long 999]) (rest := []) rfl rfl (by decide) (by decide) (Nat.le_of_ble_eq_true rfl) (by decide) (by decide) [] rfl (by decide) (fun u => Nat.le_of_ble_eq_true rfl) (ws' := fun u => modelW cI a q) (fun u => rfl) (fun u hu => ?_)
      obtain ⟨r_9, rfl⟩ : ∃ z, z = u := ⟨_, rfl⟩
      have h10 : r_9 = if 1 ≤ z ∧ z ≤ 999 then 1 else 0 := (in_i (x := z) (lo := 1) (hi := 999) rfl rfl hu)
      by_cases c11 : 1 ≤ z ∧ z ≤ 999
      · rw [if_pos c11] at h10
        subst h10
        show Go E Q 7 0 0 33 [(0, .ref (a 0)), (1, .int x), (2, .int y), (3, .int z), (4, .int t)] [.int 1] (modelW cI a q)
        refine g_if_eq hE 55 dX5_shares_33 (by decide) (fun c12 => absurd c12 (by decide)) (fun c12 => ?_)
        refine g_iload hE dX5_shares_36 4 rfl ?_
        refine g_i2l hE dX5_shares_38 ?_
        refine g_lconst hE dX5_shares_39 1 (by decide) ?_
        refine g_ldc2 hE dX5_shares_40 cl_X5_244 ?_
        refine g_callS hE (c_X5_in cI cS (Int32.toInt64 t) 1 999) mk_X5_in st_X5_in ml_X5_68 dX5_shares_43 (As := [.long (Int32.toInt64 t), .long 1, .long 999]) (rest := []) rfl rfl (by decide) (by decide) (Nat.le_of_ble_eq_true rfl) (by decide) (by decide) [] rfl (by decide) (fun u => Nat.le_of_ble_eq_true rfl) (ws' := fun u => modelW cI a q) (fun u => rfl) (fun u hu => ?_)
        obtain ⟨r_13, rfl⟩ : ∃ z, z = u := ⟨_, rfl⟩
        have h14 : r_13 = if 1 ≤ t ∧ t ≤ 999 then 1 else 0 := (in_i (x := t) (lo := 1) (hi := 999) rfl rfl hu)
        by_cases c15 : 1 ≤ t ∧ t ≤ 999
        · rw [if_pos c15] at h14
          subst h14
          show Go E Q 7 0 0 46 [(0, .ref (a 0)), (1, .int x), (2, .int y), (3, .int z), (4, .int t)] [.int 1] (modelW cI a q)
          refine g_if_eq hE 55 dX5_shares_46 (by decide) (fun c16 => absurd c16 (by decide)) (fun c16 => ?_)
          refine g_iload_n hE dX5_shares_49 3 rfl ?_
          refine g_iload hE dX5_shares_50 4 rfl ?_
          refine g_icmp_ne hE 57 dX5_shares_52 (by decide) (fun c17 => ?_) (fun c17 => ?_)
          · have hzt := sub_nz (show ¬ z = t from c17)
            refine g_iload_n hE dX5_shares_57 2 rfl ?_
            refine g_iload_n hE dX5_shares_58 1 rfl ?_
            refine g_iload hE dX5_shares_59 4 rfl ?_
            refine g_imul hE dX5_shares_61 ?_
            refine g_isub hE dX5_shares_62 ?_
            refine g_istore hE dX5_shares_63 [(5, .int (y - (x * t))), (0, .ref (a 0)), (1, .int x), (2, .int y), (3, .int z), (4, .int t)] (by decide) rfl ?_
            refine g_iload_n hE dX5_shares_65 4 rfl ?_
            refine g_iload hE dX5_shares_66 5 rfl ?_
            refine g_isub hE dX5_shares_68 ?_
            refine g_istore hE dX5_shares_69 [(6, .int (z - t)), (5, .int (y - (x * t))), (0, .ref (a 0)), (1, .int x), (2, .int y), (3, .int z), (4, .int t)] (by decide) rfl ?_
            refine g_iload hE dX5_shares_71 1 rfl ?_
            refine g_iload hE dX5_shares_73 0 rfl ?_
            refine g_irem hE dX5_shares_75 hzt ?_
            refine g_if_ne hE 94 dX5_shares_76 (by decide) (fun c18 => ?_) (fun c18 => ?_)
            · refine g_bipush hE dX5_shares_94 (-4) (by decide) ?_
              refine g_goto hE 104 dX5_shares_96 (by decide) ?_
              exact g_iret hE hQ dX5_shares_104 rfl ((-4), q) rfl rfl ⟨(by simp only [fShares, if_pos c3, if_pos c7, if_pos c11, if_pos c15, if_neg (show ¬ z = t from c17), if_neg (sub_nz (show ¬ z = t from c17)), if_neg (show ¬ ((y - (x * t)) - (y - (x * t)) / (z - t) * (z - t)) = 0 from c18), if_pos trivial]), ⟨⟨rfl, rfl, rfl, rfl, rfl, rfl, rfl, rfl, rfl⟩, ⟨rfl, rfl, rfl, rfl, rfl, rfl, rfl⟩⟩⟩
            · refine g_iload hE dX5_shares_79 1 rfl ?_
              refine g_iload hE dX5_shares_81 0 rfl ?_
              refine g_idiv hE dX5_shares_83 hzt ?_
              refine g_i2l hE dX5_shares_84 ?_
              refine g_lconst hE dX5_shares_85 0 (by decide) ?_
              refine g_iload_n hE dX5_shares_86 3 rfl ?_
              refine g_i2l hE dX5_shares_87 ?_
              refine g_callS hE (c_X5_in cI cS (Int32.toInt64 ((y - (x * t)) / (z - t))) 0 (Int32.toInt64 x)) mk_X5_in st_X5_in ml_X5_68 dX5_shares_88 (As := [.long (Int32.toInt64 ((y - (x * t)) / (z - t))), .long 0, .long (Int32.toInt64 x)]) (rest := []) rfl rfl (by decide) (by decide) (Nat.le_of_ble_eq_true rfl) (by decide) (by decide) [] rfl (by decide) (fun u => Nat.le_of_ble_eq_true rfl) (ws' := fun u => modelW cI a q) (fun u => rfl) (fun u hu => ?_)
              obtain ⟨r_19, rfl⟩ : ∃ z, z = u := ⟨_, rfl⟩
              have h20 : r_19 = if 0 ≤ ((y - (x * t)) / (z - t)) ∧ ((y - (x * t)) / (z - t)) ≤ x then 1 else 0 := (in_i (x := ((y - (x * t)) / (z - t))) (lo := 0) (hi := x) rfl rfl hu)
              by_cases c21 : 0 ≤ ((y - (x * t)) / (z - t)) ∧ ((y - (x * t)) / (z - t)) ≤ x
              · rw [if_pos c21] at h20
                subst h20
                show Go E Q 7 0 0 91 [(6, .int (z - t)), (5, .int (y - (x * t))), (0, .ref (a 0)), (1, .int x), (2, .int y), (3, .int z), (4, .int t)] [.int 1] (modelW cI a q)
                refine g_if_ne hE 99 dX5_shares_91 (by decide) (fun c22 => ?_) (fun c22 => absurd c22 (by decide))
                refine g_iload hE dX5_shares_99 1 rfl ?_
                refine g_iload hE dX5_shares_101 0 rfl ?_
                refine g_idiv hE dX5_shares_103 hzt ?_
                exact g_iret hE hQ dX5_shares_104 rfl (((y - (x * t)) / (z - t)), q) rfl rfl ⟨(by simp only [fShares, if_pos c3, if_pos c7, if_pos c11, if_pos c15, if_neg (show ¬ z = t from c17), if_neg (sub_nz (show ¬ z = t from c17)), if_pos (show ((y - (x * t)) - (y - (x * t)) / (z - t) * (z - t)) = 0 from c18), if_pos c21, if_pos trivial]), ⟨⟨rfl, rfl, rfl, rfl, rfl, rfl, rfl, rfl, rfl⟩, ⟨rfl, rfl, rfl, rfl, rfl, rfl, rfl⟩⟩⟩
              · rw [if_neg c21] at h20
                subst h20
                show Go E Q 7 0 0 91 [(6, .int (z - t)), (5, .int (y - (x * t))), (0, .ref (a 0)), (1, .int x), (2, .int y), (3, .int z), (4, .int t)] [.int 0] (modelW cI a q)
                refine g_if_ne hE 99 dX5_shares_91 (by decide) (fun c23 => absurd (by decide) c23) (fun c23 => ?_)
                refine g_bipush hE dX5_shares_94 (-4) (by decide) ?_
                refine g_goto hE 104 dX5_shares_96 (by decide) ?_
                exact g_iret hE hQ dX5_shares_104 rfl ((-4), q) rfl rfl ⟨(by simp only [fShares, if_pos c3, if_pos c7, if_pos c11, if_pos c15, if_neg (show ¬ z = t from c17), if_neg (sub_nz (show ¬ z = t from c17)), if_pos (show ((y - (x * t)) - (y - (x * t)) / (z - t) * (z - t)) = 0 from c18), if_neg c21, if_pos trivial]), ⟨⟨rfl, rfl, rfl, rfl, rfl, rfl, rfl, rfl, rfl⟩, ⟨rfl, rfl, rfl, rfl, rfl, rfl, rfl⟩⟩⟩
          · refine g_iconst hE dX5_shares_55 (-1) (by decide) ?_
            exact g_iret hE hQ dX5_shares_56 rfl ((-1), q) rfl rfl ⟨(by simp only [fShares, if_pos c3, if_pos c7, if_pos c11, if_pos c15, if_pos (show z = t from c17), if_pos trivial]), ⟨⟨rfl, rfl, rfl, rfl, rfl, rfl, rfl, rfl, rfl⟩, ⟨rfl, rfl, rfl, rfl, rfl, rfl, rfl⟩⟩⟩
        · rw [if_neg c15] at h14
          subst h14
          show Go E Q 7 0 0 46 [(0, .ref (a 0)), (1, .int x), (2, .int y), (3, .int z), (4, .int t)] [.int 0] (modelW cI a q)
          refine g_if_eq hE 55 dX5_shares_46 (by decide) (fun c24 => ?_) (fun c24 => absurd (by decide) c24)
          refine g_iconst hE dX5_shares_55 (-1) (by decide) ?_
          exact g_iret hE hQ dX5_shares_56 rfl ((-1), q) rfl rfl ⟨(by simp only [fShares, if_pos c3, if_pos c7, if_pos c11, if_neg c15, if_pos trivial]), ⟨⟨rfl, rfl, rfl, rfl, rfl, rfl, rfl, rfl, rfl⟩, ⟨rfl, rfl, rfl, rfl, rfl, rfl, rfl⟩⟩⟩
      · rw [if_neg c11] at h10
        subst h10
        show Go E Q 7 0 0 33 [(0, .ref (a 0)), (1, .int x), (2, .int y), (3, .int z), (4, .int t)] [.int 0] (modelW cI a q)
        refine g_if_eq hE 55 dX5_shares_33 (by decide) (fun c25 => ?_) (fun c25 => absurd (by decide) c25)
        refine g_iconst hE dX5_shares_55 (-1) (by decide) ?_
        exact g_iret hE hQ dX5_shares_56 rfl ((-1), q) rfl rfl ⟨(by simp only [fShares, if_pos c3, if_pos c7, if_neg c11, if_pos trivial]), ⟨⟨rfl, rfl, rfl, rfl, rfl, rfl, rfl, rfl, rfl⟩, ⟨rfl, rfl, rfl, rfl, rfl, rfl, rfl⟩⟩⟩
    · rw [if_neg c7] at h6
      subst h6
      show Go E Q 7 0 0 21 [(0, .ref (a 0)), (1, .int x), (2, .int y), (3, .int z), (4, .int t)] [.int 0] (modelW cI a q)
      refine g_if_eq hE 55 dX5_shares_21 (by decide) (fun c26 => ?_) (fun c26 => absurd (by decide) c26)
      refine g_iconst hE dX5_shares_55 (-1) (by decide) ?_
      exact g_iret hE hQ dX5_shares_56 rfl ((-1), q) rfl rfl ⟨(by simp only [fShares, if_pos c3, if_neg c7, if_pos trivial]), ⟨⟨rfl, rfl, rfl, rfl, rfl, rfl, rfl, rfl, rfl⟩, ⟨rfl, rfl, rfl, rfl, rfl, rfl, rfl⟩⟩⟩
  · rw [if_neg c3] at h2
    subst h2
    show Go E Q 7 0 0 9 [(0, .ref (a 0)), (1, .int x), (2, .int y), (3, .int z), (4, .int t)] [.int 0] (modelW cI a q)
    refine g_if_eq hE 55 dX5_shares_9 (by decide) (fun c27 => ?_) (fun c27 => absurd (by decide) c27)
    refine g_iconst hE dX5_shares_55 (-1) (by decide) ?_
    exact g_iret hE hQ dX5_shares_56 rfl ((-1), q) rfl rfl ⟨(by simp only [fShares, if_neg c3, if_pos trivial]), ⟨⟨rfl, rfl, rfl, rfl, rfl, rfl, rfl, rfl, rfl⟩, ⟨rfl, rfl, rfl, rfl, rfl, rfl, rfl⟩⟩⟩
