/-! the reference: lasts -/
theorem la_off {m : MS} {n pl j : Nat} (h4 : Nat.beq j 4 = false) (h9 : Nat.beq j 9 = false) : ∀ t, laM m n pl t j = m j
  | 0 => rfl
  | t + 1 => by
    show shkS (shS (laM m n pl t) n (laM m n pl t 7) pl).1 j = m j
    rw [shk_off h9, shS_off h4]
    exact la_off h4 h9 t
theorem la_4 {m : MS} {n pl sv : Nat} (hd : DR (m 7) pl sv) (hsv : sv ≤ 8) (t : Nat) : laM m n pl (t + 1) 4 = wrM (laM m n pl t) n (m 7) pl 4 := by
  show shM (laM m n pl t) n (laM m n pl t 7) pl 4 = _
  rw [la_off (j := 7) rfl rfl t, shM_wr hd hsv]
  exact shk_off rfl
theorem sm_hA {m a : MS} {n pl : Nat} (hl : pl ≤ 6) (h7 : a 7 = m 7) : (∀ g, g < n → hA a n (m 7) pl pl g = hA m n (m 7) pl pl g) ↔ smH a m n pl (pl + 1) = true := by
  rw [smH_iff, h7]
  constructor
  · intro h k hk
    apply Nat.eq_of_testBit_eq
    intro g
    by_cases hg : g < n
    · have e1 := hp_in (m := a) (row := m 7) hl (show k ≤ pl by omega) hg
      have e2 := hp_in (m := m) (row := m 7) hl (show k ≤ pl by omega) hg
      rw [h g hg] at e1
      exact Bool.eq_iff_iff.mpr (e1.symm.trans e2)
    · have e1 : (hpS a n (m 7) pl k).testBit g = false := by
        cases q : (hpS a n (m 7) pl k).testBit g
        · rfl
        · exact absurd (hp_n q) hg
      have e2 : (hpS m n (m 7) pl k).testBit g = false := by
        cases q : (hpS m n (m 7) pl k).testBit g
        · rfl
        · exact absurd (hp_n q) hg
      rw [e1, e2]
  · intro h g hg
    rcases hA_lt (m := a) (n := n) (row := m 7) (l := pl) (g := g) (Nat.le_refl pl) with e | ⟨j, j1, j2⟩
    · rcases hA_lt (m := m) (n := n) (row := m 7) (l := pl) (g := g) (Nat.le_refl pl) with e' | ⟨j, j1, j2⟩
      · rw [e, e']
      · have q := (hp_in hl j1 hg).mp j2
        rw [← h j (by omega)] at q
        rw [(hp_in hl j1 hg).mpr q, j2]
    · have q := (hp_in hl j1 hg).mp j2
      rw [h j (by omega)] at q
      rw [(hp_in hl j1 hg).mpr q, j2]
def LaX (m : MS) (n pl t : Nat) (x : Int32) : Prop := (x = 1 ∧ ∀ j, j ≤ t → smH (laM m n pl j) m n pl (pl + 1) = true) ∨ (x = 0 ∧ (∀ j, j < t → smH (laM m n pl j) m n pl (pl + 1) = true) ∧ ¬ smH (laM m n pl t) m n pl (pl + 1) = true)
theorem LaX_0 {m : MS} {n pl : Nat} : LaX m n pl 0 1 := Or.inl ⟨rfl, fun j hj => by
  have : j = 0 := by omega
  subst this
  exact smH_iff.mpr (fun k _ => rfl)⟩
theorem LaX_1 {m : MS} {n pl t : Nat} {x : Int32} (h : LaX m n pl t x) (hx : ¬ x = 0) : x = 1 := h.elim (fun q => q.1) (fun q => absurd q.1 hx)
def EX (h fh : Nat → Int32) (n g : Nat) (x : Int32) : Prop := (x = 1 ∧ ∀ j, j < g → h j = fh j) ∨ (x = 0 ∧ ∃ j, j < n ∧ ¬ h j = fh j)
theorem EX_y {h fh : Nat → Int32} {n g : Nat} {x : Int32} (q : EX h fh n g x) (hx : ¬ x = 0) (e : h g = fh g) : EX h fh n (g + 1) 1 := by
  rcases q with q | q
  · refine Or.inl ⟨rfl, fun j hj => ?_⟩
    by_cases c : j = g
    · subst c; exact e
    · exact q.2 j (by omega)
  · exact absurd q.1 hx
theorem EX_n {h fh : Nat → Int32} {n g : Nat} {x : Int32} (e : g < n ∧ ¬ h g = fh g) : EX h fh n (g + 1) 0 := Or.inr ⟨rfl, g, e.1, e.2⟩
theorem EX_0 {h fh : Nat → Int32} {n g : Nat} {x : Int32} (q : EX h fh n g x) (hx : x = 0) : EX h fh n (g + 1) 0 := by
  rcases q with q | q
  · rw [hx] at q; exact absurd q.1 (by decide)
  · exact Or.inr ⟨rfl, q.2⟩
theorem LaX_s {m : MS} {n pl t : Nat} {x x2 : Int32} {h fh : Nat → Int32} (hl : pl ≤ 6) (hx : LaX m n pl t x) (hx1 : x = 1) (hE : EX h fh n n x2) (hh : ∀ g, g < n → h g = hA (laM m n pl (t + 1)) n (m 7) pl pl g) (hf : ∀ g, g < n → fh g = hA m n (m 7) pl pl g) : LaX m n pl (t + 1) x2 := by
  have a : ∀ j, j ≤ t → smH (laM m n pl j) m n pl (pl + 1) = true := by
    rcases hx with q | q
    · exact q.2
    · rw [hx1] at q; exact absurd q.1 (by decide)
  have sm := sm_hA (m := m) (a := laM m n pl (t + 1)) (n := n) hl (la_off (j := 7) rfl rfl (t + 1))
  rcases hE with q | q
  · refine Or.inl ⟨q.1, fun j hj => ?_⟩
    by_cases c : j = t + 1
    · subst c
      exact sm.mp (fun g hg => by rw [← hh g hg, q.2 g hg, hf g hg])
    · exact a j (by omega)
  · refine Or.inr ⟨q.1, fun j hj => a j (by omega), fun z => ?_⟩
    obtain ⟨j, j1, j2⟩ := q.2
    exact j2 (by rw [hh j j1, hf j j1]; exact sm.mpr z j j1)
theorem la_up {m : MS} {n pl : Nat} : ∀ {t : Nat}, t ≤ 200 → (∀ j, j < t → smH (laM m n pl j) m n pl (pl + 1) = true) → laR m n pl 200 0 = laR m n pl (200 - t) t
  | 0, _, _ => rfl
  | t + 1, h, hs => by
    rw [la_up (t := t) (by omega) (fun j hj => hs j (by omega))]
    exact la_y (by omega) (hs t (by omega))
theorem la_res {m : MS} {n pl t : Nat} {x : Int32} (ht : t ≤ 200) (h : LaX m n pl t x) (he : x = 0 ∨ 200 ≤ t) : nI t = laR m n pl 200 0 := by
  rcases h with h | h
  · have e : t = 200 := by
      rcases he with e | e
      · rw [h.1] at e; exact absurd e (by decide)
      · omega
    subst e
    rw [la_up (Nat.le_refl _) (fun j hj => h.2 j (by omega))]
    rfl
  · rw [la_up ht h.2.1]
    by_cases e : t = 200
    · subst e; rfl
    · exact (la_n (by omega) h.2.2).symm
theorem sa_la {q m st : MS} {n sv pl t : Nat} (hR : RQ q m n sv pl) (e0 : st 0 = q 0) (e1 : st 1 = q 1) (e3 : st 3 = q 3) (h8 : ∀ s, s < sv → st 8 s = m 3 s) (h9 : ∀ s, s < sv → st 9 s = wrM (laM m n pl t) n (m 7) pl 4 s) : SA st (laM m n pl (t + 1)) n sv := by
  unfold SA
  rw [e0, e1, e3, la_off (j := 0) rfl rfl, la_off (j := 1) rfl rfl, la_off (j := 3) rfl rfl, la_off (j := 5) rfl rfl, la_4 (RQ_DR hR) hR.1.2.2.2.1]
  exact ⟨fun g hg => ⟨(hR.2.1.1 g hg).1, (hR.2.1.1 g hg).2.1⟩, fun s hs => ⟨h8 s hs, h9 s hs, (hR.2.1.2.1 s hs).2.2.1⟩⟩
theorem hw_la {q m : MS} {n sv pl s t : Nat} {a b : Int32} (h : RQ q m n sv pl) (hs : s < sv) (ha : a = q 3 (4 * s)) (hb : b = laM m n pl t 4 s) : a = laM m n pl t 3 s ∧ b = laM m n pl t 4 s ∧ q 3 (4 * s + 3) = laM m n pl t 6 s ∧ 0 ≤ laM m n pl t 3 s := by
  rw [la_off (j := 3) rfl rfl, la_off (j := 6) rfl rfl]
  exact ⟨ha.trans (h.2.1.2.1 s hs).1, hb, (h.2.1.2.1 s hs).2.2.2, (h.2.2.2.1 s hs).1⟩
set_option maxHeartbeats 4000000 in
set_option maxRecDepth 100000 in
theorem c_X5_lasts (cI cS : ClassId) (a : Nat → Nat) (q : Nat → Nat → Int32) {n sv pl : Nat} (m : MS) (hRQ : RQ q m n sv pl) : CT cI cS yX5_lasts cX5_lasts 4 (some .int) 3 [.ref (a 0)] (modelW cI a q) 0 0 (fun u : Int32 × (Nat → Nat → Int32) => u.1 = laR m n pl 200 0 ∧ TF u.2 q ∧ OF u.2 q) (fun u => some (.int u.1)) (fun u => (modelW cI a u.2)) := by
  refine ct_intro (by decide) (Nat.le_of_ble_eq_true rfl) (fun E Q hE hQ hI => ?_)
  have hE : CxOk E cI cS RX5 cX5_lasts 4 (some .int) 3 0 0 := hE
  show Go E Q 4 0 0 0 [(0, .ref (a 0))] [] (modelW cI a q)
  have hM := hRQ.1
  have hTQ := hRQ.2.1
  have hRG := hRQ.2.2
  have hgr := hTQ.2.2.2.1
  have hsv := hTQ.2.2.2.2.1
  have hpl := hTQ.2.2.2.2.2.1
  have hn6 := hM.2.1
  have hsv8 := hM.2.2.2.1
  have hpl6 := hM.2.2.2.2.2
  have hc0 : m 9 0 = q 18 0 := hM.1.trans hgr.symm
  have hc1 : m 9 1 = q 18 1 := hM.2.2.1.trans hsv.symm
  have hc2 : m 9 2 = q 18 2 := hM.2.2.2.2.1.trans hpl.symm
  refine g_aload_n hE dX5_lasts_0 0 rfl ?_
  refine g_callV hE (c_X5_tryNow cI cS a q hgr hn6 hsv hsv8 hpl hpl6 m hTQ) mk_X5_tryNow mv_X5_tryNow ml_X5_192 dX5_lasts_1 (As := []) (rest := []) rfl rfl 0 rfl (show vwCl[5]? = some (RX5, TX5, 32) from rfl) (by decide) (by decide) (Nat.le_of_ble_eq_true rfl) (by decide) (by decide) [0, 1, 2, 3, 4, 5, 6, 7, 8, 9, 10, 11, 12, 13, 14, 15, 16, 17, 18] rfl (by decide) (fun u => Nat.le_of_ble_eq_true rfl) (ws' := fun u => modelW cI a (pA (pA (pA (pA (pA q 8 u.1) 9 u.2.1) 7 u.2.2.1) 10 u.2.2.2) 18 (upd (upd (upd (q 18) 7 (q 18 2)) 8 (chR m n (m 7) pl)) 9 (nI (flN m n (m 7) pl))))) (fun u => rfl) (fun u hu => ?_)
  obtain ⟨tk_1, mh_2, tr_3, h_4⟩ := u
  have h5 : (∀ s, s < sv → tk_1 s = (q 3) (4 * s) ∧ mh_2 s = (q 3) (4 * s + 1)) ∧ (∀ k, k < pl → tr_3 k = (q 4) k) ∧ ∀ g, g < n → h_4 g = hA m n (m 7) pl pl g := hu
  show Go E Q 4 0 0 4 [(0, .ref (a 0))] [] (modelW cI a (pA (pA (pA (pA (pA q 8 tk_1) 9 mh_2) 7 tr_3) 10 h_4) 18 (upd (upd (upd (q 18) 7 (q 18 2)) 8 (chR m n (m 7) pl)) 9 (nI (flN m n (m 7) pl)))))
  refine g_iconst hE dX5_lasts_4 0 (by decide) ?_
  refine g_istore_n hE dX5_lasts_5 [(1, .int 0), (0, .ref (a 0))] rfl (by decide) rfl ?_
  have L6 : ∀ (n_6 : Nat) (g : Nat) (fh : Nat → Int32), (g ≤ n) → (∀ j, j < g → fh j = hA m n (m 7) pl pl j) → (n - g < n_6) → Go E Q 4 0 0 6 [(0, .ref (a 0)), (1, .int (nI g))] [] (modelW cI a (pA (pA (pA (pA (pA (pA q 8 tk_1) 9 mh_2) 7 tr_3) 10 h_4) 18 (upd (upd (upd (q 18) 7 (q 18 2)) 8 (chR m n (m 7) pl)) 9 (nI (flN m n (m 7) pl)))) 11 fh)) := by
    intro n_6
    induction n_6 with
    | zero => intro g fh hg hf hm_6; exact absurd hm_6 (Nat.not_lt_zero _)
    | succ n_6 ih_6 =>
      intro g fh hg hf hm_6
      refine g_iload_n hE dX5_lasts_6 1 rfl ?_
      refine g_aload_n hE dX5_lasts_7 0 rfl ?_
      refine g_get hE fl_X5_64 dX5_lasts_8 0 rfl rfl ?_
      refine g_icmp_ge hE 32 dX5_lasts_11 (by decide) (fun c6 => ?_) (fun c6 => ?_)
      · have kc6 := nat_le_t (show (q 18 0) = nI n from hgr) (show (nI g) = nI g from rfl) (by omega) (by omega) c6
        refine g_iconst hE dX5_lasts_32 1 (by decide) ?_
        refine g_istore_n hE dX5_lasts_33 [(1, .int 1), (0, .ref (a 0))] rfl (by decide) rfl ?_
        refine g_iconst hE dX5_lasts_34 0 (by decide) ?_
        refine g_istore_n hE dX5_lasts_35 [(2, .int 0), (1, .int 1), (0, .ref (a 0))] rfl (by decide) rfl ?_
        have L36 : ∀ (n_36 : Nat) (t : Nat) (x : Int32) (mh : Nat → Int32) (h : Nat → Int32) (cho : Int32) (fal : Int32), (t ≤ 200) → (LaX m n pl t x) → (∀ s, s < sv → mh s = laM m n pl t 4 s) → (fal = nI (flN (laM m n pl t) n (m 7) pl)) → (201 - t < n_36) → Go E Q 4 0 0 36 [(0, .ref (a 0)), (1, .int x), (2, .int (nI t))] [] (modelW cI a (pA (pA (pA (pA (pA (pA q 8 tk_1) 9 mh) 7 tr_3) 10 h) 18 (upd (upd (upd (q 18) 7 (q 18 2)) 8 cho) 9 fal)) 11 fh)) := by
          intro n_36
          induction n_36 with
          | zero => intro t x mh h cho fal ht hx hm hfal hm_36; exact absurd hm_36 (Nat.not_lt_zero _)
          | succ n_36 ih_36 =>
            intro t x mh h cho fal ht hx hm hfal hm_36
            refine g_iload_n hE dX5_lasts_36 1 rfl ?_
            refine g_if_eq hE 102 dX5_lasts_37 (by decide) (fun c7 => ?_) (fun c7 => ?_)
            · refine g_iload_n hE dX5_lasts_102 2 rfl ?_
              exact g_iret hE hQ dX5_lasts_103 rfl ((nI t), (pA (pA (pA (pA (pA (pA q 8 tk_1) 9 mh) 7 tr_3) 10 h) 18 (upd (upd (upd (q 18) 7 (q 18 2)) 8 cho) 9 fal)) 11 fh)) rfl rfl ⟨la_res ht hx (Or.inl (show x = 0 from c7)), ⟨⟨rfl, rfl, rfl, rfl, rfl, rfl, rfl, rfl, rfl⟩, ⟨rfl, rfl, rfl, rfl, rfl, rfl, rfl⟩⟩⟩
            · have hx1 := LaX_1 hx (show ¬ x = 0 from c7)
              refine g_iload_n hE dX5_lasts_40 2 rfl ?_
              refine g_sipush hE dX5_lasts_41 200 (by decide) ?_
              refine g_icmp_ge hE 102 dX5_lasts_44 (by decide) (fun c8 => ?_) (fun c8 => ?_)
              · have kc8 := nat_le_t (show 200 = nI 200 from rfl) (show (nI t) = nI t from rfl) (by omega) (by omega) c8
                refine g_iload_n hE dX5_lasts_102 2 rfl ?_
                exact g_iret hE hQ dX5_lasts_103 rfl ((nI t), (pA (pA (pA (pA (pA (pA q 8 tk_1) 9 mh) 7 tr_3) 10 h) 18 (upd (upd (upd (q 18) 7 (q 18 2)) 8 cho) 9 fal)) 11 fh)) rfl rfl ⟨la_res ht hx (Or.inr (by omega)), ⟨⟨rfl, rfl, rfl, rfl, rfl, rfl, rfl, rfl, rfl⟩, ⟨rfl, rfl, rfl, rfl, rfl, rfl, rfl⟩⟩⟩
              · have kc8 := nat_le_f (show 200 = nI 200 from rfl) (show (nI t) = nI t from rfl) (by omega) (by omega) c8
                refine g_iinc hE dX5_lasts_47 2 (nI (t + 1)) [(2, .int (nI (t + 1))), (0, .ref (a 0)), (1, .int x)] rfl (nI_1 _) (by decide) rfl ?_
                refine g_aload_n hE dX5_lasts_50 1 rfl ?_
                refine g_callV hE (c_X5_wearOut cI cS a (pA (pA (pA (pA (pA (pA q 8 tk_1) 9 mh) 7 tr_3) 10 h) 18 (upd (upd (upd (q 18) 7 (q 18 2)) 8 cho) 9 fal)) 11 fh) hpl hpl6 hsv8 (laM m n pl t) (m 7) (ra_mk hTQ h5.2.1) (fun s hs => hw_la hRQ hs (h5.1 s hs).1 (hm s hs)) hfal) mk_X5_wearOut mv_X5_wearOut ml_X5_198 dX5_lasts_51 (As := []) (rest := []) rfl rfl 0 rfl (show vwCl[5]? = some (RX5, TX5, 32) from rfl) (by decide) (by decide) (Nat.le_of_ble_eq_true rfl) (by decide) (by decide) [0, 1, 2, 3, 4, 5, 6, 7, 8, 9, 10, 11, 12, 13, 14, 15, 16, 17, 18] rfl (by decide) (fun u => Nat.le_of_ble_eq_true rfl) (ws' := fun u => modelW cI a (pA (pA (pA (pA (pA (pA (pA q 8 tk_1) 9 mh) 7 tr_3) 10 h) 18 (upd (upd (upd (q 18) 7 (q 18 2)) 8 cho) 9 fal)) 11 fh) 9 u)) (fun u => rfl) (fun u hu => ?_)
                obtain ⟨mh_9, rfl⟩ : ∃ z, z = u := ⟨_, rfl⟩
                have h10 : ∀ s, s < sv → mh_9 s = wrM (laM m n pl t) n (m 7) pl 4 s := hu
                show Go E Q 4 0 0 54 [(2, .int (nI (t + 1))), (0, .ref (a 0)), (1, .int x)] [] (modelW cI a (pA (pA (pA (pA (pA (pA (pA q 8 tk_1) 9 mh) 7 tr_3) 10 h) 18 (upd (upd (upd (q 18) 7 (q 18 2)) 8 cho) 9 fal)) 11 fh) 9 mh_9))
                refine g_aload_n hE dX5_lasts_54 1 rfl ?_
                refine g_callV hE (c_X5_shakeOnce cI cS a (pA (pA (pA (pA (pA (pA (pA q 8 tk_1) 9 mh) 7 tr_3) 10 h) 18 (upd (upd (upd (q 18) 7 (q 18 2)) 8 cho) 9 fal)) 11 fh) 9 mh_9) hgr hn6 hpl hpl6 hsv8 (laM m n pl (t + 1)) (m 7) (sa_la hRQ rfl rfl rfl (fun s hs => (h5.1 s hs).1.trans (hTQ.2.1 s hs).1) h10) (ra_mk hTQ h5.2.1)) mk_X5_shakeOnce mv_X5_shakeOnce ml_X5_189 dX5_lasts_55 (As := []) (rest := []) rfl rfl 0 rfl (show vwCl[5]? = some (RX5, TX5, 32) from rfl) (by decide) (by decide) (Nat.le_of_ble_eq_true rfl) (by decide) (by decide) [0, 1, 2, 3, 4, 5, 6, 7, 8, 9, 10, 11, 12, 13, 14, 15, 16, 17, 18] rfl (by decide) (fun u => Nat.le_of_ble_eq_true rfl) (ws' := fun u => modelW cI a (pA (pA (pA (pA (pA (pA (pA (pA (pA q 8 tk_1) 9 mh) 7 tr_3) 10 h) 18 (upd (upd (upd (q 18) 7 (q 18 2)) 8 cho) 9 fal)) 11 fh) 9 mh_9) 10 u) 18 (upd (upd (upd (upd (upd (q 18) 7 (q 18 2)) 8 cho) 9 fal) 8 (chR (laM m n pl (t + 1)) n (m 7) pl)) 9 (nI (flN (laM m n pl (t + 1)) n (m 7) pl))))) (fun u => rfl) (fun u hu => ?_)
                obtain ⟨h_11, rfl⟩ : ∃ z, z = u := ⟨_, rfl⟩
                have h12 : ∀ g, g < n → h_11 g = hA (laM m n pl (t + 1)) n (m 7) pl pl g := hu
                show Go E Q 4 0 0 58 [(2, .int (nI (t + 1))), (0, .ref (a 0)), (1, .int x)] [] (modelW cI a (pA (pA (pA (pA (pA (pA (pA (pA (pA q 8 tk_1) 9 mh) 7 tr_3) 10 h) 18 (upd (upd (upd (q 18) 7 (q 18 2)) 8 cho) 9 fal)) 11 fh) 9 mh_9) 10 h_11) 18 (upd (upd (upd (upd (upd (q 18) 7 (q 18 2)) 8 cho) 9 fal) 8 (chR (laM m n pl (t + 1)) n (m 7) pl)) 9 (nI (flN (laM m n pl (t + 1)) n (m 7) pl)))))
                refine g_iconst hE dX5_lasts_58 0 (by decide) ?_
                refine g_istore_n hE dX5_lasts_59 [(3, .int 0), (2, .int (nI (t + 1))), (0, .ref (a 0)), (1, .int x)] rfl (by decide) rfl ?_
                have L60 : ∀ (n_60 : Nat) (g : Nat) (x2 : Int32), (g ≤ n) → (EX h_11 fh n g x2) → (n - g < n_60) → Go E Q 4 0 0 60 [(0, .ref (a 0)), (1, .int x2), (2, .int (nI (t + 1))), (3, .int (nI g))] [] (modelW cI a (pA (pA (pA (pA (pA (pA (pA (pA (pA q 8 tk_1) 9 mh) 7 tr_3) 10 h) 18 (upd (upd (upd (q 18) 7 (q 18 2)) 8 cho) 9 fal)) 11 fh) 9 mh_9) 10 h_11) 18 (upd (upd (upd (upd (upd (q 18) 7 (q 18 2)) 8 cho) 9 fal) 8 (chR (laM m n pl (t + 1)) n (m 7) pl)) 9 (nI (flN (laM m n pl (t + 1)) n (m 7) pl))))) := by
                  intro n_60
                  induction n_60 with
                  | zero => intro g x2 hg2 hEx hm_60; exact absurd hm_60 (Nat.not_lt_zero _)
                  | succ n_60 ih_60 =>
                    intro g x2 hg2 hEx hm_60
                    refine g_iload_n hE dX5_lasts_60 3 rfl ?_
                    refine g_aload_n hE dX5_lasts_61 0 rfl ?_
                    refine g_get hE fl_X5_64 dX5_lasts_62 0 rfl rfl ?_
                    refine g_icmp_ge hE 99 dX5_lasts_65 (by decide) (fun c13 => ?_) (fun c13 => ?_)
                    · have kc13 := nat_le_t (show (q 18 0) = nI n from hgr) (show (nI g) = nI g from rfl) (by omega) (by omega) c13
                      refine g_goto hE 36 dX5_lasts_99 (by decide) ?_
                      refine g_locals [0, 1, 2] [(0, .ref (a 0)), (1, .int x2), (2, .int (nI (t + 1)))] rfl ?_
                      exact ih_36 (t + 1) x2 mh_9 h_11 (chR (laM m n pl (t + 1)) n (m 7) pl) (nI (flN (laM m n pl (t + 1)) n (m 7) pl)) (by first | assumption | omega) (LaX_s hpl6 hx hx1 (by have e : g = n := (by omega); rw [e] at hEx; exact hEx) h12 (fun j hj => hf j (by omega))) (fun s hs => by rw [la_4 (RQ_DR hRQ) hsv8]; exact h10 s hs) rfl (by omega)
                    · have kc13 := nat_le_f (show (q 18 0) = nI n from hgr) (show (nI g) = nI g from rfl) (by omega) (by omega) c13
                      refine g_iload_n hE dX5_lasts_68 1 rfl ?_
                      refine g_if_eq hE 91 dX5_lasts_69 (by decide) (fun c14 => ?_) (fun c14 => ?_)
                      · refine g_iconst hE dX5_lasts_91 0 (by decide) ?_
                        refine g_istore_n hE dX5_lasts_92 [(1, .int 0), (0, .ref (a 0)), (2, .int (nI (t + 1))), (3, .int (nI g))] rfl (by decide) rfl ?_
                        refine g_iinc hE dX5_lasts_93 3 (nI (g + 1)) [(3, .int (nI (g + 1))), (1, .int 0), (0, .ref (a 0)), (2, .int (nI (t + 1)))] rfl (nI_1 _) (by decide) rfl ?_
                        refine g_goto hE 60 dX5_lasts_96 (by decide) ?_
                        refine g_locals [2, 1, 3, 0] [(0, .ref (a 0)), (1, .int 0), (2, .int (nI (t + 1))), (3, .int (nI (g + 1)))] rfl ?_
                        exact ih_60 (g + 1) 0 (by first | assumption | omega) (EX_0 hEx (show x2 = 0 from c14)) (by omega)
                      · refine g_aload_n hE dX5_lasts_72 0 rfl ?_
                        refine g_get hE fl_X5_40 dX5_lasts_73 0 rfl rfl ?_
                        refine g_iload_n hE dX5_lasts_76 3 rfl ?_
                        refine g_iald_n hE dX5_lasts_77 11 rfl (show (nI g) = nI g from rfl) (by omega) ?_
                        refine g_aload_n hE dX5_lasts_78 0 rfl ?_
                        refine g_get hE fl_X5_43 dX5_lasts_79 0 rfl rfl ?_
                        refine g_iload_n hE dX5_lasts_82 3 rfl ?_
                        refine g_iald_n hE dX5_lasts_83 12 rfl (show (nI g) = nI g from rfl) (by omega) ?_
                        refine g_icmp_ne hE 91 dX5_lasts_84 (by decide) (fun c15 => ?_) (fun c15 => ?_)
                        · refine g_iconst hE dX5_lasts_91 0 (by decide) ?_
                          refine g_istore_n hE dX5_lasts_92 [(1, .int 0), (0, .ref (a 0)), (2, .int (nI (t + 1))), (3, .int (nI g))] rfl (by decide) rfl ?_
                          refine g_iinc hE dX5_lasts_93 3 (nI (g + 1)) [(3, .int (nI (g + 1))), (1, .int 0), (0, .ref (a 0)), (2, .int (nI (t + 1)))] rfl (nI_1 _) (by decide) rfl ?_
                          refine g_goto hE 60 dX5_lasts_96 (by decide) ?_
                          refine g_locals [2, 1, 3, 0] [(0, .ref (a 0)), (1, .int 0), (2, .int (nI (t + 1))), (3, .int (nI (g + 1)))] rfl ?_
                          exact ih_60 (g + 1) 0 (by first | assumption | omega) (EX_n (x := x2) ⟨by omega, (show ¬ (h_11 g) = (fh g) from c15)⟩) (by omega)
                        · refine g_iconst hE dX5_lasts_87 1 (by decide) ?_
                          refine g_goto hE 92 dX5_lasts_88 (by decide) ?_
                          refine g_istore_n hE dX5_lasts_92 [(1, .int 1), (0, .ref (a 0)), (2, .int (nI (t + 1))), (3, .int (nI g))] rfl (by decide) rfl ?_
                          refine g_iinc hE dX5_lasts_93 3 (nI (g + 1)) [(3, .int (nI (g + 1))), (1, .int 1), (0, .ref (a 0)), (2, .int (nI (t + 1)))] rfl (nI_1 _) (by decide) rfl ?_
                          refine g_goto hE 60 dX5_lasts_96 (by decide) ?_
                          refine g_locals [2, 1, 3, 0] [(0, .ref (a 0)), (1, .int 1), (2, .int (nI (t + 1))), (3, .int (nI (g + 1)))] rfl ?_
                          exact ih_60 (g + 1) 1 (by first | assumption | omega) (EX_y hEx (show ¬ x2 = 0 from c14) (show (h_11 g) = (fh g) from c15)) (by omega)
                refine g_locals [2, 3, 1, 0] [(0, .ref (a 0)), (1, .int x), (2, .int (nI (t + 1))), (3, .int 0)] rfl ?_
                exact L60 _ 0 x (Nat.zero_le _) (Or.inl ⟨hx1, (fun j hj => absurd hj (Nat.not_lt_zero _))⟩) (Nat.lt_succ_self _)
        refine g_locals [2, 1, 0] [(0, .ref (a 0)), (1, .int 1), (2, .int 0)] rfl ?_
        exact L36 _ 0 1 mh_2 h_4 (chR m n (m 7) pl) (nI (flN m n (m 7) pl)) (Nat.zero_le _) LaX_0 (fun s hs => (h5.1 s hs).2.trans (hTQ.2.1 s hs).2.1) rfl (Nat.lt_succ_self _)
      · have kc6 := nat_le_f (show (q 18 0) = nI n from hgr) (show (nI g) = nI g from rfl) (by omega) (by omega) c6
        refine g_aload_n hE dX5_lasts_14 0 rfl ?_
        refine g_get hE fl_X5_43 dX5_lasts_15 0 rfl rfl ?_
        refine g_iload_n hE dX5_lasts_18 1 rfl ?_
        refine g_aload_n hE dX5_lasts_19 0 rfl ?_
        refine g_get hE fl_X5_40 dX5_lasts_20 0 rfl rfl ?_
        refine g_iload_n hE dX5_lasts_23 1 rfl ?_
        refine g_iald_n hE dX5_lasts_24 11 rfl (show (nI g) = nI g from rfl) (by omega) ?_
        refine g_iast_n hE dX5_lasts_25 12 rfl (show (nI g) = nI g from rfl) (by omega) (modelW cI a (pA (pA (pA (pA (pA (pA (pA q 8 tk_1) 9 mh_2) 7 tr_3) 10 h_4) 18 (upd (upd (upd (q 18) 7 (q 18 2)) 8 (chR m n (m 7) pl)) 9 (nI (flN m n (m 7) pl)))) 11 fh) 11 (upd fh g (h_4 g)))) rfl ?_
        refine g_iinc hE dX5_lasts_26 1 (nI (g + 1)) [(1, .int (nI (g + 1))), (0, .ref (a 0))] rfl (nI_1 _) (by decide) rfl ?_
        refine g_goto hE 6 dX5_lasts_29 (by decide) ?_
        refine g_locals [1, 0] [(0, .ref (a 0)), (1, .int (nI (g + 1)))] rfl ?_
        exact ih_6 (g + 1) (upd fh g (h_4 g)) (by first | assumption | omega) (upd_pre hf (h5.2.2 g (by omega))) (by omega)
  refine g_locals [1, 0] [(0, .ref (a 0)), (1, .int 0)] rfl ?_
  exact L6 _ 0 (q 11) (Nat.zero_le _) (fun j hj => absurd hj (Nat.not_lt_zero _)) (Nat.lt_succ_self _)
