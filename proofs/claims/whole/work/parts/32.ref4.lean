/-! the reference: shaking calls -/
def RG (m : MS) (n sv pl : Nat) : Prop := (∀ g, g < n → 1 ≤ m 0 g ∧ m 0 g ≤ 60 ∧ 0 ≤ m 1 g ∧ m 1 g ≤ 9999 ∧ 0 ≤ m 2 g ∧ m 2 g ≤ 99) ∧ (∀ s, s < sv → 0 ≤ m 3 s ∧ m 3 s ≤ 3 ∧ 1 ≤ m 4 s ∧ m 4 s ≤ 60 ∧ 1 ≤ m 5 s ∧ m 5 s ≤ 99999 ∧ 0 ≤ m 6 s ∧ m 6 s ≤ 3) ∧ (∀ j k, j < k → k < pl → ¬ m 7 j = m 7 k) ∧ 0 ≤ m 9 3 ∧ m 9 3 ≤ 1000000
def RQ (q m : MS) (n sv pl : Nat) : Prop := MW m n sv pl ∧ TQ q m n sv pl ∧ RG m n sv pl
/-- what the other calls keep: tape, kept image, sheets -/
def OF (q2 q : MS) : Prop := q2 5 = q 5 ∧ q2 13 = q 13 ∧ q2 14 = q 14 ∧ q2 15 = q 15 ∧ q2 16 = q 16 ∧ q2 18 4 = q 18 4 ∧ q2 18 13 = q 18 13
def TF (q2 q : MS) : Prop := q2 0 = q 0 ∧ q2 1 = q 1 ∧ q2 2 = q 2 ∧ q2 3 = q 3 ∧ q2 4 = q 4 ∧ q2 18 0 = q 18 0 ∧ q2 18 1 = q 18 1 ∧ q2 18 2 = q 18 2 ∧ q2 18 3 = q 18 3
theorem TF_TQ {q2 q m : MS} {n sv pl : Nat} (h : TF q2 q) (hT : TQ q m n sv pl) : TQ q2 m n sv pl := by
  unfold TQ
  rw [h.1, h.2.1, h.2.2.1, h.2.2.2.1, h.2.2.2.2.1, h.2.2.2.2.2.1, h.2.2.2.2.2.2.1, h.2.2.2.2.2.2.2.1, h.2.2.2.2.2.2.2.2]
  exact hT
theorem TF_RQ {q2 q m : MS} {n sv pl : Nat} (h : TF q2 q) (hT : RQ q m n sv pl) : RQ q2 m n sv pl := ⟨hT.1, TF_TQ h hT.2.1, hT.2.2⟩
/-- rows of different sieves -/
def DR (row : Nat → Int32) (l sv : Nat) : Prop := (∀ j k, j < k → k < l → ¬ row j = row k) ∧ ∀ k, k < l → ∃ s, s < sv ∧ row k = nI s
theorem RQ_DR {q m : MS} {n sv pl : Nat} (h : RQ q m n sv pl) : DR (m 7) pl sv := ⟨h.2.2.2.2.1, fun k hk => (h.2.1.2.2.1 k hk).2⟩
theorem wr_4 {m : MS} {n s l sv : Nat} {row : Nat → Int32} (hd : DR row l sv) (hsv : sv ≤ 8) (hs : s < 8) : ∀ {k : Nat}, k ≤ l → (∀ j, j < k → ¬ row j = nI s) → wrM m n row k 4 s = m 4 s
  | 0, _, _ => rfl
  | k + 1, hk, h => by
    rw [wrM]
    have ih := wr_4 (m := m) (n := n) hd hsv hs (k := k) (by omega) (fun j hj => h j (by omega))
    split
    · exact ih
    · obtain ⟨s', h1, h2⟩ := hd.2 k (by omega)
      show putv (wrM m n row k 4) 8 (row k) _ s = m 4 s
      have hne : s ≠ s' := fun e => h k (by omega) (by rw [h2, e])
      rw [h2, putv_n (by omega) (by decide)]
      show (if s = s' then _ else wrM m n row k 4 s) = m 4 s
      rw [if_neg hne, ih]
theorem fall_wr {m : MS} {n l sv c k : Nat} {row : Nat → Int32} (hd : DR row l sv) (hsv : sv ≤ 8) (hk : k < l) : fallS (wrM m n row k) n (row k) c = fallS m n (row k) c := by
  obtain ⟨s, h1, h2⟩ := hd.2 k hk
  have e4 : atv (wrM m n row k 4) 8 (row k) = atv (m 4) 8 (row k) := by
    rw [h2, atv_n (by omega) (by decide), atv_n (by omega) (by decide)]
    exact wr_4 hd hsv (by omega) (by omega) (fun j hj => by rw [← h2]; exact hd.1 j k hj hk)
  unfold fallS bigS
  rw [e4, wr_off (j := 5) rfl k, wr_off (j := 1) rfl k, wr_off (j := 3) rfl k, wr_off (j := 0) rfl k]
theorem sh_wr {m : MS} {n l sv : Nat} {row : Nat → Int32} (hd : DR row l sv) (hsv : sv ≤ 8) : ∀ k, k ≤ l → (shS m n row k).1 = wrM m n row k ∧ (shS m n row k).2.1 = cmS m n row k ∧ (shS m n row k).2.2 = vS m n row l k
  | 0, _ => ⟨rfl, rfl, rfl⟩
  | k + 1, hk => by
    obtain ⟨h1, h2, h3⟩ := sh_wr (m := m) (n := n) hd hsv k (by omega)
    have e2 : (shS m n row (k + 1)).2.1 = cmS m n row (k + 1) := by
      show fallS (shS m n row k).1 n (row k) (shS m n row k).2.1 = fallS m n (row k) (cmS m n row k)
      rw [h1, h2, fall_wr hd hsv (by omega)]
    refine ⟨?_, e2, ?_⟩
    · show (if (shS m n row (k + 1)).2.1 = 0 then (shS m n row k).1 else widS (shS m n row k).1 (row k)) = wrM m n row (k + 1)
      rw [e2, h1]; rfl
    · show (shS m n row k).2.2 + wS m n (nd (shS m n row k).2.1 (shS m n row (k + 1)).2.1) = vS m n row l (k + 1)
      rw [h3, e2, h2, vS, hpS, if_pos (by omega)]
theorem shV_vS {m : MS} {n l sv : Nat} {row : Nat → Int32} (hd : DR row l sv) (hsv : sv ≤ 8) : shV m n row l = vS m n row l (l + 1) := by
  obtain ⟨h1, h2, h3⟩ := sh_wr (m := m) (n := n) hd hsv l (Nat.le_refl _)
  rw [shV, h3, h2, vS, hpS, if_neg (by omega)]
theorem shM_wr {m : MS} {n l sv : Nat} {row : Nat → Int32} (hd : DR row l sv) (hsv : sv ≤ 8) : shM m n row l = shkS (wrM m n row l) := by
  rw [shM, (sh_wr (m := m) (n := n) hd hsv l (Nat.le_refl _)).1]
theorem wid_60 : ∀ A, A ≤ 60 → 1 ≤ A → ∀ T, T ≤ 2 → ∀ W, W ≤ 3 → 1 ≤ (if (60 : Int32) < nI A + nI T * nI W then 60 else nI A + nI T * nI W) ∧ (if (60 : Int32) < nI A + nI T * nI W then 60 else nI A + nI T * nI W) ≤ 60 := by decide +kernel
theorem tmS_n (k : Int32) : ∃ T, T ≤ 2 ∧ tmS k = nI T := by
  unfold tmS
  split
  · exact ⟨0, by decide, rfl⟩
  · split
    · exact ⟨1, by decide, rfl⟩
    · exact ⟨2, by decide, rfl⟩
theorem rng_n {x lo hi : Int32} {a b : Nat} (h1 : lo ≤ x) (h2 : x ≤ hi) (ha : lo = nI a) (hb : hi = nI b) (hb2 : b < 2 ^ 31) (hab : a ≤ b) : ∃ j, a ≤ j ∧ j ≤ b ∧ x = nI j := by
  have h0 : (0 : Int32) ≤ x := Int32.le_trans (by rw [ha]; exact nI_le (a := 0) (by omega) (by omega)) h1
  obtain ⟨j, j1, j2, _⟩ := nat_of_le (b := b) ⟨h0, h2⟩ hb hb2
  refine ⟨j, ?_, j1, j2⟩
  subst j2; subst ha
  exact (nI_leI (by omega) (by omega)).mp h1
theorem wr_rng {m : MS} {n l sv pl : Nat} {row : Nat → Int32} (hG : RG m n sv pl) (hd : DR row l sv) (hsv : sv ≤ 8) : ∀ k, k ≤ l → ∀ s, s < sv → 1 ≤ wrM m n row k 4 s ∧ wrM m n row k 4 s ≤ 60
  | 0, _, s, hs => ⟨(hG.2.1 s hs).2.2.1, (hG.2.1 s hs).2.2.2.1⟩
  | k + 1, hk, s, hs => by
    have ih := wr_rng hG hd hsv k (by omega)
    rw [wrM]
    split
    · exact ih s hs
    · obtain ⟨s', h1, h2⟩ := hd.2 k (by omega)
      show 1 ≤ putv (wrM m n row k 4) 8 (row k) _ s ∧ putv (wrM m n row k 4) 8 (row k) _ s ≤ 60
      rw [h2, putv_n (by omega) (by decide), atv_n (by omega) (by decide), atv_n (by omega) (by decide), atv_n (by omega) (by decide), wr_off (j := 6) rfl k]
      by_cases e : s = s'
      · subst e
        obtain ⟨A, a1, a2, a3⟩ := rng_n (a := 1) (b := 60) (ih s hs).1 (ih s hs).2 rfl rfl (by decide) (by decide)
        obtain ⟨W, w1, w2, w3⟩ := rng_n (a := 0) (b := 3) (hG.2.1 s hs).2.2.2.2.2.2.1 (hG.2.1 s hs).2.2.2.2.2.2.2 rfl rfl (by decide) (by decide)
        obtain ⟨T, t1, t2⟩ := tmS_n (wrM m n row k 3 s)
        show 1 ≤ (if s = s then _ else _) ∧ (if s = s then _ else _) ≤ (60 : Int32)
        rw [if_pos rfl, a3, w3, t2]
        exact wid_60 A a2 a1 T t1 W w2
      · show 1 ≤ (if s = s' then _ else _) ∧ (if s = s' then _ else wrM m n row k 4 s) ≤ 60
        rw [if_neg e]; exact ih s hs
theorem ev_sh {x : Int32} (h0 : 0 ≤ x) (h1 : x ≤ 1000000) : evS x = (if 1000000 < (x + 1) then 1000000 else (x + 1)) ∧ 0 ≤ evS x ∧ evS x ≤ 1000000 := by
  obtain ⟨j, j0, j1, j2⟩ := rng_n (a := 0) (b := 1000000) h0 h1 rfl rfl (by decide) (by decide)
  subst j2
  unfold evS
  by_cases e : j = 1000000
  · subst e; exact ⟨by decide, by decide, by decide⟩
  · have e1 : ¬ nI j = 1000000 := fun q => e ((nI_eq (b := 1000000) (by omega) (by decide)).mp q)
    have e2 : nI j + 1 = nI (j + 1) := (nI_1 j).symm ▸ rfl
    rw [if_neg e1, e2]
    have e3 : ¬ (1000000 : Int32) < nI (j + 1) := fun q => by
      have := (nI_ltI (a := 1000000) (by decide) (by omega)).mp q
      omega
    rw [if_neg e3]
    exact ⟨rfl, nI_le (a := 0) (by omega) (by omega), nI_le (b := 1000000) (by omega) (by decide)⟩
theorem shk_off {w : MS} {j : Nat} (hj : Nat.beq j 9 = false) : shkS w j = w j := by
  show cond (Nat.beq j 9) _ (w j) = w j
  rw [hj]; rfl
theorem RQ_keep {q m st : MS} {n sv pl l : Nat} {row mh : Nat → Int32} (h : RQ q m n sv pl) (hd : DR row l sv) (hm : ∀ s, s < sv → mh s = wrM m n row l 4 s) (e0 : st 0 = q 0) (e1 : st 1 = q 1) (e2 : st 2 = q 2) (e3 : st 3 = kpZ (q 3) mh sv) (e4 : st 4 = q 4) (c0 : st 18 0 = q 18 0) (c1 : st 18 1 = q 18 1) (c2 : st 18 2 = q 18 2) (c3 : st 18 3 = evS (q 18 3)) : RQ st (shM m n row l) n sv pl := by
  have hsv := h.1.2.2.2.1
  rw [shM_wr hd hsv]
  obtain ⟨hM, hT, hG⟩ := h
  have f : ∀ j, Nat.beq j 9 = false → Nat.beq j 4 = false → shkS (wrM m n row l) j = m j := fun j a b => (shk_off a).trans (wr_off b l)
  have f4 : shkS (wrM m n row l) 4 = wrM m n row l 4 := shk_off rfl
  have f9 : ∀ j, j < 3 → shkS (wrM m n row l) 9 j = m 9 j := fun j hj => by
    show (if j = 3 then _ else wrM m n row l 9 j) = m 9 j
    rw [if_neg (by omega), wr_off (j := 9) rfl l]
  have f93 : shkS (wrM m n row l) 9 3 = evS (m 9 3) := by
    show (if 1000000 < (wrM m n row l 9 3 + 1) then 1000000 else (wrM m n row l 9 3 + 1)) = _
    rw [wr_off (j := 9) rfl l, ← (ev_sh hG.2.2.2.1 hG.2.2.2.2).1]
  refine ⟨?_, ?_, ?_⟩
  · unfold MW; rw [f9 0 (by decide), f9 1 (by decide), f9 2 (by decide)]; exact hM
  · unfold TQ
    rw [f 0 rfl rfl, f 1 rfl rfl, f 2 rfl rfl, f 3 rfl rfl, f4, f 5 rfl rfl, f 6 rfl rfl, f 7 rfl rfl, f93, e0, e1, e2, e3, e4, c0, c1, c2, c3, hT.2.2.2.2.2.2]
    refine ⟨hT.1, fun s hs => ?_, hT.2.2.1, hT.2.2.2.1, hT.2.2.2.2.1, hT.2.2.2.2.2.1, rfl⟩
    rw [kpZ_1 hs, kpZ_n (by omega), kpZ_n (by omega), kpZ_n (by omega)]
    exact ⟨(hT.2.1 s hs).1, hm s hs, (hT.2.1 s hs).2.2⟩
  · unfold RG
    rw [f 0 rfl rfl, f 1 rfl rfl, f 2 rfl rfl, f 3 rfl rfl, f4, f 5 rfl rfl, f 6 rfl rfl, f 7 rfl rfl, f93]
    have ev := ev_sh hG.2.2.2.1 hG.2.2.2.2
    refine ⟨hG.1, fun s hs => ?_, hG.2.2.1, ev.2⟩
    have w := wr_rng hG hd hsv l (Nat.le_refl _) s hs
    have r := hG.2.1 s hs
    exact ⟨r.1, r.2.1, w.1, w.2, r.2.2.2.2⟩
theorem hw_of {q m : MS} {n sv pl s : Nat} {a b : Int32} (h : RQ q m n sv pl) (hs : s < sv) (hb : a = q 3 (4 * s) ∧ b = q 3 (4 * s + 1)) : a = m 3 s ∧ b = m 4 s ∧ q 3 (4 * s + 3) = m 6 s ∧ 0 ≤ m 3 s := ⟨hb.1.trans (h.2.1.2.1 s hs).1, hb.2.trans (h.2.1.2.1 s hs).2.1, (h.2.1.2.1 s hs).2.2.2, (h.2.2.2.1 s hs).1⟩
set_option maxHeartbeats 4000000 in
set_option maxRecDepth 100000 in
theorem c_X5_found (cI cS : ClassId) (a : Nat → Nat) (q : Nat → Nat → Int32) {n sv pl : Nat} (m : MS) (hRQ : RQ q m n sv pl) (k wh : Int32) : CT cI cS yX5_found cX5_found 3 (some .int) 3 [.ref (a 0), .int k, .int wh] (modelW cI a q) 0 0 (fun u : Int32 × (Nat → Nat → Int32) => u.1 = fFound m n pl k wh ∧ TF u.2 q ∧ OF u.2 q) (fun u => some (.int u.1)) (fun u => (modelW cI a u.2)) := by
  refine ct_intro (by decide) (Nat.le_of_ble_eq_true rfl) (fun E Q hE hQ hI => ?_)
  have hE : CxOk E cI cS RX5 cX5_found 3 (some .int) 3 0 0 := hE
  show Go E Q 3 0 0 0 [(0, .ref (a 0)), (1, .int k), (2, .int wh)] [] (modelW cI a q)
  have hM := hRQ.1
  have hTQ := hRQ.2.1
  have hRG := hRQ.2.2
  have hgr := hTQ.2.2.2.1
  have hsv := hTQ.2.2.2.2.1
  have hpl := hTQ.2.2.2.2.2.1
  have hn6 := hM.2.1
  have hsv8 := hM.2.2.2.1
  have hpl6 := hM.2.2.2.2.2
  have hc0 : m 9 0 = q 18 0 := hM.1.trans hgr.symm
  have hc1 : m 9 1 = q 18 1 := hM.2.2.1.trans hsv.symm
  have hc2 : m 9 2 = q 18 2 := hM.2.2.2.2.1.trans hpl.symm
  refine g_iload_n hE dX5_found_0 1 rfl ?_
  refine g_i2l hE dX5_found_1 ?_
  refine g_lconst hE dX5_found_2 0 (by decide) ?_
  refine g_aload_n hE dX5_found_3 0 rfl ?_
  refine g_get hE fl_X5_102 dX5_found_4 0 rfl rfl ?_
  refine g_i2l hE dX5_found_7 ?_
  refine g_callS hE (c_X5_in cI cS (Int32.toInt64 k) 0 (Int32.toInt64 (q 18 2))) mk_X5_in st_X5_in ml_X5_68 dX5_found_8 (As := [.long (Int32.toInt64 k), .long 0, .long (Int32.toInt64 (q 18 2))]) (rest := []) rfl rfl (by decide) (by decide) (Nat.le_of_ble_eq_true rfl) (by decide) (by decide) [] rfl (by decide) (fun u => Nat.le_of_ble_eq_true rfl) (ws' := fun u => modelW cI a q) (fun u => rfl) (fun u hu => ?_)
  obtain ⟨r_1, rfl⟩ : ∃ z, z = u := ⟨_, rfl⟩
  have h2 : r_1 = if 0 ≤ k ∧ k ≤ (q 18 2) then 1 else 0 := (in_i (x := k) (lo := 0) (hi := (q 18 2)) rfl rfl hu)
  by_cases c3 : 0 ≤ k ∧ k ≤ (q 18 2)
  · rw [if_pos c3] at h2
    subst h2
    show Go E Q 3 0 0 11 [(0, .ref (a 0)), (1, .int k), (2, .int wh)] [.int 1] (modelW cI a q)
    refine g_if_eq hE 26 dX5_found_11 (by decide) (fun c4 => absurd c4 (by decide)) (fun c4 => ?_)
    refine g_iload_n hE dX5_found_14 2 rfl ?_
    refine g_i2l hE dX5_found_15 ?_
    refine g_lconst hE dX5_found_16 0 (by decide) ?_
    refine g_ldc2 hE dX5_found_17 cl_X5_89 ?_
    refine g_callS hE (c_X5_in cI cS (Int32.toInt64 wh) 0 2) mk_X5_in st_X5_in ml_X5_68 dX5_found_20 (As := [.long (Int32.toInt64 wh), .long 0, .long 2]) (rest := []) rfl rfl (by decide) (by decide) (Nat.le_of_ble_eq_true rfl) (by decide) (by decide) [] rfl (by decide) (fun u => Nat.le_of_ble_eq_true rfl) (ws' := fun u => modelW cI a q) (fun u => rfl) (fun u hu => ?_)
    obtain ⟨r_5, rfl⟩ : ∃ z, z = u := ⟨_, rfl⟩
    have h6 : r_5 = if 0 ≤ wh ∧ wh ≤ 2 then 1 else 0 := (in_i (x := wh) (lo := 0) (hi := 2) rfl rfl hu)
    by_cases c7 : 0 ≤ wh ∧ wh ≤ 2
    · rw [if_pos c7] at h6
      subst h6
      show Go E Q 3 0 0 23 [(0, .ref (a 0)), (1, .int k), (2, .int wh)] [.int 1] (modelW cI a q)
      refine g_if_ne hE 28 dX5_found_23 (by decide) (fun c8 => ?_) (fun c8 => absurd c8 (by decide))
      obtain ⟨kn, hknl, hkn, hknc⟩ := nat_of_le c3 hpl (by omega)
      refine g_aload_n hE dX5_found_28 0 rfl ?_
      refine g_callV hE (c_X5_tryNow cI cS a q hgr hn6 hsv hsv8 hpl hpl6 m hTQ) mk_X5_tryNow mv_X5_tryNow ml_X5_192 dX5_found_29 (As := []) (rest := []) rfl rfl 0 rfl (show vwCl[5]? = some (RX5, TX5, 32) from rfl) (by decide) (by decide) (Nat.le_of_ble_eq_true rfl) (by decide) (by decide) [0, 1, 2, 3, 4, 5, 6, 7, 8, 9, 10, 11, 12, 13, 14, 15, 16, 17, 18] rfl (by decide) (fun u => Nat.le_of_ble_eq_true rfl) (ws' := fun u => modelW cI a (pA (pA (pA (pA (pA q 8 u.1) 9 u.2.1) 7 u.2.2.1) 10 u.2.2.2) 18 (upd (upd (upd (q 18) 7 (q 18 2)) 8 (chR m n (m 7) pl)) 9 (nI (flN m n (m 7) pl))))) (fun u => rfl) (fun u hu => ?_)
      obtain ⟨tk_9, mh_10, tr_11, h_12⟩ := u
      have h13 : (∀ s, s < sv → tk_9 s = (q 3) (4 * s) ∧ mh_10 s = (q 3) (4 * s + 1)) ∧ (∀ k, k < pl → tr_11 k = (q 4) k) ∧ ∀ g, g < n → h_12 g = hA m n (m 7) pl pl g := hu
      show Go E Q 3 0 0 32 [(0, .ref (a 0)), (1, .int k), (2, .int wh)] [] (modelW cI a (pA (pA (pA (pA (pA q 8 tk_9) 9 mh_10) 7 tr_11) 10 h_12) 18 (upd (upd (upd (q 18) 7 (q 18 2)) 8 (chR m n (m 7) pl)) 9 (nI (flN m n (m 7) pl)))))
      refine g_iload_n hE dX5_found_32 2 rfl ?_
      refine g_if_ne hE 44 dX5_found_33 (by decide) (fun c14 => ?_) (fun c14 => ?_)
      · refine g_iload_n hE dX5_found_44 2 rfl ?_
        refine g_iconst hE dX5_found_45 1 (by decide) ?_
        refine g_icmp_ne hE 57 dX5_found_46 (by decide) (fun c15 => ?_) (fun c15 => ?_)
        · refine g_aload_n hE dX5_found_57 0 rfl ?_
          refine g_iload_n hE dX5_found_58 1 rfl ?_
          refine g_callV hE (c_X5_valueIn cI cS a (pA (pA (pA (pA (pA q 8 tk_9) 9 mh_10) 7 tr_11) 10 h_12) 18 (upd (upd (upd (q 18) 7 (q 18 2)) 8 (chR m n (m 7) pl)) 9 (nI (flN m n (m 7) pl)))) hgr hn6 k (hpS m n (m 7) pl kn) (fun g hg => show (h_12 g = _ ↔ _) from by rw [hkn, h13.2.2 g hg]; exact hp_in hpl6 hknl hg) m (fun g hg => ⟨(hTQ.1 g hg).2.1, (hTQ.1 g hg).2.2, (hRG.1 g hg).2.2.2.2.2⟩)) mk_X5_valueIn mv_X5_valueIn ml_X5_180 dX5_found_59 (As := [.int k]) (rest := []) rfl rfl 0 rfl (show vwCl[5]? = some (RX5, TX5, 32) from rfl) (by decide) (by decide) (Nat.le_of_ble_eq_true rfl) (by decide) (by decide) [0, 1, 2, 3, 4, 5, 6, 7, 8, 9, 10, 11, 12, 13, 14, 15, 16, 17, 18] rfl (by decide) (fun u => Nat.le_of_ble_eq_true rfl) (ws' := fun u => modelW cI a (pA (pA (pA (pA (pA q 8 tk_9) 9 mh_10) 7 tr_11) 10 h_12) 18 (upd (upd (upd (q 18) 7 (q 18 2)) 8 (chR m n (m 7) pl)) 9 (nI (flN m n (m 7) pl))))) (fun u => rfl) (fun u hu => ?_)
          obtain ⟨r_16, rfl⟩ : ∃ z, z = u := ⟨_, rfl⟩
          have h17 : r_16 = (wS m n (hpS m n (m 7) pl kn)) := hu
          subst h17
          show Go E Q 3 0 0 62 [(0, .ref (a 0)), (1, .int k), (2, .int wh)] [.int (wS m n (hpS m n (m 7) pl kn))] (modelW cI a (pA (pA (pA (pA (pA q 8 tk_9) 9 mh_10) 7 tr_11) 10 h_12) 18 (upd (upd (upd (q 18) 7 (q 18 2)) 8 (chR m n (m 7) pl)) 9 (nI (flN m n (m 7) pl)))))
          exact g_iret hE hQ dX5_found_62 rfl ((wS m n (hpS m n (m 7) pl kn)), (pA (pA (pA (pA (pA q 8 tk_9) 9 mh_10) 7 tr_11) 10 h_12) 18 (upd (upd (upd (q 18) 7 (q 18 2)) 8 (chR m n (m 7) pl)) 9 (nI (flN m n (m 7) pl))))) rfl rfl ⟨(by have e : k.toNatClampNeg = kn := hknc.symm; simp only [fFound, hc0, hc1, hc2, if_pos c3, if_pos c7, if_neg (show ¬ wh = 0 from c14), if_neg (show ¬ wh = 1 from c15), if_pos trivial]; rw [e]), ⟨⟨rfl, rfl, rfl, rfl, rfl, rfl, rfl, rfl, rfl⟩, ⟨rfl, rfl, rfl, rfl, rfl, rfl, rfl⟩⟩⟩
        · refine g_aload_n hE dX5_found_49 0 rfl ?_
          refine g_iload_n hE dX5_found_50 1 rfl ?_
          refine g_callV hE (c_X5_amountIn cI cS a (pA (pA (pA (pA (pA q 8 tk_9) 9 mh_10) 7 tr_11) 10 h_12) 18 (upd (upd (upd (q 18) 7 (q 18 2)) 8 (chR m n (m 7) pl)) 9 (nI (flN m n (m 7) pl)))) hgr hn6 k (hpS m n (m 7) pl kn) (fun g hg => show (h_12 g = _ ↔ _) from by rw [hkn, h13.2.2 g hg]; exact hp_in hpl6 hknl hg) m (fun g hg => (hTQ.1 g hg).2.1)) mk_X5_amountIn mv_X5_amountIn ml_X5_176 dX5_found_51 (As := [.int k]) (rest := []) rfl rfl 0 rfl (show vwCl[5]? = some (RX5, TX5, 32) from rfl) (by decide) (by decide) (Nat.le_of_ble_eq_true rfl) (by decide) (by decide) [0, 1, 2, 3, 4, 5, 6, 7, 8, 9, 10, 11, 12, 13, 14, 15, 16, 17, 18] rfl (by decide) (fun u => Nat.le_of_ble_eq_true rfl) (ws' := fun u => modelW cI a (pA (pA (pA (pA (pA q 8 tk_9) 9 mh_10) 7 tr_11) 10 h_12) 18 (upd (upd (upd (q 18) 7 (q 18 2)) 8 (chR m n (m 7) pl)) 9 (nI (flN m n (m 7) pl))))) (fun u => rfl) (fun u hu => ?_)
          obtain ⟨r_18, rfl⟩ : ∃ z, z = u := ⟨_, rfl⟩
          have h19 : r_18 = (aS (m 1) (hpS m n (m 7) pl kn) n) := hu
          subst h19
          show Go E Q 3 0 0 54 [(0, .ref (a 0)), (1, .int k), (2, .int wh)] [.int (aS (m 1) (hpS m n (m 7) pl kn) n)] (modelW cI a (pA (pA (pA (pA (pA q 8 tk_9) 9 mh_10) 7 tr_11) 10 h_12) 18 (upd (upd (upd (q 18) 7 (q 18 2)) 8 (chR m n (m 7) pl)) 9 (nI (flN m n (m 7) pl)))))
          refine g_goto hE 62 dX5_found_54 (by decide) ?_
          exact g_iret hE hQ dX5_found_62 rfl ((aS (m 1) (hpS m n (m 7) pl kn) n), (pA (pA (pA (pA (pA q 8 tk_9) 9 mh_10) 7 tr_11) 10 h_12) 18 (upd (upd (upd (q 18) 7 (q 18 2)) 8 (chR m n (m 7) pl)) 9 (nI (flN m n (m 7) pl))))) rfl rfl ⟨(by have e : k.toNatClampNeg = kn := hknc.symm; simp only [fFound, hc0, hc1, hc2, if_pos c3, if_pos c7, if_neg (show ¬ wh = 0 from c14), if_pos (show wh = 1 from c15), if_pos trivial]; rw [e]), ⟨⟨rfl, rfl, rfl, rfl, rfl, rfl, rfl, rfl, rfl⟩, ⟨rfl, rfl, rfl, rfl, rfl, rfl, rfl⟩⟩⟩
      · refine g_aload_n hE dX5_found_36 0 rfl ?_
        refine g_iload_n hE dX5_found_37 1 rfl ?_
        refine g_callV hE (c_X5_grainsIn cI cS a (pA (pA (pA (pA (pA q 8 tk_9) 9 mh_10) 7 tr_11) 10 h_12) 18 (upd (upd (upd (q 18) 7 (q 18 2)) 8 (chR m n (m 7) pl)) 9 (nI (flN m n (m 7) pl)))) hgr hn6 k (hpS m n (m 7) pl kn) (fun g hg => show (h_12 g = _ ↔ _) from by rw [hkn, h13.2.2 g hg]; exact hp_in hpl6 hknl hg)) mk_X5_grainsIn mv_X5_grainsIn ml_X5_195 dX5_found_38 (As := [.int k]) (rest := []) rfl rfl 0 rfl (show vwCl[5]? = some (RX5, TX5, 32) from rfl) (by decide) (by decide) (Nat.le_of_ble_eq_true rfl) (by decide) (by decide) [0, 1, 2, 3, 4, 5, 6, 7, 8, 9, 10, 11, 12, 13, 14, 15, 16, 17, 18] rfl (by decide) (fun u => Nat.le_of_ble_eq_true rfl) (ws' := fun u => modelW cI a (pA (pA (pA (pA (pA q 8 tk_9) 9 mh_10) 7 tr_11) 10 h_12) 18 (upd (upd (upd (q 18) 7 (q 18 2)) 8 (chR m n (m 7) pl)) 9 (nI (flN m n (m 7) pl))))) (fun u => rfl) (fun u hu => ?_)
        obtain ⟨r_20, rfl⟩ : ∃ z, z = u := ⟨_, rfl⟩
        have h21 : r_20 = (nI (bs (fun g => Nat.testBit (hpS m n (m 7) pl kn) g) n)) := hu
        subst h21
        show Go E Q 3 0 0 41 [(0, .ref (a 0)), (1, .int k), (2, .int wh)] [.int (nI (bs (fun g => Nat.testBit (hpS m n (m 7) pl kn) g) n))] (modelW cI a (pA (pA (pA (pA (pA q 8 tk_9) 9 mh_10) 7 tr_11) 10 h_12) 18 (upd (upd (upd (q 18) 7 (q 18 2)) 8 (chR m n (m 7) pl)) 9 (nI (flN m n (m 7) pl)))))
        refine g_goto hE 62 dX5_found_41 (by decide) ?_
        exact g_iret hE hQ dX5_found_62 rfl ((nI (bs (fun g => Nat.testBit (hpS m n (m 7) pl kn) g) n)), (pA (pA (pA (pA (pA q 8 tk_9) 9 mh_10) 7 tr_11) 10 h_12) 18 (upd (upd (upd (q 18) 7 (q 18 2)) 8 (chR m n (m 7) pl)) 9 (nI (flN m n (m 7) pl))))) rfl rfl ⟨(by have e : k.toNatClampNeg = kn := hknc.symm; simp only [fFound, hc0, hc1, hc2, if_pos c3, if_pos c7, if_pos (show wh = 0 from c14), if_pos trivial]; rw [e]; exact congrArg nI (bs_self (fun g => hp_n))), ⟨⟨rfl, rfl, rfl, rfl, rfl, rfl, rfl, rfl, rfl⟩, ⟨rfl, rfl, rfl, rfl, rfl, rfl, rfl⟩⟩⟩
    · rw [if_neg c7] at h6
      subst h6
      show Go E Q 3 0 0 23 [(0, .ref (a 0)), (1, .int k), (2, .int wh)] [.int 0] (modelW cI a q)
      refine g_if_ne hE 28 dX5_found_23 (by decide) (fun c22 => absurd (by decide) c22) (fun c22 => ?_)
      refine g_iconst hE dX5_found_26 (-1) (by decide) ?_
      exact g_iret hE hQ dX5_found_27 rfl (-1, q) rfl rfl ⟨(by simp only [fFound, hc0, hc1, hc2, if_pos c3, if_neg c7, if_pos trivial]), ⟨⟨rfl, rfl, rfl, rfl, rfl, rfl, rfl, rfl, rfl⟩, ⟨rfl, rfl, rfl, rfl, rfl, rfl, rfl⟩⟩⟩
  · rw [if_neg c3] at h2
    subst h2
    show Go E Q 3 0 0 11 [(0, .ref (a 0)), (1, .int k), (2, .int wh)] [.int 0] (modelW cI a q)
    refine g_if_eq hE 26 dX5_found_11 (by decide) (fun c23 => ?_) (fun c23 => absurd (by decide) c23)
    refine g_iconst hE dX5_found_26 (-1) (by decide) ?_
    exact g_iret hE hQ dX5_found_27 rfl (-1, q) rfl rfl ⟨(by simp only [fFound, hc0, hc1, hc2, if_neg c3, if_pos trivial]), ⟨⟨rfl, rfl, rfl, rfl, rfl, rfl, rfl, rfl, rfl⟩, ⟨rfl, rfl, rfl, rfl, rfl, rfl, rfl⟩⟩⟩
set_option maxHeartbeats 4000000 in
set_option maxRecDepth 100000 in
theorem c_X5_where (cI cS : ClassId) (a : Nat → Nat) (q : Nat → Nat → Int32) {n sv pl : Nat} (m : MS) (hRQ : RQ q m n sv pl) (g : Int32) : CT cI cS yX5_where cX5_where 2 (some .int) 3 [.ref (a 0), .int g] (modelW cI a q) 0 0 (fun u : Int32 × (Nat → Nat → Int32) => (u.1 = if 0 ≤ g ∧ g < m 9 0 then hoR (hpS m n (m 7) pl) g.toNatClampNeg (pl + 1) 0 else -1) ∧ TF u.2 q ∧ OF u.2 q) (fun u => some (.int u.1)) (fun u => (modelW cI a u.2)) := by
  refine ct_intro (by decide) (Nat.le_of_ble_eq_true rfl) (fun E Q hE hQ hI => ?_)
  have hE : CxOk E cI cS RX5 cX5_where 2 (some .int) 3 0 0 := hE
  show Go E Q 2 0 0 0 [(0, .ref (a 0)), (1, .int g)] [] (modelW cI a q)
  have hM := hRQ.1
  have hTQ := hRQ.2.1
  have hRG := hRQ.2.2
  have hgr := hTQ.2.2.2.1
  have hsv := hTQ.2.2.2.2.1
  have hpl := hTQ.2.2.2.2.2.1
  have hn6 := hM.2.1
  have hsv8 := hM.2.2.2.1
  have hpl6 := hM.2.2.2.2.2
  have hc0 : m 9 0 = q 18 0 := hM.1.trans hgr.symm
  have hc1 : m 9 1 = q 18 1 := hM.2.2.1.trans hsv.symm
  have hc2 : m 9 2 = q 18 2 := hM.2.2.2.2.1.trans hpl.symm
  refine g_aload_n hE dX5_where_0 0 rfl ?_
  refine g_iload_n hE dX5_where_1 1 rfl ?_
  refine g_callV hE (c_X5_isGrain cI cS a q hgr hn6 g) mk_X5_isGrain mv_X5_isGrain ml_X5_85 dX5_where_2 (As := [.int g]) (rest := []) rfl rfl 0 rfl (show vwCl[5]? = some (RX5, TX5, 32) from rfl) (by decide) (by decide) (Nat.le_of_ble_eq_true rfl) (by decide) (by decide) [0, 1, 2, 3, 4, 5, 6, 7, 8, 9, 10, 11, 12, 13, 14, 15, 16, 17, 18] rfl (by decide) (fun u => Nat.le_of_ble_eq_true rfl) (ws' := fun u => modelW cI a q) (fun u => rfl) (fun u hu => ?_)
  obtain ⟨r_1, rfl⟩ : ∃ z, z = u := ⟨_, rfl⟩
  have h2 : r_1 = if 0 ≤ g ∧ g < (q 18 0) then 1 else 0 := hu
  by_cases c3 : 0 ≤ g ∧ g < (q 18 0)
  · rw [if_pos c3] at h2
    subst h2
    show Go E Q 2 0 0 5 [(0, .ref (a 0)), (1, .int g)] [.int 1] (modelW cI a q)
    refine g_if_ne hE 10 dX5_where_5 (by decide) (fun c4 => ?_) (fun c4 => absurd c4 (by decide))
    obtain ⟨gn, hgnl, hgn, hgnc⟩ := nat_of_lt c3 hgr (by omega)
    refine g_aload_n hE dX5_where_10 0 rfl ?_
    refine g_callV hE (c_X5_tryNow cI cS a q hgr hn6 hsv hsv8 hpl hpl6 m hTQ) mk_X5_tryNow mv_X5_tryNow ml_X5_192 dX5_where_11 (As := []) (rest := []) rfl rfl 0 rfl (show vwCl[5]? = some (RX5, TX5, 32) from rfl) (by decide) (by decide) (Nat.le_of_ble_eq_true rfl) (by decide) (by decide) [0, 1, 2, 3, 4, 5, 6, 7, 8, 9, 10, 11, 12, 13, 14, 15, 16, 17, 18] rfl (by decide) (fun u => Nat.le_of_ble_eq_true rfl) (ws' := fun u => modelW cI a (pA (pA (pA (pA (pA q 8 u.1) 9 u.2.1) 7 u.2.2.1) 10 u.2.2.2) 18 (upd (upd (upd (q 18) 7 (q 18 2)) 8 (chR m n (m 7) pl)) 9 (nI (flN m n (m 7) pl))))) (fun u => rfl) (fun u hu => ?_)
    obtain ⟨tk_5, mh_6, tr_7, h_8⟩ := u
    have h9 : (∀ s, s < sv → tk_5 s = (q 3) (4 * s) ∧ mh_6 s = (q 3) (4 * s + 1)) ∧ (∀ k, k < pl → tr_7 k = (q 4) k) ∧ ∀ g, g < n → h_8 g = hA m n (m 7) pl pl g := hu
    show Go E Q 2 0 0 14 [(0, .ref (a 0)), (1, .int g)] [] (modelW cI a (pA (pA (pA (pA (pA q 8 tk_5) 9 mh_6) 7 tr_7) 10 h_8) 18 (upd (upd (upd (q 18) 7 (q 18 2)) 8 (chR m n (m 7) pl)) 9 (nI (flN m n (m 7) pl)))))
    refine g_aload_n hE dX5_where_14 0 rfl ?_
    refine g_get hE fl_X5_40 dX5_where_15 0 rfl rfl ?_
    refine g_iload_n hE dX5_where_18 1 rfl ?_
    refine g_iald_n hE dX5_where_19 11 rfl (show g = nI gn from hgn) (by omega) ?_
    exact g_iret hE hQ dX5_where_20 rfl ((h_8 gn), (pA (pA (pA (pA (pA q 8 tk_5) 9 mh_6) 7 tr_7) 10 h_8) 18 (upd (upd (upd (q 18) 7 (q 18 2)) 8 (chR m n (m 7) pl)) 9 (nI (flN m n (m 7) pl))))) rfl rfl ⟨(by simp only [hc0, if_pos c3]; rw [← hgnc, ← hA_ho hgnl]; exact h9.2.2 gn hgnl), ⟨⟨rfl, rfl, rfl, rfl, rfl, rfl, rfl, rfl, rfl⟩, ⟨rfl, rfl, rfl, rfl, rfl, rfl, rfl⟩⟩⟩
  · rw [if_neg c3] at h2
    subst h2
    show Go E Q 2 0 0 5 [(0, .ref (a 0)), (1, .int g)] [.int 0] (modelW cI a q)
    refine g_if_ne hE 10 dX5_where_5 (by decide) (fun c10 => absurd (by decide) c10) (fun c10 => ?_)
    refine g_iconst hE dX5_where_8 (-1) (by decide) ?_
    exact g_iret hE hQ dX5_where_9 rfl ((-1), q) rfl rfl ⟨(by simp only [hc0, if_neg c3]), ⟨⟨rfl, rfl, rfl, rfl, rfl, rfl, rfl, rfl, rfl⟩, ⟨rfl, rfl, rfl, rfl, rfl, rfl, rfl⟩⟩⟩
set_option maxHeartbeats 4000000 in
set_option maxRecDepth 100000 in
theorem c_X5_chokes (cI cS : ClassId) (a : Nat → Nat) (q : Nat → Nat → Int32) {n sv pl : Nat} (m : MS) (hRQ : RQ q m n sv pl) : CT cI cS yX5_chokes cX5_chokes 1 (some .int) 3 [.ref (a 0)] (modelW cI a q) 0 0 (fun u : Int32 × (Nat → Nat → Int32) => u.1 = chS m n pl ∧ TF u.2 q ∧ OF u.2 q) (fun u => some (.int u.1)) (fun u => (modelW cI a u.2)) := by
  refine ct_intro (by decide) (Nat.le_of_ble_eq_true rfl) (fun E Q hE hQ hI => ?_)
  have hE : CxOk E cI cS RX5 cX5_chokes 1 (some .int) 3 0 0 := hE
  show Go E Q 1 0 0 0 [(0, .ref (a 0))] [] (modelW cI a q)
  have hM := hRQ.1
  have hTQ := hRQ.2.1
  have hRG := hRQ.2.2
  have hgr := hTQ.2.2.2.1
  have hsv := hTQ.2.2.2.2.1
  have hpl := hTQ.2.2.2.2.2.1
  have hn6 := hM.2.1
  have hsv8 := hM.2.2.2.1
  have hpl6 := hM.2.2.2.2.2
  have hc0 : m 9 0 = q 18 0 := hM.1.trans hgr.symm
  have hc1 : m 9 1 = q 18 1 := hM.2.2.1.trans hsv.symm
  have hc2 : m 9 2 = q 18 2 := hM.2.2.2.2.1.trans hpl.symm
  refine g_aload_n hE dX5_chokes_0 0 rfl ?_
  refine g_callV hE (c_X5_tryNow cI cS a q hgr hn6 hsv hsv8 hpl hpl6 m hTQ) mk_X5_tryNow mv_X5_tryNow ml_X5_192 dX5_chokes_1 (As := []) (rest := []) rfl rfl 0 rfl (show vwCl[5]? = some (RX5, TX5, 32) from rfl) (by decide) (by decide) (Nat.le_of_ble_eq_true rfl) (by decide) (by decide) [0, 1, 2, 3, 4, 5, 6, 7, 8, 9, 10, 11, 12, 13, 14, 15, 16, 17, 18] rfl (by decide) (fun u => Nat.le_of_ble_eq_true rfl) (ws' := fun u => modelW cI a (pA (pA (pA (pA (pA q 8 u.1) 9 u.2.1) 7 u.2.2.1) 10 u.2.2.2) 18 (upd (upd (upd (q 18) 7 (q 18 2)) 8 (chR m n (m 7) pl)) 9 (nI (flN m n (m 7) pl))))) (fun u => rfl) (fun u hu => ?_)
  obtain ⟨tk_1, mh_2, tr_3, h_4⟩ := u
  have h5 : (∀ s, s < sv → tk_1 s = (q 3) (4 * s) ∧ mh_2 s = (q 3) (4 * s + 1)) ∧ (∀ k, k < pl → tr_3 k = (q 4) k) ∧ ∀ g, g < n → h_4 g = hA m n (m 7) pl pl g := hu
  show Go E Q 1 0 0 4 [(0, .ref (a 0))] [] (modelW cI a (pA (pA (pA (pA (pA q 8 tk_1) 9 mh_2) 7 tr_3) 10 h_4) 18 (upd (upd (upd (q 18) 7 (q 18 2)) 8 (chR m n (m 7) pl)) 9 (nI (flN m n (m 7) pl)))))
  refine g_aload_n hE dX5_chokes_4 0 rfl ?_
  refine g_get hE fl_X5_167 dX5_chokes_5 0 rfl rfl ?_
  exact g_iret hE hQ dX5_chokes_8 rfl ((chR m n (m 7) pl), (pA (pA (pA (pA (pA q 8 tk_1) 9 mh_2) 7 tr_3) 10 h_4) 18 (upd (upd (upd (q 18) 7 (q 18 2)) 8 (chR m n (m 7) pl)) 9 (nI (flN m n (m 7) pl))))) rfl rfl ⟨chR_S pl, ⟨⟨rfl, rfl, rfl, rfl, rfl, rfl, rfl, rfl, rfl⟩, ⟨rfl, rfl, rfl, rfl, rfl, rfl, rfl⟩⟩⟩
set_option maxHeartbeats 4000000 in
set_option maxRecDepth 100000 in
theorem c_X5_shake (cI cS : ClassId) (a : Nat → Nat) (q : Nat → Nat → Int32) {n sv pl : Nat} (m : MS) (hRQ : RQ q m n sv pl) : CT cI cS yX5_shake cX5_shake 2 (some .int) 4 [.ref (a 0)] (modelW cI a q) 0 0 (fun u : Int32 × (Nat → Nat → Int32) => u.1 = shV m n (m 7) pl ∧ RQ u.2 (shM m n (m 7) pl) n sv pl ∧ OF u.2 q) (fun u => some (.int u.1)) (fun u => (modelW cI a u.2)) := by
  refine ct_intro (by decide) (Nat.le_of_ble_eq_true rfl) (fun E Q hE hQ hI => ?_)
  have hE : CxOk E cI cS RX5 cX5_shake 2 (some .int) 4 0 0 := hE
  show Go E Q 2 0 0 0 [(0, .ref (a 0))] [] (modelW cI a q)
  have hM := hRQ.1
  have hTQ := hRQ.2.1
  have hRG := hRQ.2.2
  have hgr := hTQ.2.2.2.1
  have hsv := hTQ.2.2.2.2.1
  have hpl := hTQ.2.2.2.2.2.1
  have hn6 := hM.2.1
  have hsv8 := hM.2.2.2.1
  have hpl6 := hM.2.2.2.2.2
  have hc0 : m 9 0 = q 18 0 := hM.1.trans hgr.symm
  have hc1 : m 9 1 = q 18 1 := hM.2.2.1.trans hsv.symm
  have hc2 : m 9 2 = q 18 2 := hM.2.2.2.2.1.trans hpl.symm
  refine g_aload_n hE dX5_shake_0 0 rfl ?_
  refine g_callV hE (c_X5_tryNow cI cS a q hgr hn6 hsv hsv8 hpl hpl6 m hTQ) mk_X5_tryNow mv_X5_tryNow ml_X5_192 dX5_shake_1 (As := []) (rest := []) rfl rfl 0 rfl (show vwCl[5]? = some (RX5, TX5, 32) from rfl) (by decide) (by decide) (Nat.le_of_ble_eq_true rfl) (by decide) (by decide) [0, 1, 2, 3, 4, 5, 6, 7, 8, 9, 10, 11, 12, 13, 14, 15, 16, 17, 18] rfl (by decide) (fun u => Nat.le_of_ble_eq_true rfl) (ws' := fun u => modelW cI a (pA (pA (pA (pA (pA q 8 u.1) 9 u.2.1) 7 u.2.2.1) 10 u.2.2.2) 18 (upd (upd (upd (q 18) 7 (q 18 2)) 8 (chR m n (m 7) pl)) 9 (nI (flN m n (m 7) pl))))) (fun u => rfl) (fun u hu => ?_)
  obtain ⟨tk_1, mh_2, tr_3, h_4⟩ := u
  have h5 : (∀ s, s < sv → tk_1 s = (q 3) (4 * s) ∧ mh_2 s = (q 3) (4 * s + 1)) ∧ (∀ k, k < pl → tr_3 k = (q 4) k) ∧ ∀ g, g < n → h_4 g = hA m n (m 7) pl pl g := hu
  show Go E Q 2 0 0 4 [(0, .ref (a 0))] [] (modelW cI a (pA (pA (pA (pA (pA q 8 tk_1) 9 mh_2) 7 tr_3) 10 h_4) 18 (upd (upd (upd (q 18) 7 (q 18 2)) 8 (chR m n (m 7) pl)) 9 (nI (flN m n (m 7) pl)))))
  refine g_aload_n hE dX5_shake_4 0 rfl ?_
  refine g_callV hE (c_X5_valueOf cI cS a (pA (pA (pA (pA (pA q 8 tk_1) 9 mh_2) 7 tr_3) 10 h_4) 18 (upd (upd (upd (q 18) 7 (q 18 2)) 8 (chR m n (m 7) pl)) 9 (nI (flN m n (m 7) pl)))) hgr hn6 hpl hpl6 m (m 7) h5.2.2 (fun g hg => ⟨(hTQ.1 g hg).2.1, (hTQ.1 g hg).2.2, (hRG.1 g hg).2.2.2.2.2⟩)) mk_X5_valueOf mv_X5_valueOf ml_X5_202 dX5_shake_5 (As := []) (rest := []) rfl rfl 0 rfl (show vwCl[5]? = some (RX5, TX5, 32) from rfl) (by decide) (by decide) (Nat.le_of_ble_eq_true rfl) (by decide) (by decide) [0, 1, 2, 3, 4, 5, 6, 7, 8, 9, 10, 11, 12, 13, 14, 15, 16, 17, 18] rfl (by decide) (fun u => Nat.le_of_ble_eq_true rfl) (ws' := fun u => modelW cI a (pA (pA (pA (pA (pA q 8 tk_1) 9 mh_2) 7 tr_3) 10 h_4) 18 (upd (upd (upd (q 18) 7 (q 18 2)) 8 (chR m n (m 7) pl)) 9 (nI (flN m n (m 7) pl))))) (fun u => rfl) (fun u hu => ?_)
  obtain ⟨r_6, rfl⟩ : ∃ z, z = u := ⟨_, rfl⟩
  have h7 : r_6 = (vS m n (m 7) pl (pl + 1)) := hu
  subst h7
  show Go E Q 2 0 0 8 [(0, .ref (a 0))] [.int (vS m n (m 7) pl (pl + 1))] (modelW cI a (pA (pA (pA (pA (pA q 8 tk_1) 9 mh_2) 7 tr_3) 10 h_4) 18 (upd (upd (upd (q 18) 7 (q 18 2)) 8 (chR m n (m 7) pl)) 9 (nI (flN m n (m 7) pl)))))
  refine g_istore_n hE dX5_shake_8 [(1, .int (vS m n (m 7) pl (pl + 1))), (0, .ref (a 0))] rfl (by decide) rfl ?_
  refine g_aload_n hE dX5_shake_9 1 rfl ?_
  refine g_callV hE (c_X5_keep cI cS a (pA (pA (pA (pA (pA q 8 tk_1) 9 mh_2) 7 tr_3) 10 h_4) 18 (upd (upd (upd (q 18) 7 (q 18 2)) 8 (chR m n (m 7) pl)) 9 (nI (flN m n (m 7) pl)))) hpl hpl6 hsv hsv8 m (m 7) (ra_mk hTQ h5.2.1) (fun s hs => hw_of hRQ hs (h5.1 s hs)) rfl) mk_X5_keep mv_X5_keep ml_X5_205 dX5_shake_10 (As := []) (rest := []) rfl rfl 0 rfl (show vwCl[5]? = some (RX5, TX5, 32) from rfl) (by decide) (by decide) (Nat.le_of_ble_eq_true rfl) (by decide) (by decide) [0, 1, 2, 3, 4, 5, 6, 7, 8, 9, 10, 11, 12, 13, 14, 15, 16, 17, 18] rfl (by decide) (fun u => Nat.le_of_ble_eq_true rfl) (ws' := fun u => modelW cI a (pA (pA (pA (pA (pA (pA (pA (pA q 8 tk_1) 9 mh_2) 7 tr_3) 10 h_4) 18 (upd (upd (upd (q 18) 7 (q 18 2)) 8 (chR m n (m 7) pl)) 9 (nI (flN m n (m 7) pl)))) 9 u) 3 (kpZ (q 3) u sv)) 18 (upd (upd (upd (upd (q 18) 7 (q 18 2)) 8 (chR m n (m 7) pl)) 9 (nI (flN m n (m 7) pl))) 3 (evS (q 18 3))))) (fun u => rfl) (fun u hu => ?_)
  obtain ⟨mh_8, rfl⟩ : ∃ z, z = u := ⟨_, rfl⟩
  have h9 : ∀ s, s < sv → mh_8 s = wrM m n (m 7) pl 4 s := hu
  show Go E Q 2 0 0 13 [(1, .int (vS m n (m 7) pl (pl + 1))), (0, .ref (a 0))] [] (modelW cI a (pA (pA (pA (pA (pA (pA (pA (pA q 8 tk_1) 9 mh_2) 7 tr_3) 10 h_4) 18 (upd (upd (upd (q 18) 7 (q 18 2)) 8 (chR m n (m 7) pl)) 9 (nI (flN m n (m 7) pl)))) 9 mh_8) 3 (kpZ (q 3) mh_8 sv)) 18 (upd (upd (upd (upd (q 18) 7 (q 18 2)) 8 (chR m n (m 7) pl)) 9 (nI (flN m n (m 7) pl))) 3 (evS (q 18 3)))))
  refine g_iload_n hE dX5_shake_13 0 rfl ?_
  exact g_iret hE hQ dX5_shake_14 rfl ((vS m n (m 7) pl (pl + 1)), (pA (pA (pA (pA (pA (pA (pA (pA q 8 tk_1) 9 mh_2) 7 tr_3) 10 h_4) 18 (upd (upd (upd (q 18) 7 (q 18 2)) 8 (chR m n (m 7) pl)) 9 (nI (flN m n (m 7) pl)))) 9 mh_8) 3 (kpZ (q 3) mh_8 sv)) 18 (upd (upd (upd (upd (q 18) 7 (q 18 2)) 8 (chR m n (m 7) pl)) 9 (nI (flN m n (m 7) pl))) 3 (evS (q 18 3))))) rfl rfl ⟨(shV_vS (RQ_DR hRQ) hsv8).symm, RQ_keep hRQ (RQ_DR hRQ) h9 rfl rfl rfl rfl rfl rfl rfl rfl rfl, ⟨rfl, rfl, rfl, rfl, rfl, rfl, rfl⟩⟩
