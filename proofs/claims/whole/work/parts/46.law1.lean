/-! the law: what ties the two sides; the script -/
def REL (m v w : MS) (B : Nat → Int32) (L : Nat) (sh : SHS) (kf : Int32) (q : MS) : Prop := ∃ n sv pl n1 sv1 pl1 n2 sv2 pl2 nw sw pw : Nat, RQ q m n sv pl ∧ MW v n1 sv1 pl1 ∧ MW w n2 sv2 pl2 ∧ L ≤ 120 ∧ q 5 = B ∧ q 18 4 = nI L ∧ (∀ j, j < L → 0 ≤ B j) ∧ SQ q sh ∧ KQ q w kf nw sw pw
theorem KQ_eq {q q2 w : MS} {kf : Int32} {nw sw pw : Nat} (h : KQ q w kf nw sw pw) (e1 : q2 13 = q 13) (e2 : q2 18 13 = q 18 13) : KQ q2 w kf nw sw pw := by
  unfold KQ; rw [e1, e2]; exact h
theorem RQ_8 {q m : MS} {n sv pl : Nat} {g : Nat → Int32} (h : RQ q m n sv pl) : RQ q (pA m 8 g) n sv pl := h
theorem REL_of {m2 v2 w q q2 : MS} {L : Nat} {sh : SHS} {kf : Int32} {n s p n1 s1 p1 n2 s2 p2 nw sw pw : Nat} (hR : RQ q2 m2 n s p) (hV : MW v2 n1 s1 p1) (hW : MW w n2 s2 p2) (hL : L ≤ 120) (htp : q 18 4 = nI L) (hB : ∀ j, j < L → 0 ≤ q 5 j) (hSQ : SQ q sh) (hKQ : KQ q w kf nw sw pw) (hOF : OF q2 q) : REL m2 v2 w (q 5) L sh kf q2 :=
  ⟨n, s, p, n1, s1, p1, n2, s2, p2, nw, sw, pw, hR, hV, hW, hL, hOF.1, hOF.2.2.2.2.2.1.trans htp, hB, SQ_eq hSQ hOF.2.2.1 hOF.2.2.2.1 hOF.2.2.2.2.1, KQ_eq hKQ hOF.2.1 hOF.2.2.2.2.2.2⟩
theorem REL_os {m2 v2 w q q2 : MS} {L : Nat} {sh : SHS} {kf : Int32} {n s p n1 s1 p1 n2 s2 p2 nw sw pw : Nat} (hR : RQ q2 m2 n s p) (hV : MW v2 n1 s1 p1) (hW : MW w n2 s2 p2) (hL : L ≤ 120) (htp : q 18 4 = nI L) (hB : ∀ j, j < L → 0 ≤ q 5 j) (hSQ : SQ q2 sh) (hKQ : KQ q w kf nw sw pw) (hOS : OS q2 q) : REL m2 v2 w (q 5) L sh kf q2 :=
  ⟨n, s, p, n1, s1, p1, n2, s2, p2, nw, sw, pw, hR, hV, hW, hL, hOS.1, hOS.2.2.1.trans htp, hB, hSQ, KQ_eq hKQ hOS.2.1 hOS.2.2.2⟩
theorem REL_ot {m2 v2 w q q2 : MS} {sh : SHS} {kf : Int32} {n s p n1 s1 p1 n2 s2 p2 nw sw pw : Nat} (hR : RQ q2 m2 n s p) (hV : MW v2 n1 s1 p1) (hW : MW w n2 s2 p2) (hSQ : SQ q sh) (hKQ : KQ q w kf nw sw pw) (hOT : OT q2 q) : REL m2 v2 w (q 5) 0 sh kf q2 :=
  ⟨n, s, p, n1, s1, p1, n2, s2, p2, nw, sw, pw, hR, hV, hW, by decide, hOT.1, hOT.2.2.2.2.2.1, fun j hj => absurd hj (Nat.not_lt_zero _), SQ_eq hSQ hOT.2.2.1 hOT.2.2.2.1 hOT.2.2.2.2.1, KQ_eq hKQ hOT.2.1 hOT.2.2.2.2.2.2⟩
theorem tyA_nn {B : Nat → Int32} {L nn : Nat} {x : Int64} (hB : ∀ j, j < L → 0 ≤ B j) (ho : tyO x nn = true) : ∀ k, k ≤ nn → ∀ j, j < L + k → 0 ≤ tyA B L x nn k j
  | 0, _, j, hj => hB j hj
  | k + 1, hk, j, hj => by
    show 0 ≤ (if j = L + k then byI x (nI (nn - 1 - k)) else tyA B L x nn k j)
    by_cases e : j = L + k
    · rw [if_pos e]
      exact Int32.le_trans (by decide) (tyO_at ho (nn - 1 - k) (by omega)).1
    · rw [if_neg e]
      exact tyA_nn hB ho k (by omega) j (by omega)
theorem ty_nn {B bb : Nat → Int32} {L ll : Nat} {x : Int64} {y r : Int32} (h : (r, bb, ll) = fgType B L x y) (hB : ∀ j, j < L → 0 ≤ B j) : ∀ j, j < ll → 0 ≤ bb j := by
  unfold fgType at h
  split at h
  · split at h
    · rename_i ho
      split at h
      · obtain ⟨-, h2⟩ := Prod.mk.inj h
        obtain ⟨h3, h4⟩ := Prod.mk.inj h2
        rw [h3, h4]
        exact tyA_nn hB ho _ (Nat.le_refl _)
      · obtain ⟨-, h2⟩ := Prod.mk.inj h
        obtain ⟨h3, h4⟩ := Prod.mk.inj h2
        rw [h3, h4]; exact hB
    · obtain ⟨-, h2⟩ := Prod.mk.inj h
      obtain ⟨h3, h4⟩ := Prod.mk.inj h2
      rw [h3, h4]; exact hB
  · obtain ⟨-, h2⟩ := Prod.mk.inj h
    obtain ⟨h3, h4⟩ := Prod.mk.inj h2
    rw [h3, h4]; exact hB
theorem fBest_det {m : MS} {n sv : Nat} {k i r r2 : Int32} (h1 : fBest m n sv k i r) (h2 : fBest m n sv k i r2) : r = r2 := by
  rcases h1 with ⟨a, e⟩ | ⟨a, e⟩ | ⟨a, a2, b, hb, e⟩ <;> rcases h2 with ⟨c, f⟩ | ⟨c, f⟩ | ⟨c, c2, d, hd, f⟩
  · rw [e, f]
  · rw [e, f]
  · exact absurd c a
  · rw [e, f]
  · rw [e, f]
  · exact absurd c2 a
  · exact absurd a c
  · exact absurd a2 c
  · rw [e, f, best_one hb hd]
theorem part_no {m : MS} {n sv aps : Nat} {b : List Nat} (h : NoPart m n sv aps) (hb : PartOf m n sv aps b) : False := h b hb.1 hb.2.1 hb.2.2.1
theorem fPart_det {m : MS} {n sv : Nat} {x i r r2 : Int32} (h1 : fPart m n sv x i r) (h2 : fPart m n sv x i r2) : r = r2 := by
  rcases h1 with ⟨a, e⟩ | ⟨a, e⟩ | ⟨a, a2, a3, e⟩ | ⟨a, a2, b, hb, e⟩ <;> rcases h2 with ⟨c, f⟩ | ⟨c, f⟩ | ⟨c, c2, c3, f⟩ | ⟨c, c2, d, hd, f⟩
  · rw [e, f]
  · rw [e, f]
  · exact absurd c a
  · exact absurd c a
  · rw [e, f]
  · rw [e, f]
  · exact absurd c2 a
  · exact absurd c2 a
  · exact absurd a c
  · exact absurd a2 c
  · rw [e, f]
  · exact (part_no a3 hd).elim
  · exact absurd a c
  · exact absurd a2 c
  · exact (part_no c3 hb).elim
  · rw [e, f, part_one hb hd]
theorem seR_det {m : MS} {n sv L : Nat} : ∀ {d : Nat} {m1 m2 : MS} {x1 x2 : Int32}, seR m n sv L d m1 x1 → seR m n sv L d m2 x2 → m1 = m2 ∧ x1 = x2
  | 0, _, _, _, _, h1, h2 => ⟨h1.1.trans h2.1.symm, h1.2.trans h2.2.symm⟩
  | d + 1, _, _, _, _, h1, h2 => by
    obtain ⟨a1, y1, b1, s1, o1, e1, f1⟩ := h1
    obtain ⟨a2, y2, b2, s2, o2, e2, f2⟩ := h2
    obtain ⟨i1, i2⟩ := seR_det s1 s2
    subst i1; subst i2
    have i3 := best_one o1 o2
    subst i3
    exact ⟨e1.trans e2.symm, f1.trans f2.symm⟩
theorem fSea_det {m mm m2 : MS} {n sv : Nat} {x k r r2 : Int32} (h1 : fSea m n sv x k r mm) (h2 : fSea m n sv x k r2 m2) : r = r2 ∧ mm = m2 := by
  rcases h1 with ⟨a, e, g⟩ | ⟨a, e, g⟩ | ⟨a, a2, hb⟩ <;> rcases h2 with ⟨c, f, h⟩ | ⟨c, f, h⟩ | ⟨c, c2, hd⟩
  · exact ⟨e.trans f.symm, g.trans h.symm⟩
  · exact ⟨e.trans f.symm, g.trans h.symm⟩
  · exact absurd c a
  · exact ⟨e.trans f.symm, g.trans h.symm⟩
  · exact ⟨e.trans f.symm, g.trans h.symm⟩
  · exact absurd c2 a
  · exact absurd a c
  · exact absurd a2 c
  · have := seR_det hb hd
    exact ⟨this.2, this.1⟩
theorem REL_image {m v w q q2 : MS} {L : Nat} {sh : SHS} {n s p n1 s1 p1 n2 s2 p2 : Nat} (hR : RQ q m n s p) (hV : MW v n1 s1 p1) (hW : MW w n2 s2 p2) (hL : L ≤ 120) (htp : q 18 4 = nI L) (hB : ∀ j, j < L → 0 ≤ q 5 j) (hSQ : SQ q sh) (hTF : TF q2 q) (hf : q2 5 = q 5 ∧ q2 14 = q 14 ∧ q2 15 = q 15 ∧ q2 16 = q 16 ∧ q2 18 4 = q 18 4) (hk : q2 18 13 = 1) (hT : TQ (unp (q2 13)) m n s p) : REL m v (tkA w m) (q 5) L sh 1 q2 := by
  have hU := RQ_tk (q := unp (q2 13)) (m := w) ⟨hR.1, hT, hR.2.2⟩
  exact ⟨n, s, p, n1, s1, p1, n, s, p, n, s, p, TF_RQ hTF hR, hV, hU.1, hL, hf.1, hf.2.2.2.2.trans htp, hB, SQ_eq hSQ hf.2.1 hf.2.2.1 hf.2.2.2.1, hk, Or.inr ⟨rfl, hU⟩⟩
theorem REL_type {m v w q : MS} {L ll : Nat} {bb : Nat → Int32} {sh : SHS} {kf x2 r : Int32} {x : Int64} {n s p n1 s1 p1 n2 s2 p2 nw sw pw : Nat} (hR : RQ q m n s p) (hV : MW v n1 s1 p1) (hW : MW w n2 s2 p2) (hll : ll ≤ 120) (hB : ∀ j, j < L → 0 ≤ q 5 j) (hSQ : SQ q sh) (hKQ : KQ q w kf nw sw pw) (h : (r, bb, ll) = fgType (q 5) L x x2) : REL m v w bb ll sh kf (pA (pA q 5 bb) 18 (upd (q 18) 4 (nI ll))) :=
  ⟨n, s, p, n1, s1, p1, n2, s2, p2, nw, sw, pw, TF_RQ ⟨rfl, rfl, rfl, rfl, rfl, rfl, rfl, rfl, rfl⟩ hR, hV, hW, hll, rfl, rfl, ty_nn h hB, SQ_eq hSQ rfl rfl rfl, KQ_eq hKQ rfl rfl⟩
theorem REL_0 : REL (fun _ _ => 0) (fun _ _ => 0) (fun _ _ => 0) (fun _ => 0) 0 (fun _ => shT (fun _ => 0) (-1) 0) 0 (pA (fun _ _ => 0) 14 (upd (upd (upd (upd (fun _ => 0) 0 (-1)) 1 (-1)) 2 (-1)) 3 (-1))) := by
  have hM : MW (fun _ _ => 0) 0 0 0 := ⟨rfl, by decide, rfl, by decide, rfl, by decide⟩
  refine ⟨0, 0, 0, 0, 0, 0, 0, 0, 0, 0, 0, 0, ⟨hM, ⟨fun g hg => absurd hg (Nat.not_lt_zero _), fun g hg => absurd hg (Nat.not_lt_zero _), fun g hg => absurd hg (Nat.not_lt_zero _), rfl, rfl, rfl, rfl⟩, fun g hg => absurd hg (Nat.not_lt_zero _), fun g hg => absurd hg (Nat.not_lt_zero _), fun i j _ hj => absurd hj (Nat.not_lt_zero _), by decide, by decide⟩, hM, hM, by decide, rfl, rfl, fun j hj => absurd hj (Nat.not_lt_zero _), ?_, rfl, Or.inl rfl⟩
  intro k hk
  rcases (show k = 0 ∨ k = 1 ∨ k = 2 ∨ k = 3 by omega) with rfl | rfl | rfl | rfl <;> exact ⟨rfl, (by decide : (0 : Int32) ≤ 24), Or.inl rfl⟩
theorem lg_self (x : Int64) : lg_cmp x x = 0 := by
  unfold lg_cmp
  rw [if_neg Int64.lt_irrefl, if_pos rfl]
theorem le_6 {L i : Nat} (hL : L ≤ 3072) (hi : i ≤ L) (h : ¬ nI L - 6 < nI i) : i + 6 ≤ L := by
  by_cases e : 6 ≤ L
  · rw [show nI L - 6 = nI (L - 6) from nI_isub e, nI_ltI (by omega) (by omega)] at h
    omega
  · exfalso
    apply h
    have k : ∀ L, L < 6 → nI L - 6 < 0 := by decide +kernel
    exact Int32.lt_of_lt_of_le (k L (by omega)) (Int32.not_lt.mp (nI_nneg (by omega)))
/-- the script at the start's cell, that no method writes -/
def ScrOk (E : CX) (bx Lx : Nat) (xs : Nat → Int32) : Prop := match E with
  | (p, l, e, R, s, m, args, below, meth, c, D, A) => va_X bx Lx xs s s.heap ∧ bx < s.heap.size ∧ ¬ A bx
section GOL
variable {E : CX} {Q : State → Prop} {cI cS : ClassId} {own : String} {cc : ByteArray} {ret : Option FieldType} {nL cells slots pc d mc ms : Nat} {lv : List (Nat × Value)} {st : List Value} {ws : va_W} {bx Lx : Nat} {xs : Nat → Int32}
theorem g_slen (hE : CxOk E cI cS own cc nL ret d mc ms) (hZ : ScrOk E bx Lx xs) (hd : decode cc pc = .ok (.arraylength, 1)) (kk : Go E Q nL cells slots (pc + 1) lv (.int (nI Lx) :: st) ws) : Go E Q nL cells slots pc lv (.ref bx :: st) ws := by
  obtain ⟨p, l, e, R, s, m, args, below, meth, c, D, A⟩ := E
  intro H locs ls hP hD hS hl
  exact va_slen hE.1 hE.2.1 hZ.1 hZ.2.1 hZ.2.2 hS hd (kk H locs ls hP hD hS hl)
theorem g_sld (hE : CxOk E cI cS own cc nL ret d mc ms) (hZ : ScrOk E bx Lx xs) {g : Nat} (hg : g < Lx) (hL : Lx ≤ 3072) (hd : decode cc pc = .ok (.iaload, 1)) (kk : Go E Q nL cells slots (pc + 1) lv (.int (xs g) :: st) ws) : Go E Q nL cells slots pc lv (.int (nI g) :: .ref bx :: st) ws := by
  obtain ⟨p, l, e, R, s, m, args, below, meth, c, D, A⟩ := E
  intro H locs ls hP hD hS hl
  have k := kk H locs ls hP hD hS hl
  rw [← nI_clamp (n := g) (by omega)] at k
  exact va_sld hE.1 hE.2.1 hZ.1 hZ.2.1 hZ.2.2 hS (vp_in_nI hg (by omega)) hd k
theorem g_arg (hE : CxOk E cI cS own cc nL ret d mc ms) (hZ : ScrOk E bx Lx xs) {i : Nat} {n : Int} (k : Nat) (h0 : lv[0]? = some (0, .ref bx)) (h3 : lv[3]? = some (3, .int (nI i))) (hk : Int32.ofInt n = nI k) (hg : i + k < Lx) (hL : Lx ≤ 3072) (d0 : decode cc pc = .ok (.aload_n 0, 1)) (d1 : decode cc (pc + 1) = .ok (.iload_n 3, 1)) (d2 : decode cc (pc + 2) = .ok (.iconst n, 1)) (d3 : decode cc (pc + 3) = .ok (.iadd, 1)) (d4 : decode cc (pc + 4) = .ok (.iaload, 1)) (kk : Go E Q nL cells slots (pc + 5) lv (.int (xs (i + k)) :: st) ws) : Go E Q nL cells slots pc lv st ws := by
  refine g_aload_n hE d0 0 h0 ?_
  refine g_iload_n hE d1 3 h3 ?_
  refine g_iconst hE d2 (nI k) hk ?_
  refine g_iadd_n hE d3 rfl rfl ?_
  exact g_sld hE hZ hg hL d4 kk
end GOL
abbrev lawW (cI cS : ClassId) (a b : Nat → Nat) (m v w : MS) (T C : Nat → Int32) (li ap va le : Int32) (B : Nat → Int32) (L P : Nat) (F : Int32) (sh : SHS) (kf : Int32) (q : MS) : va_W := loftW cI cS a m v w (seS T C li ap va le) (tpS B L P F) sh kf ++ modelW cI b q
/-- what is wanted behind each call: the same, with other states that are tied -/
def LGo (E : CX) (Q : State → Prop) (cells slots : Nat) (cI cS : ClassId) (a b : Nat → Nat) (bx i : Nat) : Prop := ∀ (m v w : MS) (T C : Nat → Int32) (li ap va le : Int32) (B : Nat → Int32) (L P : Nat) (F : Int32) (sh : SHS) (kf : Int32) (q : MS), REL m v w B L sh kf q → Go E Q 4 cells slots 1113 [(0, .ref bx), (1, .ref (a 0)), (2, .ref (b 0)), (3, .int (nI i))] [] (lawW cI cS a b m v w T C li ap va le B L P F sh kf q)
