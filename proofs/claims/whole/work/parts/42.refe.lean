/-! the reference: loft, heap, row, type -/
theorem neg20 : ∀ s, s ≤ 120 → ¬ (0 : Int32) ≤ -20 - nI s := by decide +kernel
def OT (q2 q : MS) : Prop := q2 5 = q 5 ∧ q2 13 = q 13 ∧ q2 14 = q 14 ∧ q2 15 = q 15 ∧ q2 16 = q 16 ∧ q2 18 4 = 0 ∧ q2 18 13 = q 18 13
def Z4 (zz rd : Nat → Int32) (s : Nat) : Prop := zz (4 * s) = rd (4 * s) ∧ zz (4 * s + 1) = rd (4 * s + 1) ∧ zz (4 * s + 2) = rd (4 * s + 2) ∧ zz (4 * s + 3) = rd (4 * s + 3)
theorem z4_s {zz rd : Nat → Int32} {k : Nat} (h : ∀ s, s < k → Z4 zz rd s) : ∀ s, s < k + 1 → Z4 (upd (upd (upd (upd zz (4 * k) (rd (4 * k))) (4 * k + 1) (rd (4 * k + 1))) (4 * k + 2) (rd (4 * k + 2))) (4 * k + 3) (rd (4 * k + 3))) rd s := by
  intro s hs
  by_cases e : s = k
  · subst e
    exact rd4 _ _ _ _ _ _
  · have := h s (by omega)
    exact ⟨(fr4 (by omega)).trans this.1, (fr4 (by omega)).trans this.2.1, (fr4 (by omega)).trans this.2.2.1, (fr4 (by omega)).trans this.2.2.2⟩
theorem z3_s {z0 z1 z2 rd : Nat → Int32} {k : Nat} (h : ∀ s, s < k → z0 s = rd (3 * s) ∧ z1 s = rd (3 * s + 1) ∧ z2 s = rd (3 * s + 2)) : ∀ s, s < k + 1 → upd z0 k (rd (3 * k)) s = rd (3 * s) ∧ upd z1 k (rd (3 * k + 1)) s = rd (3 * s + 1) ∧ upd z2 k (rd (3 * k + 2)) s = rd (3 * s + 2) := by
  intro s hs
  by_cases e : s = k
  · subst e
    exact ⟨upd_at _ _ _, upd_at _ _ _, upd_at _ _ _⟩
  · have := h s (by omega)
    exact ⟨(if_neg e).trans this.1, (if_neg e).trans this.2.1, (if_neg e).trans this.2.2⟩
theorem z1_s {z4 rd : Nat → Int32} {k : Nat} (h : ∀ s, s < k → z4 s = rd s) : ∀ s, s < k + 1 → upd z4 k (rd k) s = rd s := upd_pre h rfl
theorem RQ_loft {q m st vv : MS} {rd : Nat → Int32} {n sv pl j : Nat} (h : RQ q m n sv pl) (hj : j ≤ 8) (h9 : vv 9 1 = nI j) (hSV : SVv vv rd j) (hz : ∀ s, s < j → Z4 (st 3) rd s) (e0 : st 0 = q 0) (e1 : st 1 = q 1) (e2 : st 2 = q 2) (c0 : st 18 0 = q 18 0) (c1 : st 18 1 = nI j) (c2 : st 18 2 = 0) (c3 : st 18 3 = q 18 3) : RQ st (pA (tkV m vv) 9 (upd (tkV m vv 9) 2 0)) n j 0 := by
  obtain ⟨hM, hT, hG⟩ := h
  refine ⟨⟨hM.1, hM.2.1, h9, hj, rfl, by decide⟩, ⟨?_, ?_, ?_, ?_, c1, c2, ?_⟩, ?_, ?_, ?_, hG.2.2.2⟩
  · rw [e0, e1, e2]; exact hT.1
  · intro s hs
    have a := hz s hs
    have b := (hSV s hs).1
    exact ⟨a.1.trans b.1.symm, a.2.1.trans b.2.1.symm, a.2.2.1.trans b.2.2.1.symm, a.2.2.2.trans b.2.2.2.symm⟩
  · intro k hk; exact absurd hk (Nat.not_lt_zero _)
  · rw [c0]; exact hT.2.2.2.1
  · rw [c3]; exact hT.2.2.2.2.2.2
  · exact hG.1
  · intro s hs
    obtain ⟨b, r⟩ := hSV s hs
    rw [← b.1, ← b.2.1, ← b.2.2.1, ← b.2.2.2] at r
    exact r
  · intro i k _ hk; exact absurd hk (Nat.not_lt_zero _)
theorem RQ_heap {q m st vv : MS} {rd : Nat → Int32} {n sv pl j : Nat} (h : RQ q m n sv pl) (hj : j ≤ 6) (h9 : vv 9 0 = nI j) (hSV : GVv vv rd j) (hz : ∀ s, s < j → st 0 s = rd (3 * s) ∧ st 1 s = rd (3 * s + 1) ∧ st 2 s = rd (3 * s + 2)) (e3 : st 3 = q 3) (e4 : st 4 = q 4) (c0 : st 18 0 = nI j) (c1 : st 18 1 = q 18 1) (c2 : st 18 2 = q 18 2) (c3 : st 18 3 = q 18 3) : RQ st (tkG m vv) j sv pl := by
  obtain ⟨hM, hT, hG⟩ := h
  refine ⟨⟨h9, hj, hM.2.2⟩, ⟨?_, ?_, ?_, c0, ?_, ?_, ?_⟩, ?_, hG.2.1, hG.2.2.1, hG.2.2.2⟩
  · intro g hg
    have a := hz g hg
    have b := (hSV g hg).1
    exact ⟨a.1.trans b.1.symm, a.2.1.trans b.2.1.symm, a.2.2.trans b.2.2.symm⟩
  · rw [e3]; exact hT.2.1
  · rw [e4]; exact hT.2.2.1
  · rw [c1]; exact hT.2.2.2.2.1
  · rw [c2]; exact hT.2.2.2.2.2.1
  · rw [c3]; exact hT.2.2.2.2.2.2
  · intro g hg
    obtain ⟨b, r⟩ := hSV g hg
    rw [← b.1, ← b.2.1, ← b.2.2] at r
    exact r
theorem RQ_row {q m st vv : MS} {rd : Nat → Int32} {n sv pl j : Nat} (h : RQ q m n sv pl) (hj : j ≤ 6) (h9 : vv 9 2 = nI j) (hrd : ∀ i, i < j → rd i = vv 7 i) (hD : DR (vv 7) j sv) (hz : ∀ s, s < j → st 4 s = rd s) (e0 : st 0 = q 0) (e1 : st 1 = q 1) (e2 : st 2 = q 2) (e3 : st 3 = q 3) (c0 : st 18 0 = q 18 0) (c1 : st 18 1 = q 18 1) (c2 : st 18 2 = nI j) (c3 : st 18 3 = q 18 3) : RQ st (tkR m vv) n sv j := by
  obtain ⟨hM, hT, hG⟩ := h
  refine ⟨⟨hM.1, hM.2.1, hM.2.2.1, hM.2.2.2.1, h9, hj⟩, ⟨?_, ?_, ?_, ?_, ?_, c2, ?_⟩, hG.1, hG.2.1, hD.1, hG.2.2.2⟩
  · rw [e0, e1, e2]; exact hT.1
  · rw [e3]; exact hT.2.1
  · intro k hk
    exact ⟨(hz k hk).trans (hrd k hk), hD.2 k hk⟩
  · rw [c0]; exact hT.2.2.2.1
  · rw [c1]; exact hT.2.2.2.2.1
  · rw [c3]; exact hT.2.2.2.2.2.2
/-- the sieves of a row as bits -/
def RS5 (vv : MS) (k S : Nat) (z : Int32) : Prop := z = nI S ∧ S < 256 ∧ ∀ s, s < 8 → (S.testBit s = true ↔ ∃ i, i < k ∧ vv 7 i = nI s)
theorem rs5_0 {vv : MS} : RS5 vv 0 0 0 := ⟨rfl, by decide, fun s _ => ⟨fun h => absurd h (by simp), fun ⟨i, hi, _⟩ => absurd hi (Nat.not_lt_zero _)⟩⟩
theorem dr5_0 {row : Nat → Int32} {sv : Nat} : DR row 0 sv := ⟨fun _ _ _ h => absurd h (Nat.not_lt_zero _), fun _ h => absurd h (Nat.not_lt_zero _)⟩
theorem inRb_iff {vv : MS} {x : Int32} {k : Nat} : inRb vv x k = true ↔ ∃ i, i < k ∧ vv 7 i = x := ⟨inRb_of, fun ⟨i, h1, h2⟩ => inRb_y h1 h2⟩
theorem rs5_h {vv : MS} {k S sn sv : Nat} {z x : Int32} (hS : RS5 vv k S z) (hsn : sn < sv) (hsv : sv ≤ 8) (hx : x = nI sn) (h : ((z >>> (x &&& 31)) &&& 1) = 1) : inRb vv x k = true := by
  obtain ⟨h1, h2, h3⟩ := hS
  subst h1; subst hx
  exact inRb_iff.mpr ((h3 sn (by omega)).mp ((has_b S h2 sn (by omega)).mp h))
theorem rs5_b {vv : MS} {k S sn sv : Nat} {z x : Int32} (hS : RS5 vv k S z) (hsn : sn < sv) (hsv : sv ≤ 8) (hx : x = nI sn) (h : inRb vv x k = true) : ((z >>> (x &&& 31)) &&& 1) = 1 := by
  obtain ⟨h1, h2, h3⟩ := hS
  subst h1; subst hx
  exact (has_b S h2 sn (by omega)).mpr ((h3 sn (by omega)).mpr (inRb_iff.mp h))
theorem bit1_n : ∀ g, g < 31 → (1 : Int32) <<< (nI g &&& 31) = nI (2 ^ g) := by decide +kernel
theorem rs5_s {vv : MS} {k S sn sv : Nat} {z x : Int32} (hS : RS5 vv k S z) (hsn : sn < sv) (hsv : sv ≤ 8) (hx : x = nI sn) : RS5 (addP vv k x) (k + 1) (S ||| 2 ^ sn) (z ||| ((1 : Int32) <<< (x &&& 31))) := by
  obtain ⟨h1, h2, h3⟩ := hS
  subst h1; subst hx
  refine ⟨by rw [bit1_n sn (by omega), i_or], ?_, ?_⟩
  · have : 2 ^ sn < 2 ^ 8 := Nat.pow_lt_pow_right (by decide) (by omega)
    exact Nat.or_lt_two_pow (n := 8) h2 this
  · intro s hs
    rw [Nat.testBit_or, Nat.testBit_two_pow]
    have e7 : ∀ i, addP vv k (nI sn) 7 i = if i = k then nI sn else vv 7 i := fun i => rfl
    constructor
    · intro h
      rcases Bool.or_eq_true _ _ |>.mp h with h | h
      · obtain ⟨i, a, b⟩ := (h3 s hs).mp h
        exact ⟨i, by omega, by rw [e7, if_neg (by omega)]; exact b⟩
      · have : sn = s := of_decide_eq_true h
        exact ⟨k, by omega, by rw [e7, if_pos rfl, this]⟩
    · rintro ⟨i, a, b⟩
      rw [e7] at b
      by_cases e : i = k
      · rw [if_pos e] at b
        have : sn = s := (nI_eq (by omega) (by omega)).mp b
        rw [decide_eq_true this, Bool.or_true]
      · rw [if_neg e] at b
        rw [(h3 s hs).mpr ⟨i, by omega, b⟩, Bool.true_or]
theorem dr5_s {vv : MS} {k sn sv : Nat} {x : Int32} (hD : DR (vv 7) k sv) (hsn : sn < sv) (hx : x = nI sn) (h : ¬ inRb vv x k = true) : DR (addP vv k x 7) (k + 1) sv := by
  have e7 : ∀ i, addP vv k x 7 i = if i = k then x else vv 7 i := fun i => rfl
  refine ⟨fun i j hij hj => ?_, fun j hj => ?_⟩
  · rw [e7, e7, if_neg (by omega)]
    by_cases e : j = k
    · rw [if_pos e]
      exact fun z => h (inRb_iff.mpr ⟨i, by omega, z⟩)
    · rw [if_neg e]
      exact hD.1 i j hij (by omega)
  · rw [e7]
    by_cases e : j = k
    · rw [if_pos e]; exact ⟨sn, hsn, hx⟩
    · rw [if_neg e]; exact hD.2 j (by omega)
theorem rd5_s {vv : MS} {rd : Nat → Int32} {k : Nat} {x : Int32} (h : ∀ i, i < k → rd i = vv 7 i) : ∀ i, i < k + 1 → upd rd k x i = addP vv k x 7 i := by
  intro i hi
  show (if i = k then x else rd i) = if i = k then x else vv 7 i
  by_cases e : i = k
  · rw [if_pos e, if_pos e]
  · rw [if_neg e, if_neg e]; exact h i (by omega)
theorem pred_u {x g : Int32} {n : Nat} (hx : x = nI n) (hn : n < 2 ^ 30) (h : 0 ≤ g ∧ g < x) : 0 ≤ g ∧ g ≤ x - 1 := Decidable.byContradiction (fun z => pred_f hx hn z h)
theorem rw5_z {B : Nat → Int32} {L P k : Nat} {w : Int32} {vv : MS} {R : Nat × Nat × MS} (hs : R = rrS B L w (6 - k) 1 P k vv) (hk : k ≤ 6) (h : k = 6 ∨ ¬ ((0 ≤ (bt B L (sk B L P)) - 48 ∧ (bt B L (sk B L P)) - 48 ≤ (w - 1)) ∧ ¬ inRb vv ((bt B L (sk B L P)) - 48) k = true)) : R.2.2 = vv ∧ R.2.1 = k ∧ sk B L R.1 = sk B L P := by
  by_cases e : k = 6
  · subst e
    have hs : R = (P, 6, vv) := hs
    rw [hs]
    exact ⟨rfl, rfl, rfl⟩
  · rw [rr_n (by omega) (by decide) (h.resolve_left e), rr_0 rfl] at hs
    rw [hs]
    exact ⟨rfl, rfl, sk_idem _ _ _⟩
theorem rw5_y {B : Nat → Int32} {L P k sv : Nat} {w : Int32} {vv : MS} {rd : Nat → Int32} {R : Nat × Nat × MS} (hs : R = rrS B L w (6 - k) 1 P k vv) (hk : k ≤ 6) (hw : w = nI sv) (hB : ∀ j, j < L → 0 ≤ B j) (hc : bt B L (sk B L P) < 0) (h9 : vv 9 2 = nI k) (hrd : ∀ i, i < k → rd i = vv 7 i) (hD : DR (vv 7) k sv) : enF B L R.1 (-1) < 0 ∧ ∃ j, j ≤ 6 ∧ nI k = nI j ∧ R.2.2 9 2 = nI j ∧ (∀ i, i < j → rd i = R.2.2 7 i) ∧ DR (R.2.2 7) j sv := by
  have e := bt_neg hB hc
  obtain ⟨z1, z2, z3⟩ := rw5_z hs hk (Or.inr (fun z => absurd z.1.1 (by rw [e]; decide)))
  rw [z1, enF, z3, if_pos e]
  exact ⟨by decide, k, hk, rfl, h9, hrd, hD⟩
theorem rw5_n {B : Nat → Int32} {L P k : Nat} {w : Int32} {vv : MS} {R : Nat × Nat × MS} (hs : R = rrS B L w (6 - k) 1 P k vv) (hk : k ≤ 6) (hP : P ≤ L) (hL : L ≤ 120) (hc : ¬ bt B L (sk B L P) < 0) (h : k = 6 ∨ ¬ ((0 ≤ (bt B L (sk B L P)) - 48 ∧ (bt B L (sk B L P)) - 48 ≤ (w - 1)) ∧ ¬ inRb vv ((bt B L (sk B L P)) - 48) k = true)) : ¬ enF B L R.1 (-1) < 0 ∧ nI (sk B L (sk B L P)) = enF B L R.1 (-1) := by
  obtain ⟨z1, z2, z3⟩ := rw5_z hs hk h
  rw [enF, z3, if_neg (fun e => hc (by rw [e]; decide)), bl_1, sk_idem]
  exact ⟨nI_nneg (by have := sk_le (B := B) hP; omega), rfl⟩
theorem rw5_s {B : Nat → Int32} {L P k : Nat} {w : Int32} {vv : MS} {R : Nat × Nat × MS} (hs : R = rrS B L w (6 - k) 1 P k vv) (hk : k < 6) (h1 : 0 ≤ (bt B L (sk B L P)) - 48 ∧ (bt B L (sk B L P)) - 48 ≤ (w - 1)) (h2 : ¬ inRb vv ((bt B L (sk B L P)) - 48) k = true) : R = rrS B L w (6 - (k + 1)) 1 (sk B L P + 1) (k + 1) (addP vv k ((bt B L (sk B L P)) - 48)) := hs.trans (rr_y hk (by decide) h1 h2)
theorem and255 (y : Int64) : y &&& 255 = (y.toInt32 &&& 255).toInt64 := by
  apply Int64.toBitVec_inj.mp
  simp only [Int64.toBitVec_and, Int32.toBitVec_toInt64, Int32.toBitVec_and, Int64.toBitVec_toInt32]
  apply BitVec.eq_of_getLsbD_eq
  intro i hi
  have e : ∀ i, i < 64 → (255#64).getLsbD i = decide (i < 8) := by decide
  have e2 : ∀ i, i < 32 → (255#32).getLsbD i = decide (i < 8) := by decide
  rw [BitVec.getLsbD_and, BitVec.getLsbD_signExtend]
  show (y.toBitVec.getLsbD i && (255#64).getLsbD i) = _
  rw [e i hi]
  have hm : ((BitVec.signExtend 32 y.toBitVec) &&& (Int32.toBitVec 255)).msb = false := by
    rw [BitVec.msb_and]; simp; intro _; decide
  rw [hm]
  by_cases h : i < 32
  · simp only [h, if_true, BitVec.getLsbD_and, hi, decide_true, Bool.true_and]
    show _ = (BitVec.getLsbD _ i && (255#32).getLsbD i)
    rw [e2 i h, BitVec.getLsbD_signExtend]
    simp [h, hi]
  · have : ¬ i < 8 := by omega
    simp [h, this]
theorem and255i (y : Int64) : (y &&& 255).toInt32 = y.toInt32 &&& 255 := by
  rw [and255]; simp
theorem ty5_in {y : Int64} : (32 ≤ y &&& 255 ∧ y &&& 255 ≤ 126) ↔ (32 ≤ y.toInt32 &&& 255 ∧ y.toInt32 &&& 255 ≤ 126) := by
  rw [and255]
  exact ⟨fun h => ⟨(w_le 32 _).mp h.1, (w_le _ 126).mp h.2⟩, fun h => ⟨(w_le 32 _).mpr h.1, (w_le _ 126).mpr h.2⟩⟩
theorem ty5_b {x : Int64} {z : Int32} {nn j : Nat} (hz : z = nI (nn - j) - 1) (hr : 1 ≤ nn - j) : (x >>> ((8 * z : Int32).toInt64 &&& 63)).toInt32 &&& 255 = byI x (nI (nn - j - 1)) := by
  have e : z = nI (nn - j - 1) := by
    rw [hz, show nn - j = (nn - j - 1) + 1 by omega, nI_pred]
    rfl
  rw [e]; rfl
theorem ty5_ok {x : Int64} {z : Int32} {nn j : Nat} (hz : z = nI (nn - j) - 1) (hr : 1 ≤ nn - j) (h : ∀ i, nn - j ≤ i → i < nn → 32 ≤ byI x (nI i) ∧ byI x (nI i) ≤ 126) (h2 : 32 ≤ ((x >>> ((8 * z : Int32).toInt64 &&& 63)) &&& 255) ∧ ((x >>> ((8 * z : Int32).toInt64 &&& 63)) &&& 255) ≤ 126) : ∀ i, nn - (j + 1) ≤ i → i < nn → 32 ≤ byI x (nI i) ∧ byI x (nI i) ≤ 126 := by
  intro i h3 h4
  by_cases e : i = nn - j - 1
  · have := ty5_in.mp h2
    rw [ty5_b hz hr] at this
    rw [e]; exact this
  · exact h i (by omega) h4
theorem ty5_no {x : Int64} {z : Int32} {nn j : Nat} (hz : z = nI (nn - j) - 1) (hr : 1 ≤ nn - j) (h2 : ¬ (32 ≤ ((x >>> ((8 * z : Int32).toInt64 &&& 63)) &&& 255) ∧ ((x >>> ((8 * z : Int32).toInt64 &&& 63)) &&& 255) ≤ 126)) : ¬ tyO x nn = true := by
  refine tyO_no (i := nn - j - 1) (by omega) (fun h => h2 (ty5_in.mpr ?_))
  rw [ty5_b hz hr]; exact h
theorem ty5_all {x : Int64} : ∀ {l : Nat}, (∀ i, i < l → 32 ≤ byI x (nI i) ∧ byI x (nI i) ≤ 126) → tyO x l = true
  | 0, _ => rfl
  | l + 1, h => tyO_y (ty5_all (fun i hi => h i (by omega))) (h l (by omega))
theorem ty5_s {B : Nat → Int32} {L nn j : Nat} {x : Int64} {z : Int32} (hz : z = nI (nn - j) - 1) (hr : 1 ≤ nn - j) : upd (tyA B L x nn j) (L + j) (((x >>> ((8 * z : Int32).toInt64 &&& 63)) &&& 255).toInt32) = tyA B L x nn (j + 1) := by
  rw [and255i]; exact ty_s hz hr
set_option maxHeartbeats 4000000 in
set_option maxRecDepth 100000 in
theorem c_X5_loft (cI cS : ClassId) (a : Nat → Nat) (q : Nat → Nat → Int32) {L : Nat} (htp : q 18 4 = nI L) (hL : L ≤ 120) {n sv pl : Nat} (m : MS) (hRQ : RQ q m n sv pl) (v : MS) (hB : ∀ j, j < L → 0 ≤ q 5 j) : CT cI cS yX5_loft cX5_loft 3 (some .int) 4 [.ref (a 0)] (modelW cI a q) 0 0 (fun u : Int32 × (Nat → Nat → Int32) => u.1 = (fgLoft m v (q 5) L).1 ∧ (∃ n2 s2 p2, RQ u.2 (fgLoft m v (q 5) L).2 n2 s2 p2) ∧ OT u.2 q) (fun u => some (.int u.1)) (fun u => (modelW cI a u.2)) := by
  refine ct_intro (by decide) (Nat.le_of_ble_eq_true rfl) (fun E Q hE hQ hI => ?_)
  have hE : CxOk E cI cS RX5 cX5_loft 3 (some .int) 4 0 0 := hE
  show Go E Q 3 0 0 0 [(0, .ref (a 0))] [] (modelW cI a q)
  have hM := hRQ.1
  have hTQ := hRQ.2.1
  have hRG := hRQ.2.2
  have hgr := hTQ.2.2.2.1
  have hsv := hTQ.2.2.2.2.1
  have hpl := hTQ.2.2.2.2.2.1
  have hn6 := hM.2.1
  have hsv8 := hM.2.2.2.1
  have hpl6 := hM.2.2.2.2.2
  have hc0 : m 9 0 = q 18 0 := hM.1.trans hgr.symm
  have hc1 : m 9 1 = q 18 1 := hM.2.2.1.trans hsv.symm
  have hc2 : m 9 2 = q 18 2 := hM.2.2.2.2.1.trans hpl.symm
  refine g_aload_n hE dX5_loft_0 0 rfl ?_
  refine g_aload_n hE dX5_loft_1 0 rfl ?_
  refine g_bipush hE dX5_loft_2 8 (by decide) ?_
  refine g_iconst hE dX5_loft_4 1 (by decide) ?_
  refine g_callV hE (c_X5_readAll1 cI cS a q htp hL v hB) mk_X5_readAll mv_X5_readAll ml_X5_148 dX5_loft_5 (As := [.int 8, .int 1]) (rest := [.ref (a 0)]) rfl rfl 0 rfl (show vwCl[5]? = some (RX5, TX5, 32) from rfl) (by decide) (by decide) (Nat.le_of_ble_eq_true rfl) (by decide) (by decide) [0, 1, 2, 3, 4, 5, 6, 7, 8, 9, 10, 11, 12, 13, 14, 15, 16, 17, 18] rfl (by decide) (fun u => Nat.le_of_ble_eq_true rfl) (ws' := fun u => modelW cI a (pA (pA q 6 u.2.2.1) 18 (upd (upd (q 18) 5 (nI u.2.1)) 6 u.2.2.2))) (fun u => rfl) (fun u hu => ?_)
  obtain ⟨r_1, X_2, rd_3, rs_4⟩ := u
  have h5 : ((r_1 = 1 ∧ enF (q 5) L (rlS (q 5) L 8 1 0 0 (-1) (pA v 9 (upd (v 9) 1 0))).1 (rlS (q 5) L 8 1 0 0 (-1) (pA v 9 (upd (v 9) 1 0))).2.1 < 0 ∧ ∃ j, j ≤ 8 ∧ rs_4 = nI j ∧ (rlS (q 5) L 8 1 0 0 (-1) (pA v 9 (upd (v 9) 1 0))).2.2 9 1 = nI j ∧ SVv (rlS (q 5) L 8 1 0 0 (-1) (pA v 9 (upd (v 9) 1 0))).2.2 rd_3 j) ∨ (r_1 = 0 ∧ ¬ enF (q 5) L (rlS (q 5) L 8 1 0 0 (-1) (pA v 9 (upd (v 9) 1 0))).1 (rlS (q 5) L 8 1 0 0 (-1) (pA v 9 (upd (v 9) 1 0))).2.1 < 0 ∧ nI (sk (q 5) L X_2) = enF (q 5) L (rlS (q 5) L 8 1 0 0 (-1) (pA v 9 (upd (v 9) 1 0))).1 (rlS (q 5) L 8 1 0 0 (-1) (pA v 9 (upd (v 9) 1 0))).2.1)) ∧ X_2 ≤ L := hu
  obtain ⟨hd, hXl⟩ := h5
  rcases hd with ⟨hr1, hFL, j, hj8, hrs, h9, hSV⟩ | ⟨hr0, hFL, hXF⟩
  · subst hr1
    subst hrs
    show Go E Q 3 0 0 8 [(0, .ref (a 0))] [.int 1, .ref (a 0)] (modelW cI a (pA (pA q 6 rd_3) 18 (upd (upd (q 18) 5 (nI X_2)) 6 (nI j))))
    refine g_callV hE (c_X5_end1 cI cS a (pA (pA q 6 rd_3) 18 (upd (upd (q 18) 5 (nI X_2)) 6 (nI j))) htp hL rfl hXl) mk_X5_end mv_X5_end ml_X5_152 dX5_loft_8 (As := [.int 1]) (rest := []) rfl rfl 0 rfl (show vwCl[5]? = some (RX5, TX5, 32) from rfl) (by decide) (by decide) (Nat.le_of_ble_eq_true rfl) (by decide) (by decide) [0, 1, 2, 3, 4, 5, 6, 7, 8, 9, 10, 11, 12, 13, 14, 15, 16, 17, 18] rfl (by decide) (fun u => Nat.le_of_ble_eq_true rfl) (ws' := fun u => modelW cI a (pA (pA q 6 rd_3) 18 (upd (upd (upd (q 18) 4 0) 5 (nI X_2)) 6 (nI j)))) (fun u => rfl) (fun u hu => ?_)
    obtain ⟨r_6, rfl⟩ : ∃ z, z = u := ⟨_, rfl⟩
    have h7 : r_6 = 0 := hu
    subst h7
    show Go E Q 3 0 0 11 [(0, .ref (a 0))] [.int 0] (modelW cI a (pA (pA q 6 rd_3) 18 (upd (upd (upd (q 18) 4 0) 5 (nI X_2)) 6 (nI j))))
    refine g_istore_n hE dX5_loft_11 [(1, .int 0), (0, .ref (a 0))] rfl (by decide) rfl ?_
    refine g_iload_n hE dX5_loft_12 0 rfl ?_
    refine g_if_ge hE 18 dX5_loft_13 (by decide) (fun c8 => ?_) (fun c8 => absurd (Int32.not_lt.mp (by decide)) c8)
    refine g_aload_n hE dX5_loft_18 1 rfl ?_
    refine g_iconst hE dX5_loft_19 0 (by decide) ?_
    refine g_put hE fl_X5_72 fp_5_5 dX5_loft_20 0 rfl rfl rfl (Nat.le_of_ble_eq_true rfl) (modelW cI a (pA (pA q 6 rd_3) 18 (upd (upd (upd (upd (q 18) 1 0) 4 0) 5 (nI X_2)) 6 (nI j)))) (by rfl) ?_
    refine g_aload_n hE dX5_loft_23 1 rfl ?_
    refine g_iconst hE dX5_loft_24 0 (by decide) ?_
    refine g_put hE fl_X5_102 fp_5_7 dX5_loft_25 0 rfl rfl rfl (Nat.le_of_ble_eq_true rfl) (modelW cI a (pA (pA q 6 rd_3) 18 (upd (upd (upd (upd (upd (q 18) 1 0) 2 0) 4 0) 5 (nI X_2)) 6 (nI j)))) (by rfl) ?_
    refine g_iconst hE dX5_loft_28 0 (by decide) ?_
    refine g_istore_n hE dX5_loft_29 [(2, .int 0), (1, .int 0), (0, .ref (a 0))] rfl (by decide) rfl ?_
    have L30 : ∀ (n_30 : Nat) (k : Nat) (zz : Nat → Int32), (k ≤ j) → (∀ s, s < k → Z4 zz rd_3 s) → (j - k < n_30) → Go E Q 3 0 0 30 [(0, .ref (a 0)), (2, .int (nI k))] [] (modelW cI a (pA (pA (pA q 3 zz) 6 rd_3) 18 (upd (upd (upd (upd (upd (q 18) 1 (nI k)) 2 0) 4 0) 5 (nI X_2)) 6 (nI j)))) := by
      intro n_30
      induction n_30 with
      | zero => intro k zz hk hz hm_30; exact absurd hm_30 (Nat.not_lt_zero _)
      | succ n_30 ih_30 =>
        intro k zz hk hz hm_30
        refine g_iload_n hE dX5_loft_30 1 rfl ?_
        refine g_aload_n hE dX5_loft_31 0 rfl ?_
        refine g_get hE fl_X5_145 dX5_loft_32 0 rfl rfl ?_
        refine g_icmp_ge hE 86 dX5_loft_35 (by decide) (fun c9 => ?_) (fun c9 => ?_)
        · have kc9 := nat_le_t (show (nI j) = nI j from rfl) (show (nI k) = nI k from rfl) (by omega) (by omega) c9
          refine g_aload_n hE dX5_loft_86 0 rfl ?_
          refine g_get hE fl_X5_72 dX5_loft_87 0 rfl rfl ?_
          exact g_iret hE hQ dX5_loft_90 rfl ((nI k), (pA (pA (pA q 3 zz) 6 rd_3) 18 (upd (upd (upd (upd (upd (q 18) 1 (nI k)) 2 0) 4 0) 5 (nI X_2)) 6 (nI j)))) rfl rfl ⟨(by rw [(show fgLoft m v (q 5) L = _ from if_pos hFL)]; show _ = (rlS (q 5) L 8 1 0 0 (-1) (pA v 9 (upd (v 9) 1 0))).2.2 9 1; rw [h9]; exact congrArg nI (show k = j by omega)), ⟨_, _, _, (by rw [(show fgLoft m v (q 5) L = _ from if_pos hFL)]; exact RQ_loft hRQ hj8 h9 hSV (fun s hs => hz s (by omega)) rfl rfl rfl rfl (congrArg nI (show k = j by omega)) rfl rfl)⟩, ⟨rfl, rfl, rfl, rfl, rfl, rfl, rfl⟩⟩
        · have kc9 := nat_le_f (show (nI j) = nI j from rfl) (show (nI k) = nI k from rfl) (by omega) (by omega) c9
          refine g_aload_n hE dX5_loft_38 0 rfl ?_
          refine g_aload_n hE dX5_loft_39 0 rfl ?_
          refine g_get hE fl_X5_28 dX5_loft_40 0 rfl rfl ?_
          refine g_iconst hE dX5_loft_43 4 (by decide) ?_
          refine g_iload_n hE dX5_loft_44 1 rfl ?_
          refine g_imul_n hE dX5_loft_45 (show 4 = nI 4 from rfl) (show (nI k) = nI k from rfl) ?_
          refine g_iald_n hE dX5_loft_46 7 rfl (show (nI (4 * k)) = nI (4 * k) from rfl) (by omega) ?_
          refine g_aload_n hE dX5_loft_47 0 rfl ?_
          refine g_get hE fl_X5_28 dX5_loft_48 0 rfl rfl ?_
          refine g_iconst hE dX5_loft_51 4 (by decide) ?_
          refine g_iload_n hE dX5_loft_52 1 rfl ?_
          refine g_imul_n hE dX5_loft_53 (show 4 = nI 4 from rfl) (show (nI k) = nI k from rfl) ?_
          refine g_iconst hE dX5_loft_54 1 (by decide) ?_
          refine g_iadd_n hE dX5_loft_55 (show (nI (4 * k)) = nI (4 * k) from rfl) (show 1 = nI 1 from rfl) ?_
          refine g_iald_n hE dX5_loft_56 7 rfl (show (nI ((4 * k) + 1)) = nI ((4 * k) + 1) from rfl) (by omega) ?_
          refine g_aload_n hE dX5_loft_57 0 rfl ?_
          refine g_get hE fl_X5_28 dX5_loft_58 0 rfl rfl ?_
          refine g_iconst hE dX5_loft_61 4 (by decide) ?_
          refine g_iload_n hE dX5_loft_62 1 rfl ?_
          refine g_imul_n hE dX5_loft_63 (show 4 = nI 4 from rfl) (show (nI k) = nI k from rfl) ?_
          refine g_iconst hE dX5_loft_64 2 (by decide) ?_
          refine g_iadd_n hE dX5_loft_65 (show (nI (4 * k)) = nI (4 * k) from rfl) (show 2 = nI 2 from rfl) ?_
          refine g_iald_n hE dX5_loft_66 7 rfl (show (nI ((4 * k) + 2)) = nI ((4 * k) + 2) from rfl) (by omega) ?_
          refine g_aload_n hE dX5_loft_67 0 rfl ?_
          refine g_get hE fl_X5_28 dX5_loft_68 0 rfl rfl ?_
          refine g_iconst hE dX5_loft_71 4 (by decide) ?_
          refine g_iload_n hE dX5_loft_72 1 rfl ?_
          refine g_imul_n hE dX5_loft_73 (show 4 = nI 4 from rfl) (show (nI k) = nI k from rfl) ?_
          refine g_iconst hE dX5_loft_74 3 (by decide) ?_
          refine g_iadd_n hE dX5_loft_75 (show (nI (4 * k)) = nI (4 * k) from rfl) (show 3 = nI 3 from rfl) ?_
          refine g_iald_n hE dX5_loft_76 7 rfl (show (nI ((4 * k) + 3)) = nI ((4 * k) + 3) from rfl) (by omega) ?_
          refine g_callV hE (c_X5_addSieve cI cS a (pA (pA (pA q 3 zz) 6 rd_3) 18 (upd (upd (upd (upd (upd (q 18) 1 (nI k)) 2 0) 4 0) 5 (nI X_2)) 6 (nI j))) rfl (by omega) (rd_3 (4 * k)) (rd_3 ((4 * k) + 1)) (rd_3 ((4 * k) + 2)) (rd_3 ((4 * k) + 3))) mk_X5_addSieve mv_X5_addSieve ml_X5_95 dX5_loft_77 (As := [.int (rd_3 (4 * k)), .int (rd_3 ((4 * k) + 1)), .int (rd_3 ((4 * k) + 2)), .int (rd_3 ((4 * k) + 3))]) (rest := []) rfl rfl 0 rfl (show vwCl[5]? = some (RX5, TX5, 32) from rfl) (by decide) (by decide) (Nat.le_of_ble_eq_true rfl) (by decide) (by decide) [0, 1, 2, 3, 4, 5, 6, 7, 8, 9, 10, 11, 12, 13, 14, 15, 16, 17, 18] rfl (by decide) (fun u => Nat.le_of_ble_eq_true rfl) (ws' := fun u => modelW cI a (pA (pA (pA q 3 (upd (upd (upd (upd zz (4 * k) (rd_3 (4 * k))) (4 * k + 1) (rd_3 ((4 * k) + 1))) (4 * k + 2) (rd_3 ((4 * k) + 2))) (4 * k + 3) (rd_3 ((4 * k) + 3)))) 6 rd_3) 18 (upd (upd (upd (upd (upd (q 18) 1 (nI (k + 1))) 2 0) 4 0) 5 (nI X_2)) 6 (nI j)))) (fun u => rfl) (fun u hu => ?_)
          show Go E Q 3 0 0 80 [(0, .ref (a 0)), (2, .int (nI k))] [] (modelW cI a (pA (pA (pA q 3 (upd (upd (upd (upd zz (4 * k) (rd_3 (4 * k))) (4 * k + 1) (rd_3 ((4 * k) + 1))) (4 * k + 2) (rd_3 ((4 * k) + 2))) (4 * k + 3) (rd_3 ((4 * k) + 3)))) 6 rd_3) 18 (upd (upd (upd (upd (upd (q 18) 1 (nI (k + 1))) 2 0) 4 0) 5 (nI X_2)) 6 (nI j))))
          refine g_iinc hE dX5_loft_80 1 (nI (k + 1)) [(2, .int (nI (k + 1))), (0, .ref (a 0))] rfl (nI_1 _) (by decide) rfl ?_
          refine g_goto hE 30 dX5_loft_83 (by decide) ?_
          refine g_locals [1, 0] [(0, .ref (a 0)), (2, .int (nI (k + 1)))] rfl ?_
          exact ih_30 (k + 1) (upd (upd (upd (upd zz (4 * k) (rd_3 (4 * k))) (4 * k + 1) (rd_3 ((4 * k) + 1))) (4 * k + 2) (rd_3 ((4 * k) + 2))) (4 * k + 3) (rd_3 ((4 * k) + 3))) (by first | assumption | omega) (z4_s hz) (by omega)
    refine g_locals [2, 0] [(0, .ref (a 0)), (2, .int 0)] rfl ?_
    exact L30 _ 0 (q 3) (Nat.zero_le _) (fun s hs => absurd hs (Nat.not_lt_zero _)) (Nat.lt_succ_self _)
  · subst hr0
    show Go E Q 3 0 0 8 [(0, .ref (a 0))] [.int 0, .ref (a 0)] (modelW cI a (pA (pA q 6 rd_3) 18 (upd (upd (q 18) 5 (nI X_2)) 6 rs_4)))
    refine g_callV hE (c_X5_end0 cI cS a (pA (pA q 6 rd_3) 18 (upd (upd (q 18) 5 (nI X_2)) 6 rs_4)) htp hL rfl hXl) mk_X5_end mv_X5_end ml_X5_152 dX5_loft_8 (As := [.int 0]) (rest := []) rfl rfl 0 rfl (show vwCl[5]? = some (RX5, TX5, 32) from rfl) (by decide) (by decide) (Nat.le_of_ble_eq_true rfl) (by decide) (by decide) [0, 1, 2, 3, 4, 5, 6, 7, 8, 9, 10, 11, 12, 13, 14, 15, 16, 17, 18] rfl (by decide) (fun u => Nat.le_of_ble_eq_true rfl) (ws' := fun u => modelW cI a (pA (pA q 6 rd_3) 18 (upd (upd (upd (q 18) 4 0) 5 (nI (sk (q 5) L X_2))) 6 rs_4))) (fun u => rfl) (fun u hu => ?_)
    obtain ⟨r_11, rfl⟩ : ∃ z, z = u := ⟨_, rfl⟩
    have h12 : r_11 = (-20 - (nI (sk (q 5) L X_2))) := hu
    subst h12
    show Go E Q 3 0 0 11 [(0, .ref (a 0))] [.int (-20 - (nI (sk (q 5) L X_2)))] (modelW cI a (pA (pA q 6 rd_3) 18 (upd (upd (upd (q 18) 4 0) 5 (nI (sk (q 5) L X_2))) 6 rs_4)))
    refine g_istore_n hE dX5_loft_11 [(1, .int (-20 - (nI (sk (q 5) L X_2)))), (0, .ref (a 0))] rfl (by decide) rfl ?_
    refine g_iload_n hE dX5_loft_12 0 rfl ?_
    refine g_if_ge hE 18 dX5_loft_13 (by decide) (fun c13 => ?_) (fun c13 => ?_)
    · exfalso
      exact absurd c13 (neg20 _ (by have := sk_le (B := q 5) hXl; omega))
    · refine g_iload_n hE dX5_loft_16 0 rfl ?_
      exact g_iret hE hQ dX5_loft_17 rfl ((-20 - (nI (sk (q 5) L X_2))), (pA (pA q 6 rd_3) 18 (upd (upd (upd (q 18) 4 0) 5 (nI (sk (q 5) L X_2))) 6 rs_4))) rfl rfl ⟨(by rw [(show fgLoft m v (q 5) L = _ from if_neg hFL), ← hXF]), ⟨n, sv, pl, (by rw [(show fgLoft m v (q 5) L = _ from if_neg hFL)]; exact TF_RQ ⟨rfl, rfl, rfl, rfl, rfl, rfl, rfl, rfl, rfl⟩ hRQ)⟩, ⟨rfl, rfl, rfl, rfl, rfl, rfl, rfl⟩⟩
set_option maxHeartbeats 4000000 in
set_option maxRecDepth 100000 in
theorem c_X5_heap (cI cS : ClassId) (a : Nat → Nat) (q : Nat → Nat → Int32) {L : Nat} (htp : q 18 4 = nI L) (hL : L ≤ 120) {n sv pl : Nat} (m : MS) (hRQ : RQ q m n sv pl) (v : MS) (hB : ∀ j, j < L → 0 ≤ q 5 j) : CT cI cS yX5_heap cX5_heap 3 (some .int) 4 [.ref (a 0)] (modelW cI a q) 0 0 (fun u : Int32 × (Nat → Nat → Int32) => u.1 = (fgHeap m v (q 5) L).1 ∧ (∃ n2 s2 p2, RQ u.2 (fgHeap m v (q 5) L).2 n2 s2 p2) ∧ OT u.2 q) (fun u => some (.int u.1)) (fun u => (modelW cI a u.2)) := by
  refine ct_intro (by decide) (Nat.le_of_ble_eq_true rfl) (fun E Q hE hQ hI => ?_)
  have hE : CxOk E cI cS RX5 cX5_heap 3 (some .int) 4 0 0 := hE
  show Go E Q 3 0 0 0 [(0, .ref (a 0))] [] (modelW cI a q)
  have hM := hRQ.1
  have hTQ := hRQ.2.1
  have hRG := hRQ.2.2
  have hgr := hTQ.2.2.2.1
  have hsv := hTQ.2.2.2.2.1
  have hpl := hTQ.2.2.2.2.2.1
  have hn6 := hM.2.1
  have hsv8 := hM.2.2.2.1
  have hpl6 := hM.2.2.2.2.2
  have hc0 : m 9 0 = q 18 0 := hM.1.trans hgr.symm
  have hc1 : m 9 1 = q 18 1 := hM.2.2.1.trans hsv.symm
  have hc2 : m 9 2 = q 18 2 := hM.2.2.2.2.1.trans hpl.symm
  refine g_aload_n hE dX5_heap_0 0 rfl ?_
  refine g_aload_n hE dX5_heap_1 0 rfl ?_
  refine g_bipush hE dX5_heap_2 6 (by decide) ?_
  refine g_iconst hE dX5_heap_4 0 (by decide) ?_
  refine g_callV hE (c_X5_readAll0 cI cS a q htp hL v hB) mk_X5_readAll mv_X5_readAll ml_X5_148 dX5_heap_5 (As := [.int 6, .int 0]) (rest := [.ref (a 0)]) rfl rfl 0 rfl (show vwCl[5]? = some (RX5, TX5, 32) from rfl) (by decide) (by decide) (Nat.le_of_ble_eq_true rfl) (by decide) (by decide) [0, 1, 2, 3, 4, 5, 6, 7, 8, 9, 10, 11, 12, 13, 14, 15, 16, 17, 18] rfl (by decide) (fun u => Nat.le_of_ble_eq_true rfl) (ws' := fun u => modelW cI a (pA (pA q 6 u.2.2.1) 18 (upd (upd (q 18) 5 (nI u.2.1)) 6 u.2.2.2))) (fun u => rfl) (fun u hu => ?_)
  obtain ⟨r_1, X_2, rd_3, rs_4⟩ := u
  have h5 : ((r_1 = 1 ∧ enF (q 5) L (rhS (q 5) L 6 1 0 0 (-1) (pA v 9 (upd (v 9) 0 0))).1 (rhS (q 5) L 6 1 0 0 (-1) (pA v 9 (upd (v 9) 0 0))).2.1 < 0 ∧ ∃ j, j ≤ 6 ∧ rs_4 = nI j ∧ (rhS (q 5) L 6 1 0 0 (-1) (pA v 9 (upd (v 9) 0 0))).2.2 9 0 = nI j ∧ GVv (rhS (q 5) L 6 1 0 0 (-1) (pA v 9 (upd (v 9) 0 0))).2.2 rd_3 j) ∨ (r_1 = 0 ∧ ¬ enF (q 5) L (rhS (q 5) L 6 1 0 0 (-1) (pA v 9 (upd (v 9) 0 0))).1 (rhS (q 5) L 6 1 0 0 (-1) (pA v 9 (upd (v 9) 0 0))).2.1 < 0 ∧ nI (sk (q 5) L X_2) = enF (q 5) L (rhS (q 5) L 6 1 0 0 (-1) (pA v 9 (upd (v 9) 0 0))).1 (rhS (q 5) L 6 1 0 0 (-1) (pA v 9 (upd (v 9) 0 0))).2.1)) ∧ X_2 ≤ L := hu
  obtain ⟨hd, hXl⟩ := h5
  rcases hd with ⟨hr1, hFL, j, hj8, hrs, h9, hSV⟩ | ⟨hr0, hFL, hXF⟩
  · subst hr1
    subst hrs
    show Go E Q 3 0 0 8 [(0, .ref (a 0))] [.int 1, .ref (a 0)] (modelW cI a (pA (pA q 6 rd_3) 18 (upd (upd (q 18) 5 (nI X_2)) 6 (nI j))))
    refine g_callV hE (c_X5_end1 cI cS a (pA (pA q 6 rd_3) 18 (upd (upd (q 18) 5 (nI X_2)) 6 (nI j))) htp hL rfl hXl) mk_X5_end mv_X5_end ml_X5_152 dX5_heap_8 (As := [.int 1]) (rest := []) rfl rfl 0 rfl (show vwCl[5]? = some (RX5, TX5, 32) from rfl) (by decide) (by decide) (Nat.le_of_ble_eq_true rfl) (by decide) (by decide) [0, 1, 2, 3, 4, 5, 6, 7, 8, 9, 10, 11, 12, 13, 14, 15, 16, 17, 18] rfl (by decide) (fun u => Nat.le_of_ble_eq_true rfl) (ws' := fun u => modelW cI a (pA (pA q 6 rd_3) 18 (upd (upd (upd (q 18) 4 0) 5 (nI X_2)) 6 (nI j)))) (fun u => rfl) (fun u hu => ?_)
    obtain ⟨r_6, rfl⟩ : ∃ z, z = u := ⟨_, rfl⟩
    have h7 : r_6 = 0 := hu
    subst h7
    show Go E Q 3 0 0 11 [(0, .ref (a 0))] [.int 0] (modelW cI a (pA (pA q 6 rd_3) 18 (upd (upd (upd (q 18) 4 0) 5 (nI X_2)) 6 (nI j))))
    refine g_istore_n hE dX5_heap_11 [(1, .int 0), (0, .ref (a 0))] rfl (by decide) rfl ?_
    refine g_iload_n hE dX5_heap_12 0 rfl ?_
    refine g_if_ge hE 18 dX5_heap_13 (by decide) (fun c8 => ?_) (fun c8 => absurd (Int32.not_lt.mp (by decide)) c8)
    refine g_aload_n hE dX5_heap_18 1 rfl ?_
    refine g_iconst hE dX5_heap_19 0 (by decide) ?_
    refine g_put hE fl_X5_64 fp_5_3 dX5_heap_20 0 rfl rfl rfl (Nat.le_of_ble_eq_true rfl) (modelW cI a (pA (pA q 6 rd_3) 18 (upd (upd (upd (upd (q 18) 0 0) 4 0) 5 (nI X_2)) 6 (nI j)))) (by rfl) ?_
    refine g_iconst hE dX5_heap_23 0 (by decide) ?_
    refine g_istore_n hE dX5_heap_24 [(2, .int 0), (1, .int 0), (0, .ref (a 0))] rfl (by decide) rfl ?_
    have L25 : ∀ (n_25 : Nat) (k : Nat) (z0 : Nat → Int32) (z1 : Nat → Int32) (z2 : Nat → Int32), (k ≤ j) → (∀ s, s < k → z0 s = rd_3 (3 * s) ∧ z1 s = rd_3 (3 * s + 1) ∧ z2 s = rd_3 (3 * s + 2)) → (j - k < n_25) → Go E Q 3 0 0 25 [(0, .ref (a 0)), (2, .int (nI k))] [] (modelW cI a (pA (pA (pA (pA (pA q 0 z0) 1 z1) 2 z2) 6 rd_3) 18 (upd (upd (upd (upd (q 18) 0 (nI k)) 4 0) 5 (nI X_2)) 6 (nI j)))) := by
      intro n_25
      induction n_25 with
      | zero => intro k z0 z1 z2 hk hz hm_25; exact absurd hm_25 (Nat.not_lt_zero _)
      | succ n_25 ih_25 =>
        intro k z0 z1 z2 hk hz hm_25
        refine g_iload_n hE dX5_heap_25 1 rfl ?_
        refine g_aload_n hE dX5_heap_26 0 rfl ?_
        refine g_get hE fl_X5_145 dX5_heap_27 0 rfl rfl ?_
        refine g_icmp_ge hE 71 dX5_heap_30 (by decide) (fun c9 => ?_) (fun c9 => ?_)
        · have kc9 := nat_le_t (show (nI j) = nI j from rfl) (show (nI k) = nI k from rfl) (by omega) (by omega) c9
          refine g_aload_n hE dX5_heap_71 0 rfl ?_
          refine g_get hE fl_X5_64 dX5_heap_72 0 rfl rfl ?_
          exact g_iret hE hQ dX5_heap_75 rfl ((nI k), (pA (pA (pA (pA (pA q 0 z0) 1 z1) 2 z2) 6 rd_3) 18 (upd (upd (upd (upd (q 18) 0 (nI k)) 4 0) 5 (nI X_2)) 6 (nI j)))) rfl rfl ⟨(by rw [(show fgHeap m v (q 5) L = _ from if_pos hFL)]; show _ = (rhS (q 5) L 6 1 0 0 (-1) (pA v 9 (upd (v 9) 0 0))).2.2 9 0; rw [h9]; exact congrArg nI (show k = j by omega)), ⟨_, _, _, (by rw [(show fgHeap m v (q 5) L = _ from if_pos hFL)]; exact RQ_heap hRQ hj8 h9 hSV (fun s hs => hz s (by omega)) rfl rfl (congrArg nI (show k = j by omega)) rfl rfl rfl)⟩, ⟨rfl, rfl, rfl, rfl, rfl, rfl, rfl⟩⟩
        · have kc9 := nat_le_f (show (nI j) = nI j from rfl) (show (nI k) = nI k from rfl) (by omega) (by omega) c9
          refine g_aload_n hE dX5_heap_33 0 rfl ?_
          refine g_aload_n hE dX5_heap_34 0 rfl ?_
          refine g_get hE fl_X5_28 dX5_heap_35 0 rfl rfl ?_
          refine g_iconst hE dX5_heap_38 3 (by decide) ?_
          refine g_iload_n hE dX5_heap_39 1 rfl ?_
          refine g_imul_n hE dX5_heap_40 (show 3 = nI 3 from rfl) (show (nI k) = nI k from rfl) ?_
          refine g_iald_n hE dX5_heap_41 7 rfl (show (nI (3 * k)) = nI (3 * k) from rfl) (by omega) ?_
          refine g_aload_n hE dX5_heap_42 0 rfl ?_
          refine g_get hE fl_X5_28 dX5_heap_43 0 rfl rfl ?_
          refine g_iconst hE dX5_heap_46 3 (by decide) ?_
          refine g_iload_n hE dX5_heap_47 1 rfl ?_
          refine g_imul_n hE dX5_heap_48 (show 3 = nI 3 from rfl) (show (nI k) = nI k from rfl) ?_
          refine g_iconst hE dX5_heap_49 1 (by decide) ?_
          refine g_iadd_n hE dX5_heap_50 (show (nI (3 * k)) = nI (3 * k) from rfl) (show 1 = nI 1 from rfl) ?_
          refine g_iald_n hE dX5_heap_51 7 rfl (show (nI ((3 * k) + 1)) = nI ((3 * k) + 1) from rfl) (by omega) ?_
          refine g_aload_n hE dX5_heap_52 0 rfl ?_
          refine g_get hE fl_X5_28 dX5_heap_53 0 rfl rfl ?_
          refine g_iconst hE dX5_heap_56 3 (by decide) ?_
          refine g_iload_n hE dX5_heap_57 1 rfl ?_
          refine g_imul_n hE dX5_heap_58 (show 3 = nI 3 from rfl) (show (nI k) = nI k from rfl) ?_
          refine g_iconst hE dX5_heap_59 2 (by decide) ?_
          refine g_iadd_n hE dX5_heap_60 (show (nI (3 * k)) = nI (3 * k) from rfl) (show 2 = nI 2 from rfl) ?_
          refine g_iald_n hE dX5_heap_61 7 rfl (show (nI ((3 * k) + 2)) = nI ((3 * k) + 2) from rfl) (by omega) ?_
          refine g_callV hE (c_X5_addGrain cI cS a (pA (pA (pA (pA (pA q 0 z0) 1 z1) 2 z2) 6 rd_3) 18 (upd (upd (upd (upd (q 18) 0 (nI k)) 4 0) 5 (nI X_2)) 6 (nI j))) rfl (by omega) (rd_3 (3 * k)) (rd_3 ((3 * k) + 1)) (rd_3 ((3 * k) + 2))) mk_X5_addGrain mv_X5_addGrain ml_X5_81 dX5_heap_62 (As := [.int (rd_3 (3 * k)), .int (rd_3 ((3 * k) + 1)), .int (rd_3 ((3 * k) + 2))]) (rest := []) rfl rfl 0 rfl (show vwCl[5]? = some (RX5, TX5, 32) from rfl) (by decide) (by decide) (Nat.le_of_ble_eq_true rfl) (by decide) (by decide) [0, 1, 2, 3, 4, 5, 6, 7, 8, 9, 10, 11, 12, 13, 14, 15, 16, 17, 18] rfl (by decide) (fun u => Nat.le_of_ble_eq_true rfl) (ws' := fun u => modelW cI a (pA (pA (pA (pA (pA q 0 (upd z0 k (rd_3 (3 * k)))) 1 (upd z1 k (rd_3 ((3 * k) + 1)))) 2 (upd z2 k (rd_3 ((3 * k) + 2)))) 6 rd_3) 18 (upd (upd (upd (upd (q 18) 0 (nI (k + 1))) 4 0) 5 (nI X_2)) 6 (nI j)))) (fun u => rfl) (fun u hu => ?_)
          show Go E Q 3 0 0 65 [(0, .ref (a 0)), (2, .int (nI k))] [] (modelW cI a (pA (pA (pA (pA (pA q 0 (upd z0 k (rd_3 (3 * k)))) 1 (upd z1 k (rd_3 ((3 * k) + 1)))) 2 (upd z2 k (rd_3 ((3 * k) + 2)))) 6 rd_3) 18 (upd (upd (upd (upd (q 18) 0 (nI (k + 1))) 4 0) 5 (nI X_2)) 6 (nI j))))
          refine g_iinc hE dX5_heap_65 1 (nI (k + 1)) [(2, .int (nI (k + 1))), (0, .ref (a 0))] rfl (nI_1 _) (by decide) rfl ?_
          refine g_goto hE 25 dX5_heap_68 (by decide) ?_
          refine g_locals [1, 0] [(0, .ref (a 0)), (2, .int (nI (k + 1)))] rfl ?_
          exact ih_25 (k + 1) (upd z0 k (rd_3 (3 * k))) (upd z1 k (rd_3 ((3 * k) + 1))) (upd z2 k (rd_3 ((3 * k) + 2))) (by first | assumption | omega) (z3_s hz) (by omega)
    refine g_locals [2, 0] [(0, .ref (a 0)), (2, .int 0)] rfl ?_
    exact L25 _ 0 (q 0) (q 1) (q 2) (Nat.zero_le _) (fun s hs => absurd hs (Nat.not_lt_zero _)) (Nat.lt_succ_self _)
  · subst hr0
    show Go E Q 3 0 0 8 [(0, .ref (a 0))] [.int 0, .ref (a 0)] (modelW cI a (pA (pA q 6 rd_3) 18 (upd (upd (q 18) 5 (nI X_2)) 6 rs_4)))
    refine g_callV hE (c_X5_end0 cI cS a (pA (pA q 6 rd_3) 18 (upd (upd (q 18) 5 (nI X_2)) 6 rs_4)) htp hL rfl hXl) mk_X5_end mv_X5_end ml_X5_152 dX5_heap_8 (As := [.int 0]) (rest := []) rfl rfl 0 rfl (show vwCl[5]? = some (RX5, TX5, 32) from rfl) (by decide) (by decide) (Nat.le_of_ble_eq_true rfl) (by decide) (by decide) [0, 1, 2, 3, 4, 5, 6, 7, 8, 9, 10, 11, 12, 13, 14, 15, 16, 17, 18] rfl (by decide) (fun u => Nat.le_of_ble_eq_true rfl) (ws' := fun u => modelW cI a (pA (pA q 6 rd_3) 18 (upd (upd (upd (q 18) 4 0) 5 (nI (sk (q 5) L X_2))) 6 rs_4))) (fun u => rfl) (fun u hu => ?_)
    obtain ⟨r_11, rfl⟩ : ∃ z, z = u := ⟨_, rfl⟩
    have h12 : r_11 = (-20 - (nI (sk (q 5) L X_2))) := hu
    subst h12
    show Go E Q 3 0 0 11 [(0, .ref (a 0))] [.int (-20 - (nI (sk (q 5) L X_2)))] (modelW cI a (pA (pA q 6 rd_3) 18 (upd (upd (upd (q 18) 4 0) 5 (nI (sk (q 5) L X_2))) 6 rs_4)))
    refine g_istore_n hE dX5_heap_11 [(1, .int (-20 - (nI (sk (q 5) L X_2)))), (0, .ref (a 0))] rfl (by decide) rfl ?_
    refine g_iload_n hE dX5_heap_12 0 rfl ?_
    refine g_if_ge hE 18 dX5_heap_13 (by decide) (fun c13 => ?_) (fun c13 => ?_)
    · exfalso
      exact absurd c13 (neg20 _ (by have := sk_le (B := q 5) hXl; omega))
    · refine g_iload_n hE dX5_heap_16 0 rfl ?_
      exact g_iret hE hQ dX5_heap_17 rfl ((-20 - (nI (sk (q 5) L X_2))), (pA (pA q 6 rd_3) 18 (upd (upd (upd (q 18) 4 0) 5 (nI (sk (q 5) L X_2))) 6 rs_4))) rfl rfl ⟨(by rw [(show fgHeap m v (q 5) L = _ from if_neg hFL), ← hXF]), ⟨n, sv, pl, (by rw [(show fgHeap m v (q 5) L = _ from if_neg hFL)]; exact TF_RQ ⟨rfl, rfl, rfl, rfl, rfl, rfl, rfl, rfl, rfl⟩ hRQ)⟩, ⟨rfl, rfl, rfl, rfl, rfl, rfl, rfl⟩⟩
set_option maxHeartbeats 4000000 in
set_option maxRecDepth 100000 in
theorem c_X5_readRow (cI cS : ClassId) (a : Nat → Nat) (q : Nat → Nat → Int32) {L : Nat} (htp : q 18 4 = nI L) (hL : L ≤ 120) {sv : Nat} (hsv : q 18 1 = nI sv) (hsv8 : sv ≤ 8) (v : MS) (w : Int32) (hw : w = nI sv) (hB : ∀ j, j < L → 0 ≤ q 5 j) : CT cI cS yX5_readRow cX5_readRow 3 (some .boolean) 2 [.ref (a 0)] (modelW cI a q) 0 0 (fun u : Int32 × Nat × (Nat → Int32) × Int32 => ((u.1 = 1 ∧ enF (q 5) L (rrS (q 5) L w 6 1 0 0 (pA v 9 (upd (v 9) 2 0))).1 (-1) < 0 ∧ ∃ j, j ≤ 6 ∧ u.2.2.2 = nI j ∧ (rrS (q 5) L w 6 1 0 0 (pA v 9 (upd (v 9) 2 0))).2.2 9 2 = nI j ∧ (∀ i, i < j → u.2.2.1 i = (rrS (q 5) L w 6 1 0 0 (pA v 9 (upd (v 9) 2 0))).2.2 7 i) ∧ DR ((rrS (q 5) L w 6 1 0 0 (pA v 9 (upd (v 9) 2 0))).2.2 7) j sv) ∨ (u.1 = 0 ∧ ¬ enF (q 5) L (rrS (q 5) L w 6 1 0 0 (pA v 9 (upd (v 9) 2 0))).1 (-1) < 0 ∧ nI (sk (q 5) L u.2.1) = enF (q 5) L (rrS (q 5) L w 6 1 0 0 (pA v 9 (upd (v 9) 2 0))).1 (-1))) ∧ u.2.1 ≤ L) (fun u => some (.int u.1)) (fun u => (modelW cI a (pA (pA q 6 u.2.2.1) 18 (upd (upd (q 18) 5 (nI u.2.1)) 6 u.2.2.2)))) := by
  refine ct_intro (by decide) (Nat.le_of_ble_eq_true rfl) (fun E Q hE hQ hI => ?_)
  have hE : CxOk E cI cS RX5 cX5_readRow 3 (some .boolean) 2 0 0 := hE
  show Go E Q 3 0 0 0 [(0, .ref (a 0))] [] (modelW cI a q)
  have hqw : q 18 1 = w := hsv.trans hw.symm
  refine g_aload_n hE dX5_readRow_0 0 rfl ?_
  refine g_iconst hE dX5_readRow_1 0 (by decide) ?_
  refine g_put hE fl_X5_119 fp_5_11 dX5_readRow_2 0 rfl rfl rfl (Nat.le_of_ble_eq_true rfl) (modelW cI a (pA q 18 (upd (q 18) 5 0))) (by rfl) ?_
  refine g_aload_n hE dX5_readRow_5 0 rfl ?_
  refine g_iconst hE dX5_readRow_6 0 (by decide) ?_
  refine g_put hE fl_X5_145 fp_5_12 dX5_readRow_7 0 rfl rfl rfl (Nat.le_of_ble_eq_true rfl) (modelW cI a (pA q 18 (upd (upd (q 18) 5 0) 6 0))) (by rfl) ?_
  refine g_world (modelW cI a (pA (pA q 6 (q 6)) 18 (upd (upd (q 18) 5 (nI 0)) 6 (nI 0)))) (by rfl) ?_
  refine g_iconst hE dX5_readRow_10 0 (by decide) ?_
  refine g_istore_n hE dX5_readRow_11 [(1, .int 0), (0, .ref (a 0))] rfl (by decide) rfl ?_
  have L12 : ∀ (n_12 : Nat) (k : Nat) (P5 : Nat) (rd : Nat → Int32) (S : Nat) (z : Int32) (vv : Nat → Nat → Int32), (k ≤ 6) → (P5 ≤ L) → ((rrS (q 5) L w 6 1 0 0 (pA v 9 (upd (v 9) 2 0))) = rrS (q 5) L w (6 - k) 1 P5 k vv) → (vv 9 2 = nI k) → (∀ i, i < k → rd i = vv 7 i) → (DR (vv 7) k sv) → (RS5 vv k S z) → (7 - k < n_12) → Go E Q 3 0 0 12 [(0, .ref (a 0)), (1, .int z)] [] (modelW cI a (pA (pA q 6 rd) 18 (upd (upd (q 18) 5 (nI P5)) 6 (nI k)))) := by
    intro n_12
    induction n_12 with
    | zero => intro k P5 rd S z vv hk hP5 hs h9 hrd hD hS hm_12; exact absurd hm_12 (Nat.not_lt_zero _)
    | succ n_12 ih_12 =>
      intro k P5 rd S z vv hk hP5 hs h9 hrd hD hS hm_12
      refine g_aload_n hE dX5_readRow_12 0 rfl ?_
      refine g_callV hE (c_X5_nextByte cI cS a (pA (pA q 6 rd) 18 (upd (upd (q 18) 5 (nI P5)) 6 (nI k))) htp hL rfl hP5) mk_X5_nextByte mv_X5_nextByte ml_X5_122 dX5_readRow_13 (As := []) (rest := []) rfl rfl 0 rfl (show vwCl[5]? = some (RX5, TX5, 32) from rfl) (by decide) (by decide) (Nat.le_of_ble_eq_true rfl) (by decide) (by decide) [0, 1, 2, 3, 4, 5, 6, 7, 8, 9, 10, 11, 12, 13, 14, 15, 16, 17, 18] rfl (by decide) (fun u => Nat.le_of_ble_eq_true rfl) (ws' := fun u => modelW cI a (pA (pA q 6 rd) 18 (upd (upd (q 18) 5 (nI (sk (q 5) L P5))) 6 (nI k)))) (fun u => rfl) (fun u hu => ?_)
      obtain ⟨r_1, rfl⟩ : ∃ z, z = u := ⟨_, rfl⟩
      have h2 : r_1 = (bt (q 5) L (sk (q 5) L P5)) := hu
      subst h2
      show Go E Q 3 0 0 16 [(0, .ref (a 0)), (1, .int z)] [.int (bt (q 5) L (sk (q 5) L P5))] (modelW cI a (pA (pA q 6 rd) 18 (upd (upd (q 18) 5 (nI (sk (q 5) L P5))) 6 (nI k))))
      refine g_if_lt hE 93 dX5_readRow_16 (by decide) (fun c3 => ?_) (fun c3 => ?_)
      · refine g_iconst hE dX5_readRow_93 1 (by decide) ?_
        exact g_iret hE hQ dX5_readRow_94 (by first | rfl | decide) (1, (sk (q 5) L P5), rd, (nI k)) rfl rfl ⟨Or.inl ⟨rfl, rw5_y hs hk hw hB (show (bt (q 5) L (sk (q 5) L P5)) < 0 from c3) h9 hrd hD⟩, sk_le hP5⟩
      · refine g_aload_n hE dX5_readRow_19 0 rfl ?_
        refine g_callV hE (c_X5_nextByte cI cS a (pA (pA q 6 rd) 18 (upd (upd (q 18) 5 (nI (sk (q 5) L P5))) 6 (nI k))) htp hL rfl (sk_le hP5)) mk_X5_nextByte mv_X5_nextByte ml_X5_122 dX5_readRow_20 (As := []) (rest := []) rfl rfl 0 rfl (show vwCl[5]? = some (RX5, TX5, 32) from rfl) (by decide) (by decide) (Nat.le_of_ble_eq_true rfl) (by decide) (by decide) [0, 1, 2, 3, 4, 5, 6, 7, 8, 9, 10, 11, 12, 13, 14, 15, 16, 17, 18] rfl (by decide) (fun u => Nat.le_of_ble_eq_true rfl) (ws' := fun u => modelW cI a (pA (pA q 6 rd) 18 (upd (upd (q 18) 5 (nI (sk (q 5) L (sk (q 5) L P5)))) 6 (nI k)))) (fun u => rfl) (fun u hu => ?_)
        obtain ⟨r_4, rfl⟩ : ∃ z, z = u := ⟨_, rfl⟩
        have h5 : r_4 = (bt (q 5) L (sk (q 5) L P5)) := (hu.trans (congrArg (bt (q 5) L) (sk_idem _ _ _)))
        subst h5
        show Go E Q 3 0 0 23 [(0, .ref (a 0)), (1, .int z)] [.int (bt (q 5) L (sk (q 5) L P5))] (modelW cI a (pA (pA q 6 rd) 18 (upd (upd (q 18) 5 (nI (sk (q 5) L (sk (q 5) L P5)))) 6 (nI k))))
        refine g_world (modelW cI a (pA (pA q 6 rd) 18 (upd (upd (q 18) 5 (nI (sk (q 5) L P5))) 6 (nI k)))) (by rw [sk_idem]) ?_
        refine g_bipush hE dX5_readRow_23 48 (by decide) ?_
        refine g_isub hE dX5_readRow_25 ?_
        refine g_istore_n hE dX5_readRow_26 [(2, .int ((bt (q 5) L (sk (q 5) L P5)) - 48)), (0, .ref (a 0)), (1, .int z)] rfl (by decide) rfl ?_
        refine g_aload_n hE dX5_readRow_27 1 rfl ?_
        refine g_iload_n hE dX5_readRow_28 0 rfl ?_
        refine g_callV hE (c_X5_isSieve cI cS a (pA (pA q 6 rd) 18 (upd (upd (q 18) 5 (nI (sk (q 5) L P5))) 6 (nI k))) hsv hsv8 ((bt (q 5) L (sk (q 5) L P5)) - 48)) mk_X5_isSieve mv_X5_isSieve ml_X5_99 dX5_readRow_29 (As := [.int ((bt (q 5) L (sk (q 5) L P5)) - 48)]) (rest := []) rfl rfl 0 rfl (show vwCl[5]? = some (RX5, TX5, 32) from rfl) (by decide) (by decide) (Nat.le_of_ble_eq_true rfl) (by decide) (by decide) [0, 1, 2, 3, 4, 5, 6, 7, 8, 9, 10, 11, 12, 13, 14, 15, 16, 17, 18] rfl (by decide) (fun u => Nat.le_of_ble_eq_true rfl) (ws' := fun u => modelW cI a (pA (pA q 6 rd) 18 (upd (upd (q 18) 5 (nI (sk (q 5) L P5))) 6 (nI k)))) (fun u => rfl) (fun u hu => ?_)
        obtain ⟨r_6, rfl⟩ : ∃ z, z = u := ⟨_, rfl⟩
        have h7 : r_6 = if 0 ≤ ((bt (q 5) L (sk (q 5) L P5)) - 48) ∧ ((bt (q 5) L (sk (q 5) L P5)) - 48) < (q 18 1) then 1 else 0 := hu
        by_cases c8 : 0 ≤ ((bt (q 5) L (sk (q 5) L P5)) - 48) ∧ ((bt (q 5) L (sk (q 5) L P5)) - 48) < (q 18 1)
        · rw [if_pos c8] at h7
          subst h7
          show Go E Q 3 0 0 32 [(2, .int ((bt (q 5) L (sk (q 5) L P5)) - 48)), (0, .ref (a 0)), (1, .int z)] [.int 1] (modelW cI a (pA (pA q 6 rd) 18 (upd (upd (q 18) 5 (nI (sk (q 5) L P5))) 6 (nI k))))
          refine g_if_eq hE 52 dX5_readRow_32 (by decide) (fun c9 => absurd c9 (by decide)) (fun c9 => ?_)
          obtain ⟨sn, hsnl, hsn, hsnc⟩ := nat_of_lt c8 hsv (by omega)
          refine g_iload_n hE dX5_readRow_35 2 rfl ?_
          refine g_iload_n hE dX5_readRow_36 0 rfl ?_
          refine g_callS hE (c_X5_has cI cS z ((bt (q 5) L (sk (q 5) L P5)) - 48)) mk_X5_has st_X5_has ml_X5_156 dX5_readRow_37 (As := [.int z, .int ((bt (q 5) L (sk (q 5) L P5)) - 48)]) (rest := []) rfl rfl (by decide) (by decide) (Nat.le_of_ble_eq_true rfl) (by decide) (by decide) [] rfl (by decide) (fun u => Nat.le_of_ble_eq_true rfl) (ws' := fun u => modelW cI a (pA (pA q 6 rd) 18 (upd (upd (q 18) 5 (nI (sk (q 5) L P5))) 6 (nI k)))) (fun u => rfl) (fun u hu => ?_)
          obtain ⟨r_10, rfl⟩ : ∃ z, z = u := ⟨_, rfl⟩
          have h11 : r_10 = if ((z >>> (((bt (q 5) L (sk (q 5) L P5)) - 48) &&& 31)) &&& 1) = 1 then 1 else 0 := hu
          by_cases c12 : ((z >>> (((bt (q 5) L (sk (q 5) L P5)) - 48) &&& 31)) &&& 1) = 1
          · rw [if_pos c12] at h11
            subst h11
            show Go E Q 3 0 0 40 [(2, .int ((bt (q 5) L (sk (q 5) L P5)) - 48)), (0, .ref (a 0)), (1, .int z)] [.int 1] (modelW cI a (pA (pA q 6 rd) 18 (upd (upd (q 18) 5 (nI (sk (q 5) L P5))) 6 (nI k))))
            refine g_if_ne hE 52 dX5_readRow_40 (by decide) (fun c13 => ?_) (fun c13 => absurd c13 (by decide))
            refine g_iconst hE dX5_readRow_52 0 (by decide) ?_
            exact g_iret hE hQ dX5_readRow_53 (by first | rfl | decide) (0, (sk (q 5) L P5), rd, (nI k)) rfl rfl ⟨Or.inr ⟨rfl, rw5_n hs hk hP5 hL (show ¬ (bt (q 5) L (sk (q 5) L P5)) < 0 from c3) (Or.inr (fun z => z.2 (rs5_h hS hsnl hsv8 hsn c12)))⟩, sk_le hP5⟩
          · rw [if_neg c12] at h11
            subst h11
            show Go E Q 3 0 0 40 [(2, .int ((bt (q 5) L (sk (q 5) L P5)) - 48)), (0, .ref (a 0)), (1, .int z)] [.int 0] (modelW cI a (pA (pA q 6 rd) 18 (upd (upd (q 18) 5 (nI (sk (q 5) L P5))) 6 (nI k))))
            refine g_if_ne hE 52 dX5_readRow_40 (by decide) (fun c14 => absurd (by decide) c14) (fun c14 => ?_)
            refine g_aload_n hE dX5_readRow_43 1 rfl ?_
            refine g_get hE fl_X5_145 dX5_readRow_44 0 rfl rfl ?_
            refine g_bipush hE dX5_readRow_47 6 (by decide) ?_
            refine g_icmp_ne hE 54 dX5_readRow_49 (by decide) (fun c15 => ?_) (fun c15 => ?_)
            · have kc15 := nat_eq_f (show (nI k) = nI k from rfl) (show 6 = nI 6 from rfl) (by omega) (by omega) c15
              refine g_iload_n hE dX5_readRow_54 2 rfl ?_
              refine g_iconst hE dX5_readRow_55 1 (by decide) ?_
              refine g_iload_n hE dX5_readRow_56 0 rfl ?_
              refine g_ishl hE dX5_readRow_57 ?_
              refine g_ior hE dX5_readRow_58 ?_
              refine g_istore_n hE dX5_readRow_59 [(1, .int (z ||| (1 <<< (((bt (q 5) L (sk (q 5) L P5)) - 48) &&& 31)))), (2, .int ((bt (q 5) L (sk (q 5) L P5)) - 48)), (0, .ref (a 0))] rfl (by decide) rfl ?_
              refine g_aload_n hE dX5_readRow_60 2 rfl ?_
              refine g_get hE fl_X5_28 dX5_readRow_61 0 rfl rfl ?_
              refine g_aload_n hE dX5_readRow_64 2 rfl ?_
              refine g_get hE fl_X5_145 dX5_readRow_65 0 rfl rfl ?_
              refine g_iload_n hE dX5_readRow_68 1 rfl ?_
              refine g_iast_n hE dX5_readRow_69 7 rfl (show (nI k) = nI k from rfl) (by omega) (modelW cI a (pA (pA q 6 (upd rd k ((bt (q 5) L (sk (q 5) L P5)) - 48))) 18 (upd (upd (q 18) 5 (nI (sk (q 5) L P5))) 6 (nI k)))) rfl ?_
              refine g_aload_n hE dX5_readRow_70 2 rfl ?_
              refine g_dup hE dX5_readRow_71 rfl ?_
              refine g_get hE fl_X5_145 dX5_readRow_72 0 rfl rfl ?_
              refine g_iconst hE dX5_readRow_75 1 (by decide) ?_
              refine g_iadd_n hE dX5_readRow_76 (show (nI k) = nI k from rfl) (show 1 = nI 1 from rfl) ?_
              refine g_put hE fl_X5_145 fp_5_12 dX5_readRow_77 0 rfl rfl rfl (Nat.le_of_ble_eq_true rfl) (modelW cI a (pA (pA q 6 (upd rd k ((bt (q 5) L (sk (q 5) L P5)) - 48))) 18 (upd (upd (q 18) 5 (nI (sk (q 5) L P5))) 6 (nI (k + 1))))) (by rfl) ?_
              refine g_aload_n hE dX5_readRow_80 2 rfl ?_
              refine g_dup hE dX5_readRow_81 rfl ?_
              refine g_get hE fl_X5_119 dX5_readRow_82 0 rfl rfl ?_
              refine g_iconst hE dX5_readRow_85 1 (by decide) ?_
              refine g_iadd_n hE dX5_readRow_86 (show (nI (sk (q 5) L P5)) = nI (sk (q 5) L P5) from rfl) (show 1 = nI 1 from rfl) ?_
              refine g_put hE fl_X5_119 fp_5_11 dX5_readRow_87 0 rfl rfl rfl (Nat.le_of_ble_eq_true rfl) (modelW cI a (pA (pA q 6 (upd rd k ((bt (q 5) L (sk (q 5) L P5)) - 48))) 18 (upd (upd (q 18) 5 (nI ((sk (q 5) L P5) + 1))) 6 (nI (k + 1))))) (by rfl) ?_
              refine g_goto hE 12 dX5_readRow_90 (by decide) ?_
              refine g_locals [2, 0] [(0, .ref (a 0)), (1, .int (z ||| (1 <<< (((bt (q 5) L (sk (q 5) L P5)) - 48) &&& 31))))] rfl ?_
              exact ih_12 (k + 1) ((sk (q 5) L P5) + 1) (upd rd k ((bt (q 5) L (sk (q 5) L P5)) - 48)) (S ||| 2 ^ sn) (z ||| (1 <<< (((bt (q 5) L (sk (q 5) L P5)) - 48) &&& 31))) _ (by omega) (rr_lt (w := w - 1) hP5 (pred_u hw (by omega) (by rw [← hqw]; exact c8))) (rw5_s hs (by omega) (pred_u hw (by omega) (by rw [← hqw]; exact c8)) (fun z => c12 (rs5_b hS hsnl hsv8 hsn z))) rfl (rd5_s hrd) (dr5_s hD hsnl hsn (fun z => c12 (rs5_b hS hsnl hsv8 hsn z))) (rs5_s hS hsnl hsv8 hsn) (by omega)
            · have kc15 := nat_eq_t (show (nI k) = nI k from rfl) (show 6 = nI 6 from rfl) (by omega) (by omega) c15
              refine g_iconst hE dX5_readRow_52 0 (by decide) ?_
              exact g_iret hE hQ dX5_readRow_53 (by first | rfl | decide) (0, (sk (q 5) L P5), rd, (nI k)) rfl rfl ⟨Or.inr ⟨rfl, rw5_n hs hk hP5 hL (show ¬ (bt (q 5) L (sk (q 5) L P5)) < 0 from c3) (Or.inl (by omega))⟩, sk_le hP5⟩
        · rw [if_neg c8] at h7
          subst h7
          show Go E Q 3 0 0 32 [(2, .int ((bt (q 5) L (sk (q 5) L P5)) - 48)), (0, .ref (a 0)), (1, .int z)] [.int 0] (modelW cI a (pA (pA q 6 rd) 18 (upd (upd (q 18) 5 (nI (sk (q 5) L P5))) 6 (nI k))))
          refine g_if_eq hE 52 dX5_readRow_32 (by decide) (fun c16 => ?_) (fun c16 => absurd (by decide) c16)
          refine g_iconst hE dX5_readRow_52 0 (by decide) ?_
          exact g_iret hE hQ dX5_readRow_53 (by first | rfl | decide) (0, (sk (q 5) L P5), rd, (nI k)) rfl rfl ⟨Or.inr ⟨rfl, rw5_n hs hk hP5 hL (show ¬ (bt (q 5) L (sk (q 5) L P5)) < 0 from c3) (Or.inr (fun z => c8 (by rw [hqw]; exact pred_t hw (by omega) z.1)))⟩, sk_le hP5⟩
  refine g_locals [1, 0] [(0, .ref (a 0)), (1, .int 0)] rfl ?_
  exact L12 _ 0 0 (q 6) 0 0 (pA v 9 (upd (v 9) 2 0)) (Nat.zero_le _) (Nat.zero_le _) rfl rfl (fun i hi => absurd hi (Nat.not_lt_zero _)) dr5_0 rs5_0 (Nat.lt_succ_self _)
set_option maxHeartbeats 4000000 in
set_option maxRecDepth 100000 in
theorem c_X5_row (cI cS : ClassId) (a : Nat → Nat) (q : Nat → Nat → Int32) {L : Nat} (htp : q 18 4 = nI L) (hL : L ≤ 120) {n sv pl : Nat} (m : MS) (hRQ : RQ q m n sv pl) (v : MS) (hB : ∀ j, j < L → 0 ≤ q 5 j) : CT cI cS yX5_row cX5_row 3 (some .int) 3 [.ref (a 0)] (modelW cI a q) 0 0 (fun u : Int32 × (Nat → Nat → Int32) => u.1 = (fgRow m v (q 5) L).1 ∧ (∃ n2 s2 p2, RQ u.2 (fgRow m v (q 5) L).2 n2 s2 p2) ∧ OT u.2 q) (fun u => some (.int u.1)) (fun u => (modelW cI a u.2)) := by
  refine ct_intro (by decide) (Nat.le_of_ble_eq_true rfl) (fun E Q hE hQ hI => ?_)
  have hE : CxOk E cI cS RX5 cX5_row 3 (some .int) 3 0 0 := hE
  show Go E Q 3 0 0 0 [(0, .ref (a 0))] [] (modelW cI a q)
  have hM := hRQ.1
  have hTQ := hRQ.2.1
  have hRG := hRQ.2.2
  have hgr := hTQ.2.2.2.1
  have hsv := hTQ.2.2.2.2.1
  have hpl := hTQ.2.2.2.2.2.1
  have hn6 := hM.2.1
  have hsv8 := hM.2.2.2.1
  have hpl6 := hM.2.2.2.2.2
  have hc0 : m 9 0 = q 18 0 := hM.1.trans hgr.symm
  have hc1 : m 9 1 = q 18 1 := hM.2.2.1.trans hsv.symm
  have hc2 : m 9 2 = q 18 2 := hM.2.2.2.2.1.trans hpl.symm
  refine g_aload_n hE dX5_row_0 0 rfl ?_
  refine g_aload_n hE dX5_row_1 0 rfl ?_
  refine g_callV hE (c_X5_readRow cI cS a q htp hL hsv hsv8 v (m 9 1) hM.2.2.1 hB) mk_X5_readRow mv_X5_readRow ml_X5_160 dX5_row_2 (As := []) (rest := [.ref (a 0)]) rfl rfl 0 rfl (show vwCl[5]? = some (RX5, TX5, 32) from rfl) (by decide) (by decide) (Nat.le_of_ble_eq_true rfl) (by decide) (by decide) [0, 1, 2, 3, 4, 5, 6, 7, 8, 9, 10, 11, 12, 13, 14, 15, 16, 17, 18] rfl (by decide) (fun u => Nat.le_of_ble_eq_true rfl) (ws' := fun u => modelW cI a (pA (pA q 6 u.2.2.1) 18 (upd (upd (q 18) 5 (nI u.2.1)) 6 u.2.2.2))) (fun u => rfl) (fun u hu => ?_)
  obtain ⟨r_1, X_2, rd_3, rs_4⟩ := u
  have h5 : ((r_1 = 1 ∧ enF (q 5) L (rrS (q 5) L (m 9 1) 6 1 0 0 (pA v 9 (upd (v 9) 2 0))).1 (-1) < 0 ∧ ∃ j, j ≤ 6 ∧ rs_4 = nI j ∧ (rrS (q 5) L (m 9 1) 6 1 0 0 (pA v 9 (upd (v 9) 2 0))).2.2 9 2 = nI j ∧ (∀ i, i < j → rd_3 i = (rrS (q 5) L (m 9 1) 6 1 0 0 (pA v 9 (upd (v 9) 2 0))).2.2 7 i) ∧ DR ((rrS (q 5) L (m 9 1) 6 1 0 0 (pA v 9 (upd (v 9) 2 0))).2.2 7) j sv) ∨ (r_1 = 0 ∧ ¬ enF (q 5) L (rrS (q 5) L (m 9 1) 6 1 0 0 (pA v 9 (upd (v 9) 2 0))).1 (-1) < 0 ∧ nI (sk (q 5) L X_2) = enF (q 5) L (rrS (q 5) L (m 9 1) 6 1 0 0 (pA v 9 (upd (v 9) 2 0))).1 (-1))) ∧ X_2 ≤ L := hu
  obtain ⟨hd, hXl⟩ := h5
  rcases hd with ⟨hr1, hFL, j, hj8, hrs, h9, hrd, hD⟩ | ⟨hr0, hFL, hXF⟩
  · subst hr1
    subst hrs
    show Go E Q 3 0 0 5 [(0, .ref (a 0))] [.int 1, .ref (a 0)] (modelW cI a (pA (pA q 6 rd_3) 18 (upd (upd (q 18) 5 (nI X_2)) 6 (nI j))))
    refine g_callV hE (c_X5_end1 cI cS a (pA (pA q 6 rd_3) 18 (upd (upd (q 18) 5 (nI X_2)) 6 (nI j))) htp hL rfl hXl) mk_X5_end mv_X5_end ml_X5_152 dX5_row_5 (As := [.int 1]) (rest := []) rfl rfl 0 rfl (show vwCl[5]? = some (RX5, TX5, 32) from rfl) (by decide) (by decide) (Nat.le_of_ble_eq_true rfl) (by decide) (by decide) [0, 1, 2, 3, 4, 5, 6, 7, 8, 9, 10, 11, 12, 13, 14, 15, 16, 17, 18] rfl (by decide) (fun u => Nat.le_of_ble_eq_true rfl) (ws' := fun u => modelW cI a (pA (pA q 6 rd_3) 18 (upd (upd (upd (q 18) 4 0) 5 (nI X_2)) 6 (nI j)))) (fun u => rfl) (fun u hu => ?_)
    obtain ⟨r_6, rfl⟩ : ∃ z, z = u := ⟨_, rfl⟩
    have h7 : r_6 = 0 := hu
    subst h7
    show Go E Q 3 0 0 8 [(0, .ref (a 0))] [.int 0] (modelW cI a (pA (pA q 6 rd_3) 18 (upd (upd (upd (q 18) 4 0) 5 (nI X_2)) 6 (nI j))))
    refine g_istore_n hE dX5_row_8 [(1, .int 0), (0, .ref (a 0))] rfl (by decide) rfl ?_
    refine g_iload_n hE dX5_row_9 0 rfl ?_
    refine g_if_ge hE 15 dX5_row_10 (by decide) (fun c8 => ?_) (fun c8 => absurd (Int32.not_lt.mp (by decide)) c8)
    refine g_aload_n hE dX5_row_15 1 rfl ?_
    refine g_aload_n hE dX5_row_16 1 rfl ?_
    refine g_get hE fl_X5_145 dX5_row_17 0 rfl rfl ?_
    refine g_put hE fl_X5_102 fp_5_7 dX5_row_20 0 rfl rfl rfl (Nat.le_of_ble_eq_true rfl) (modelW cI a (pA (pA q 6 rd_3) 18 (upd (upd (upd (upd (q 18) 2 (nI j)) 4 0) 5 (nI X_2)) 6 (nI j)))) (by rfl) ?_
    refine g_iconst hE dX5_row_23 0 (by decide) ?_
    refine g_istore_n hE dX5_row_24 [(2, .int 0), (1, .int 0), (0, .ref (a 0))] rfl (by decide) rfl ?_
    have L25 : ∀ (n_25 : Nat) (k : Nat) (z4 : Nat → Int32), (k ≤ j) → (∀ i, i < k → z4 i = rd_3 i) → (j - k < n_25) → Go E Q 3 0 0 25 [(0, .ref (a 0)), (2, .int (nI k))] [] (modelW cI a (pA (pA (pA q 4 z4) 6 rd_3) 18 (upd (upd (upd (upd (q 18) 2 (nI j)) 4 0) 5 (nI X_2)) 6 (nI j)))) := by
      intro n_25
      induction n_25 with
      | zero => intro k z4 hk hz hm_25; exact absurd hm_25 (Nat.not_lt_zero _)
      | succ n_25 ih_25 =>
        intro k z4 hk hz hm_25
        refine g_iload_n hE dX5_row_25 1 rfl ?_
        refine g_aload_n hE dX5_row_26 0 rfl ?_
        refine g_get hE fl_X5_145 dX5_row_27 0 rfl rfl ?_
        refine g_icmp_ge hE 51 dX5_row_30 (by decide) (fun c9 => ?_) (fun c9 => ?_)
        · have kc9 := nat_le_t (show (nI j) = nI j from rfl) (show (nI k) = nI k from rfl) (by omega) (by omega) c9
          refine g_aload_n hE dX5_row_51 0 rfl ?_
          refine g_get hE fl_X5_102 dX5_row_52 0 rfl rfl ?_
          exact g_iret hE hQ dX5_row_55 rfl ((nI j), (pA (pA (pA q 4 z4) 6 rd_3) 18 (upd (upd (upd (upd (q 18) 2 (nI j)) 4 0) 5 (nI X_2)) 6 (nI j)))) rfl rfl ⟨(by rw [(show fgRow m v (q 5) L = _ from if_pos hFL)]; exact h9.symm), ⟨_, _, _, (by rw [(show fgRow m v (q 5) L = _ from if_pos hFL)]; exact RQ_row hRQ hj8 h9 hrd hD (fun s hs => hz s (by omega)) rfl rfl rfl rfl rfl rfl rfl rfl)⟩, ⟨rfl, rfl, rfl, rfl, rfl, rfl, rfl⟩⟩
        · have kc9 := nat_le_f (show (nI j) = nI j from rfl) (show (nI k) = nI k from rfl) (by omega) (by omega) c9
          refine g_aload_n hE dX5_row_33 0 rfl ?_
          refine g_get hE fl_X5_22 dX5_row_34 0 rfl rfl ?_
          refine g_iload_n hE dX5_row_37 1 rfl ?_
          refine g_aload_n hE dX5_row_38 0 rfl ?_
          refine g_get hE fl_X5_28 dX5_row_39 0 rfl rfl ?_
          refine g_iload_n hE dX5_row_42 1 rfl ?_
          refine g_iald_n hE dX5_row_43 7 rfl (show (nI k) = nI k from rfl) (by omega) ?_
          refine g_iast_n hE dX5_row_44 5 rfl (show (nI k) = nI k from rfl) (by omega) (modelW cI a (pA (pA (pA q 4 (upd z4 k (rd_3 k))) 6 rd_3) 18 (upd (upd (upd (upd (q 18) 2 (nI j)) 4 0) 5 (nI X_2)) 6 (nI j)))) rfl ?_
          refine g_iinc hE dX5_row_45 1 (nI (k + 1)) [(2, .int (nI (k + 1))), (0, .ref (a 0))] rfl (nI_1 _) (by decide) rfl ?_
          refine g_goto hE 25 dX5_row_48 (by decide) ?_
          refine g_locals [1, 0] [(0, .ref (a 0)), (2, .int (nI (k + 1)))] rfl ?_
          exact ih_25 (k + 1) (upd z4 k (rd_3 k)) (by first | assumption | omega) (z1_s hz) (by omega)
    refine g_locals [2, 0] [(0, .ref (a 0)), (2, .int 0)] rfl ?_
    exact L25 _ 0 (q 4) (Nat.zero_le _) (fun s hs => absurd hs (Nat.not_lt_zero _)) (Nat.lt_succ_self _)
  · subst hr0
    show Go E Q 3 0 0 5 [(0, .ref (a 0))] [.int 0, .ref (a 0)] (modelW cI a (pA (pA q 6 rd_3) 18 (upd (upd (q 18) 5 (nI X_2)) 6 rs_4)))
    refine g_callV hE (c_X5_end0 cI cS a (pA (pA q 6 rd_3) 18 (upd (upd (q 18) 5 (nI X_2)) 6 rs_4)) htp hL rfl hXl) mk_X5_end mv_X5_end ml_X5_152 dX5_row_5 (As := [.int 0]) (rest := []) rfl rfl 0 rfl (show vwCl[5]? = some (RX5, TX5, 32) from rfl) (by decide) (by decide) (Nat.le_of_ble_eq_true rfl) (by decide) (by decide) [0, 1, 2, 3, 4, 5, 6, 7, 8, 9, 10, 11, 12, 13, 14, 15, 16, 17, 18] rfl (by decide) (fun u => Nat.le_of_ble_eq_true rfl) (ws' := fun u => modelW cI a (pA (pA q 6 rd_3) 18 (upd (upd (upd (q 18) 4 0) 5 (nI (sk (q 5) L X_2))) 6 rs_4))) (fun u => rfl) (fun u hu => ?_)
    obtain ⟨r_10, rfl⟩ : ∃ z, z = u := ⟨_, rfl⟩
    have h11 : r_10 = (-20 - (nI (sk (q 5) L X_2))) := hu
    subst h11
    show Go E Q 3 0 0 8 [(0, .ref (a 0))] [.int (-20 - (nI (sk (q 5) L X_2)))] (modelW cI a (pA (pA q 6 rd_3) 18 (upd (upd (upd (q 18) 4 0) 5 (nI (sk (q 5) L X_2))) 6 rs_4)))
    refine g_istore_n hE dX5_row_8 [(1, .int (-20 - (nI (sk (q 5) L X_2)))), (0, .ref (a 0))] rfl (by decide) rfl ?_
    refine g_iload_n hE dX5_row_9 0 rfl ?_
    refine g_if_ge hE 15 dX5_row_10 (by decide) (fun c12 => ?_) (fun c12 => ?_)
    · exfalso
      exact absurd c12 (neg20 _ (by have := sk_le (B := q 5) hXl; omega))
    · refine g_iload_n hE dX5_row_13 0 rfl ?_
      exact g_iret hE hQ dX5_row_14 rfl ((-20 - (nI (sk (q 5) L X_2))), (pA (pA q 6 rd_3) 18 (upd (upd (upd (q 18) 4 0) 5 (nI (sk (q 5) L X_2))) 6 rs_4))) rfl rfl ⟨(by rw [(show fgRow m v (q 5) L = _ from if_neg hFL), ← hXF]), ⟨n, sv, pl, (by rw [(show fgRow m v (q 5) L = _ from if_neg hFL)]; exact TF_RQ ⟨rfl, rfl, rfl, rfl, rfl, rfl, rfl, rfl, rfl⟩ hRQ)⟩, ⟨rfl, rfl, rfl, rfl, rfl, rfl, rfl⟩⟩
set_option maxHeartbeats 4000000 in
set_option maxRecDepth 100000 in
theorem c_X5_type (cI cS : ClassId) (a : Nat → Nat) (q : Nat → Nat → Int32) {L : Nat} (htp : q 18 4 = nI L) (hL : L ≤ 120) (x : Int64) (y : Int32) : CT cI cS yX5_type cX5_type 5 (some .int) 1 [.ref (a 0), .long x, .int y] (modelW cI a q) 0 0 (fun u : Int32 × (Nat → Int32) × Nat => (u.1, u.2.1, u.2.2) = fgType (q 5) L x y ∧ u.2.2 ≤ 120) (fun u => some (.int u.1)) (fun u => (modelW cI a (pA (pA q 5 u.2.1) 18 (upd (q 18) 4 (nI u.2.2))))) := by
  refine ct_intro (by decide) (Nat.le_of_ble_eq_true rfl) (fun E Q hE hQ hI => ?_)
  have hE : CxOk E cI cS RX5 cX5_type 5 (some .int) 1 0 0 := hE
  show Go E Q 5 0 0 0 [(0, .ref (a 0)), (1, .long x), (3, .int y)] [] (modelW cI a q)
  refine g_world (modelW cI a (pA q 18 (upd (q 18) 4 (nI L)))) (congrArg (modelW cI a) (pl_w htp)) ?_
  refine g_world (modelW cI a (pA (pA q 5 (q 5)) 18 (upd (q 18) 4 (nI L)))) (by rfl) ?_
  refine g_iload_n hE dX5_type_0 2 rfl ?_
  refine g_i2l hE dX5_type_1 ?_
  refine g_lconst hE dX5_type_2 1 (by decide) ?_
  refine g_ldc2 hE dX5_type_3 cl_X5_108 ?_
  refine g_callS hE (c_X5_in cI cS (Int32.toInt64 y) 1 8) mk_X5_in st_X5_in ml_X5_68 dX5_type_6 (As := [.long (Int32.toInt64 y), .long 1, .long 8]) (rest := []) rfl rfl (by decide) (by decide) (Nat.le_of_ble_eq_true rfl) (by decide) (by decide) [] rfl (by decide) (fun u => Nat.le_of_ble_eq_true rfl) (ws' := fun u => modelW cI a (pA (pA q 5 (q 5)) 18 (upd (q 18) 4 (nI L)))) (fun u => rfl) (fun u hu => ?_)
  obtain ⟨r_1, rfl⟩ : ∃ z, z = u := ⟨_, rfl⟩
  have h2 : r_1 = if 1 ≤ y ∧ y ≤ 8 then 1 else 0 := (in_i (x := y) (lo := 1) (hi := 8) rfl rfl hu)
  by_cases c3 : 1 ≤ y ∧ y ≤ 8
  · rw [if_pos c3] at h2
    subst h2
    show Go E Q 5 0 0 9 [(0, .ref (a 0)), (1, .long x), (3, .int y)] [.int 1] (modelW cI a (pA (pA q 5 (q 5)) 18 (upd (q 18) 4 (nI L))))
    refine g_if_ne hE 14 dX5_type_9 (by decide) (fun c4 => ?_) (fun c4 => absurd c4 (by decide))
    obtain ⟨nn, hnn1, hnn8, hnn, hnnc⟩ := nat_of_1 c3
    refine g_iload_n hE dX5_type_14 2 rfl ?_
    refine g_iconst hE dX5_type_15 1 (by decide) ?_
    refine g_isub hE dX5_type_16 ?_
    refine g_istore hE dX5_type_17 [(4, .int (y - 1)), (0, .ref (a 0)), (1, .long x), (3, .int y)] (by decide) rfl ?_
    have L19 : ∀ (n_19 : Nat) (j : Nat) (z : Int32), (j ≤ nn) → (z = nI (nn - j) - 1) → (∀ i, nn - j ≤ i → i < nn → 32 ≤ byI x (nI i) ∧ byI x (nI i) ≤ 126) → (nn - j + 1 < n_19) → Go E Q 5 0 0 19 [(0, .ref (a 0)), (1, .long x), (3, .int y), (4, .int z)] [] (modelW cI a (pA (pA q 5 (q 5)) 18 (upd (q 18) 4 (nI L)))) := by
      intro n_19
      induction n_19 with
      | zero => intro j z hj hz hok hm_19; exact absurd hm_19 (Nat.not_lt_zero _)
      | succ n_19 ih_19 =>
        intro j z hj hz hok hm_19
        refine g_iload hE dX5_type_19 3 rfl ?_
        refine g_if_lt hE 55 dX5_type_21 (by decide) (fun c5 => ?_) (fun c5 => ?_)
        · have hall : tyO x nn = true := ty5_all (by rw [show nn - j = 0 from by have := ty_neg hz (by omega) (show z < 0 from c5); omega] at hok; exact fun i hi => hok i (Nat.zero_le _) hi)
          refine g_aload_n hE dX5_type_55 0 rfl ?_
          refine g_get hE fl_X5_116 dX5_type_56 0 rfl rfl ?_
          refine g_iload_n hE dX5_type_59 2 rfl ?_
          refine g_iadd_n hE dX5_type_60 (show (nI L) = nI L from rfl) (show y = nI nn from hnn) ?_
          refine g_bipush hE dX5_type_61 120 (by decide) ?_
          refine g_icmp_le hE 69 dX5_type_63 (by decide) (fun c6 => ?_) (fun c6 => ?_)
          · have kc6 := nat_le_t (show (nI (L + nn)) = nI (L + nn) from rfl) (show 120 = nI 120 from rfl) (by omega) (by omega) c6
            refine g_iload_n hE dX5_type_69 2 rfl ?_
            refine g_iconst hE dX5_type_70 1 (by decide) ?_
            refine g_isub hE dX5_type_71 ?_
            refine g_istore hE dX5_type_72 [(4, .int (y - 1)), (0, .ref (a 0)), (1, .long x), (3, .int y)] (by decide) rfl ?_
            have L74 : ∀ (n_74 : Nat) (j : Nat) (z : Int32), (j ≤ nn) → (z = nI (nn - j) - 1) → (nn - j + 1 < n_74) → Go E Q 5 0 0 74 [(0, .ref (a 0)), (1, .long x), (3, .int y), (4, .int z)] [] (modelW cI a (pA (pA q 5 (tyA (q 5) L x nn j)) 18 (upd (q 18) 4 (nI (L + j))))) := by
              intro n_74
              induction n_74 with
              | zero => intro j z hj2 hz hm_74; exact absurd hm_74 (Nat.not_lt_zero _)
              | succ n_74 ih_74 =>
                intro j z hj2 hz hm_74
                refine g_iload hE dX5_type_74 3 rfl ?_
                refine g_if_lt hE 116 dX5_type_76 (by decide) (fun c7 => ?_) (fun c7 => ?_)
                · refine g_aload_n hE dX5_type_116 0 rfl ?_
                  refine g_get hE fl_X5_116 dX5_type_117 0 rfl rfl ?_
                  exact g_iret hE hQ dX5_type_120 rfl ((nI (L + j)), tyA (q 5) L x nn j, (L + j)) rfl rfl ⟨by rw [fgType, if_pos c3, if_pos (by rw [← hnnc]; exact hall), if_pos (by omega), ← hnnc, show nn = j from (ty_neg hz (by omega) (show z < 0 from c7))], (show L + j ≤ 120 by omega)⟩
                · have hr := ty_pos hz (by omega) (show ¬ z < 0 from c7)
                  refine g_aload_n hE dX5_type_79 0 rfl ?_
                  refine g_get hE fl_X5_25 dX5_type_80 0 rfl rfl ?_
                  refine g_aload_n hE dX5_type_83 0 rfl ?_
                  refine g_get hE fl_X5_116 dX5_type_84 0 rfl rfl ?_
                  refine g_lload_n hE dX5_type_87 1 rfl ?_
                  refine g_bipush hE dX5_type_88 8 (by decide) ?_
                  refine g_iload hE dX5_type_90 3 rfl ?_
                  refine g_imul hE dX5_type_92 ?_
                  refine g_lshr hE dX5_type_93 ?_
                  refine g_ldc2 hE dX5_type_94 cl_X5_110 ?_
                  refine g_land hE dX5_type_97 ?_
                  refine g_l2i hE dX5_type_98 ?_
                  refine g_iast_n hE dX5_type_99 6 rfl (show (nI (L + j)) = nI (L + j) from rfl) (by omega) (modelW cI a (pA (pA q 5 (upd (tyA (q 5) L x nn j) (L + j) (Int64.toInt32 ((x >>> (Int32.toInt64 (8 * z) &&& 63)) &&& 255)))) 18 (upd (q 18) 4 (nI (L + j))))) rfl ?_
                  refine g_aload_n hE dX5_type_100 0 rfl ?_
                  refine g_dup hE dX5_type_101 rfl ?_
                  refine g_get hE fl_X5_116 dX5_type_102 0 rfl rfl ?_
                  refine g_iconst hE dX5_type_105 1 (by decide) ?_
                  refine g_iadd_n hE dX5_type_106 (show (nI (L + j)) = nI (L + j) from rfl) (show 1 = nI 1 from rfl) ?_
                  refine g_put hE fl_X5_116 fp_5_10 dX5_type_107 0 rfl rfl rfl (Nat.le_of_ble_eq_true rfl) (modelW cI a (pA (pA q 5 (upd (tyA (q 5) L x nn j) (L + j) (Int64.toInt32 ((x >>> (Int32.toInt64 (8 * z) &&& 63)) &&& 255)))) 18 (upd (q 18) 4 (nI ((L + j) + 1))))) (by rfl) ?_
                  refine g_world (modelW cI a (pA (pA q 5 (tyA (q 5) L x nn (j + 1))) 18 (upd (q 18) 4 (nI (L + (j + 1)))))) (by rw [ty5_s hz hr]; rfl) ?_
                  refine g_iinc hE dX5_type_110 3 (z + (-1)) [(4, .int (z + (-1))), (0, .ref (a 0)), (1, .long x), (3, .int y)] rfl rfl (by decide) rfl ?_
                  refine g_goto hE 74 dX5_type_113 (by decide) ?_
                  refine g_locals [1, 2, 3, 0] [(0, .ref (a 0)), (1, .long x), (3, .int y), (4, .int (z + (-1)))] rfl ?_
                  exact ih_74 (j + 1) (z + (-1)) (by omega) (ty_dec hz (by omega)) (by omega)
            refine g_locals [1, 2, 3, 0] [(0, .ref (a 0)), (1, .long x), (3, .int y), (4, .int (y - 1))] rfl ?_
            exact L74 _ 0 (y - 1) (Nat.zero_le _) (by rw [hnn]; rfl) (Nat.lt_succ_self _)
          · have kc6 := nat_le_f (show (nI (L + nn)) = nI (L + nn) from rfl) (show 120 = nI 120 from rfl) (by omega) (by omega) c6
            refine g_bipush hE dX5_type_66 (-3) (by decide) ?_
            exact g_iret hE hQ dX5_type_68 rfl (-3, q 5, L) rfl rfl ⟨by rw [fgType, if_pos c3, if_pos (by rw [← hnnc]; exact hall), if_neg (by omega)], hL⟩
        · have hr := ty_pos hz (by omega) (show ¬ z < 0 from c5)
          refine g_lload_n hE dX5_type_24 1 rfl ?_
          refine g_bipush hE dX5_type_25 8 (by decide) ?_
          refine g_iload hE dX5_type_27 3 rfl ?_
          refine g_imul hE dX5_type_29 ?_
          refine g_lshr hE dX5_type_30 ?_
          refine g_ldc2 hE dX5_type_31 cl_X5_110 ?_
          refine g_land hE dX5_type_34 ?_
          refine g_ldc2 hE dX5_type_35 cl_X5_112 ?_
          refine g_ldc2 hE dX5_type_38 cl_X5_114 ?_
          refine g_callS hE (c_X5_in cI cS ((x >>> (Int32.toInt64 (8 * z) &&& 63)) &&& 255) 32 126) mk_X5_in st_X5_in ml_X5_68 dX5_type_41 (As := [.long ((x >>> (Int32.toInt64 (8 * z) &&& 63)) &&& 255), .long 32, .long 126]) (rest := []) rfl rfl (by decide) (by decide) (Nat.le_of_ble_eq_true rfl) (by decide) (by decide) [] rfl (by decide) (fun u => Nat.le_of_ble_eq_true rfl) (ws' := fun u => modelW cI a (pA (pA q 5 (q 5)) 18 (upd (q 18) 4 (nI L)))) (fun u => rfl) (fun u hu => ?_)
          obtain ⟨r_8, rfl⟩ : ∃ z, z = u := ⟨_, rfl⟩
          have h9 : r_8 = if 32 ≤ ((x >>> (Int32.toInt64 (8 * z) &&& 63)) &&& 255) ∧ ((x >>> (Int32.toInt64 (8 * z) &&& 63)) &&& 255) ≤ 126 then 1 else 0 := hu
          by_cases c10 : 32 ≤ ((x >>> (Int32.toInt64 (8 * z) &&& 63)) &&& 255) ∧ ((x >>> (Int32.toInt64 (8 * z) &&& 63)) &&& 255) ≤ 126
          · rw [if_pos c10] at h9
            subst h9
            show Go E Q 5 0 0 44 [(0, .ref (a 0)), (1, .long x), (3, .int y), (4, .int z)] [.int 1] (modelW cI a (pA (pA q 5 (q 5)) 18 (upd (q 18) 4 (nI L))))
            refine g_if_ne hE 49 dX5_type_44 (by decide) (fun c11 => ?_) (fun c11 => absurd c11 (by decide))
            refine g_iinc hE dX5_type_49 3 (z + (-1)) [(4, .int (z + (-1))), (0, .ref (a 0)), (1, .long x), (3, .int y)] rfl rfl (by decide) rfl ?_
            refine g_goto hE 19 dX5_type_52 (by decide) ?_
            refine g_locals [1, 2, 3, 0] [(0, .ref (a 0)), (1, .long x), (3, .int y), (4, .int (z + (-1)))] rfl ?_
            exact ih_19 (j + 1) (z + (-1)) (by omega) (ty_dec hz (by omega)) (ty5_ok hz hr hok c10) (by omega)
          · rw [if_neg c10] at h9
            subst h9
            show Go E Q 5 0 0 44 [(0, .ref (a 0)), (1, .long x), (3, .int y), (4, .int z)] [.int 0] (modelW cI a (pA (pA q 5 (q 5)) 18 (upd (q 18) 4 (nI L))))
            refine g_if_ne hE 49 dX5_type_44 (by decide) (fun c12 => absurd (by decide) c12) (fun c12 => ?_)
            refine g_iconst hE dX5_type_47 (-1) (by decide) ?_
            exact g_iret hE hQ dX5_type_48 rfl (-1, q 5, L) rfl rfl ⟨by rw [fgType, if_pos c3, if_neg (by rw [← hnnc]; exact ty5_no hz hr c10)], hL⟩
    refine g_locals [1, 2, 3, 0] [(0, .ref (a 0)), (1, .long x), (3, .int y), (4, .int (y - 1))] rfl ?_
    exact L19 _ 0 (y - 1) (Nat.zero_le _) (by rw [hnn]; rfl) (fun i h1 h2 => absurd h2 (by omega)) (Nat.lt_succ_self _)
  · rw [if_neg c3] at h2
    subst h2
    show Go E Q 5 0 0 9 [(0, .ref (a 0)), (1, .long x), (3, .int y)] [.int 0] (modelW cI a (pA (pA q 5 (q 5)) 18 (upd (q 18) 4 (nI L))))
    refine g_if_ne hE 14 dX5_type_9 (by decide) (fun c13 => absurd (by decide) c13) (fun c13 => ?_)
    refine g_iconst hE dX5_type_12 (-1) (by decide) ?_
    exact g_iret hE hQ dX5_type_13 rfl (-1, q 5, L) rfl rfl ⟨by rw [fgType, if_neg c3], hL⟩
