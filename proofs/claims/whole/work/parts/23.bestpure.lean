/-! what the search finds: the best row of all -/
def LX : List Nat → List Nat → Prop
  | _, [] => False
  | [], _ :: _ => True
  | a :: as, b :: bs => a < b ∨ (a = b ∧ LX as bs)
theorem LX_nil : ∀ (a : List Nat), LX a [] → False
  | [], h => h
  | _ :: _, h => h
theorem LX_asymm : ∀ (a b : List Nat), LX a b → LX b a → False
  | _, [], h, _ => LX_nil _ h
  | [], _ :: _, _, h => LX_nil _ h
  | a :: as, b :: bs, h1, h2 => by
    rcases h1 with h1 | ⟨e1, h1⟩
    · rcases h2 with h2 | ⟨e2, h2⟩
      · omega
      · omega
    · rcases h2 with h2 | ⟨e2, h2⟩
      · omega
      · exact LX_asymm as bs h1 h2
theorem LX_app : ∀ (a b c : List Nat), LX a b → LX a (b ++ c)
  | _, [], _, h => (LX_nil _ h).elim
  | [], _ :: _, _, _ => trivial
  | a :: as, b :: bs, c, h => by
    rcases h with h | ⟨e, h⟩
    · exact Or.inl h
    · exact Or.inr ⟨e, LX_app as bs c h⟩
theorem LX_ext : ∀ (a : List Nat) (s : Nat) (t : List Nat), LX a (a ++ s :: t)
  | [], _, _ => trivial
  | a :: as, s, t => Or.inr ⟨rfl, LX_ext as s t⟩
theorem LX_br : ∀ (a : List Nat) (s s' : Nat) (t t' : List Nat), s < s' → LX (a ++ s :: t) (a ++ s' :: t')
  | [], _, _, _, _, h => Or.inl h
  | a :: as, s, s', t, t', h => Or.inr ⟨rfl, LX_br as s s' t t' h⟩
theorem LX_trans : ∀ (a b c : List Nat), LX a b → LX b c → LX a c
  | _, [], _, h, _ => (LX_nil _ h).elim
  | _, _ :: _, [], _, h => (LX_nil _ h).elim
  | [], _ :: _, _ :: _, _, _ => trivial
  | a :: as, b :: bs, c :: cs, h1, h2 => by
    rcases h1 with h1 | ⟨e1, h1⟩ <;> rcases h2 with h2 | ⟨e2, h2⟩
    · exact Or.inl (by omega)
    · exact Or.inl (by omega)
    · exact Or.inl (by omega)
    · exact Or.inr ⟨by omega, LX_trans as bs cs h1 h2⟩
/-- a row's worth, from what comes to it -/
def vR (m : MS) (n : Nat) : Nat → List Nat → Int32
  | c, [] => wS m n c
  | c, s :: r => wS m n (nd c (fallS m n (nI s) c)) + vR m n (fallS m n (nI s) c) r
def VR (m : MS) (n : Nat) (r : List Nat) : Int32 := vR m n (ldS m n) r
def cR (m : MS) (n : Nat) : Nat → List Nat → Nat
  | c, [] => c
  | c, s :: r => cR m n (fallS m n (nI s) c) r
def xR (m : MS) (n : Nat) : Nat → List Nat → Int32
  | _, [] => 0
  | c, s :: r => wS m n (nd c (fallS m n (nI s) c)) + xR m n (fallS m n (nI s) c) r
theorem vR_eq (m : MS) (n : Nat) : ∀ (r : List Nat) (c : Nat), vR m n c r = xR m n c r + wS m n (cR m n c r)
  | [], c => by simp [vR, xR, cR]
  | s :: r, c => by rw [vR, xR, cR, vR_eq m n r, Int32.add_assoc]
theorem cR_snoc (m : MS) (n s : Nat) : ∀ (r : List Nat) (c : Nat), cR m n c (r ++ [s]) = fallS m n (nI s) (cR m n c r)
  | [], c => rfl
  | a :: r, c => cR_snoc m n s r _
theorem xR_snoc (m : MS) (n s : Nat) : ∀ (r : List Nat) (c : Nat), xR m n c (r ++ [s]) = xR m n c r + wS m n (nd (cR m n c r) (fallS m n (nI s) (cR m n c r)))
  | [], c => by simp [xR, cR]
  | a :: r, c => by
    show wS m n _ + xR m n _ (r ++ [s]) = _
    rw [xR_snoc m n s r, xR, cR, Int32.add_assoc]
/-- a row that is better than another: worth more, of like ones shorter, then the first as a row -/
def Bet (m : MS) (n : Nat) (a b : List Nat) : Prop := (VR m n b).toInt < (VR m n a).toInt ∨ ((VR m n a).toInt = (VR m n b).toInt ∧ (a.length < b.length ∨ (a.length = b.length ∧ LX a b)))
theorem Bet_trans {m : MS} {n : Nat} {a b c : List Nat} (h1 : Bet m n a b) (h2 : Bet m n b c) : Bet m n a c := by
  rcases h1 with h1 | ⟨e1, h1⟩ <;> rcases h2 with h2 | ⟨e2, h2⟩
  · exact Or.inl (by omega)
  · exact Or.inl (by omega)
  · exact Or.inl (by omega)
  · refine Or.inr ⟨by omega, ?_⟩
    rcases h1 with h1 | ⟨f1, h1⟩ <;> rcases h2 with h2 | ⟨f2, h2⟩
    · exact Or.inl (by omega)
    · exact Or.inl (by omega)
    · exact Or.inl (by omega)
    · exact Or.inr ⟨by omega, LX_trans a b c h1 h2⟩
theorem Bet_asymm {m : MS} {n : Nat} {a b : List Nat} (h1 : Bet m n a b) (h2 : Bet m n b a) : False := by
  rcases h1 with h1 | ⟨e1, h1⟩ <;> rcases h2 with h2 | ⟨e2, h2⟩
  · omega
  · omega
  · omega
  · rcases h1 with h1 | ⟨f1, h1⟩ <;> rcases h2 with h2 | ⟨f2, h2⟩
    · omega
    · omega
    · omega
    · exact LX_asymm a b h1 h2
/-- what a search holds: the best row of those that it has seen -/
def Inv (m : MS) (n : Nat) (C : Nat → Int32) (va le : Int32) (D : List Nat → Prop) : Prop := ∃ b, D b ∧ va = VR m n b ∧ le = nI b.length ∧ b.length ≤ 4 ∧ (∀ j, j < b.length → C j = nI (b.getD j 0)) ∧ ∀ r, D r → r = b ∨ Bet m n b r
theorem Inv.congr {m : MS} {n : Nat} {C : Nat → Int32} {va le : Int32} {D D' : List Nat → Prop} (h : Inv m n C va le D) (e : ∀ r, D r ↔ D' r) : Inv m n C va le D' := by
  obtain ⟨b, h1, h2, h3, h4, h5, h6⟩ := h
  exact ⟨b, (e b).mp h1, h2, h3, h4, h5, fun r hr => h6 r ((e r).mpr hr)⟩
theorem tb_choose {m : MS} {n : Nat} {T C : Nat → Int32} {va le : Int32} {D : List Nat → Prop} {r : List Nat} (h0 : (le < 0 ∧ ∀ d, ¬ D d) ∨ Inv m n C va le D) (hT : ∀ j, j < r.length → T j = nI (r.getD j 0)) (hr : r.length ≤ 4) (hD : ∀ d, D d → LX d r) :
    Inv m n (tbC T C va le r.length (VR m n r)).1 (tbC T C va le r.length (VR m n r)).2.1 (tbC T C va le r.length (VR m n r)).2.2 (fun d => D d ∨ d = r) := by
  by_cases hc : le < 0 ∨ va < VR m n r ∨ (VR m n r = va ∧ nI r.length < le)
  · rw [tbC, if_pos hc]
    refine ⟨r, Or.inr rfl, rfl, rfl, hr, hT, fun d hd => ?_⟩
    rcases hd with hd | hd
    · right
      rcases h0 with ⟨-, h0⟩ | ⟨b, b1, b2, b3, b4, b5, b6⟩
      · exact absurd hd (h0 d)
      · have hb : Bet m n r b := by
          rcases hc with hc | hc | ⟨hc1, hc2⟩
          · rw [b3] at hc; exact absurd hc (nI_pos (by omega))
          · left; rw [b2, Int32.lt_iff_toInt_lt] at hc; exact hc
          · right
            rw [b2] at hc1
            rw [b3, nI_ltI (by omega) (by omega)] at hc2
            exact ⟨by rw [hc1], Or.inl hc2⟩
        rcases b6 d hd with e | e
        · rw [e]; exact hb
        · exact Bet_trans hb e
    · exact Or.inl hd
  · rw [tbC, if_neg hc]
    rcases h0 with ⟨h0, -⟩ | ⟨b, b1, b2, b3, b4, b5, b6⟩
    · exact absurd (Or.inl h0) hc
    · refine ⟨b, Or.inl b1, b2, b3, b4, b5, fun d hd => ?_⟩
      rcases hd with hd | hd
      · exact b6 d hd
      · right
        rw [hd]
        have h1 : ¬ (VR m n b).toInt < (VR m n r).toInt := fun q => hc (Or.inr (Or.inl (by rw [b2, Int32.lt_iff_toInt_lt]; exact q)))
        by_cases h2 : (VR m n r).toInt < (VR m n b).toInt
        · exact Or.inl h2
        · have h3 : (VR m n b).toInt = (VR m n r).toInt := by omega
          have h4 : ¬ r.length < b.length := fun q => hc (Or.inr (Or.inr ⟨by rw [b2]; exact Int32.toInt_inj.mp h3.symm, by rw [b3, nI_ltI (by omega) (by omega)]; exact q⟩))
          refine Or.inr ⟨h3, ?_⟩
          by_cases h5 : b.length < r.length
          · exact Or.inl h5
          · exact Or.inr ⟨by omega, hD b b1⟩
/-- rows in which on each sieve something stays -/
def PrR (m : MS) (n sv : Nat) : Nat → List Nat → Prop
  | _, [] => True
  | c, s :: r => s < sv ∧ fallS m n (nI s) c ≠ c ∧ PrR m n sv (fallS m n (nI s) c) r
theorem getD_snoc (r : List Nat) (s j : Nat) : (r ++ [s]).getD j 0 = if j < r.length then r.getD j 0 else if j = r.length then s else 0 := by
  simp only [List.getD_eq_getElem?_getD]
  by_cases h : j < r.length
  · rw [if_pos h, List.getElem?_append_left h]
  · rw [if_neg h, List.getElem?_append_right (by omega)]
    by_cases e : j = r.length
    · rw [if_pos e, e, Nat.sub_self]; rfl
    · rw [if_neg e, List.getElem?_eq_none (by simp; omega)]; rfl
theorem tb_node {m : MS} {n sv L : Nat} (hL : L ≤ 4) : ∀ (f : Nat) (r : List Nat) (T C : Nat → Int32) (va le : Int32) (D : List Nat → Prop), r.length + f = 5 → r.length ≤ L → (∀ j, j < r.length → T j = nI (r.getD j 0)) →
    ((le < 0 ∧ ∀ d, ¬ D d) ∨ Inv m n C va le D) → (∀ d, D d → LX d r) →
    (∀ j, j < r.length → (tbS m n sv (nI L) f r.length (cR m n (ldS m n) r) (xR m n (ldS m n) r) (T, C, va, le)).1 j = T j) ∧
    Inv m n (tbS m n sv (nI L) f r.length (cR m n (ldS m n) r) (xR m n (ldS m n) r) (T, C, va, le)).2.1 (tbS m n sv (nI L) f r.length (cR m n (ldS m n) r) (xR m n (ldS m n) r) (T, C, va, le)).2.2.1 (tbS m n sv (nI L) f r.length (cR m n (ldS m n) r) (xR m n (ldS m n) r) (T, C, va, le)).2.2.2
      (fun d => D d ∨ ∃ t, d = r ++ t ∧ d.length ≤ L ∧ PrR m n sv (cR m n (ldS m n) r) t)
  | 0, r, T, C, va, le, D, h1, h2, _, _, _ => by omega
  | f + 1, r, T, C, va, le, D, h1, h2, hT, h0, hD => by
    have e0 : xR m n (ldS m n) r + wS m n (cR m n (ldS m n) r) = VR m n r := (vR_eq m n r _).symm
    have hch := tb_choose h0 hT (show r.length ≤ 4 by omega) hD
    generalize hst1 : tbC T C va le r.length (VR m n r) = st1 at hch
    rw [tbS]
    simp only [e0, hst1]
    by_cases hlim : nI r.length < nI L ∧ r.length < 4
    · rw [if_pos hlim]
      have hlt : r.length < L := by
        have := hlim.1
        rwa [nI_ltI (by omega) (by omega)] at this
      -- the loop over the sieves
      have key : ∀ s, s ≤ sv → ∃ T3 C3 va3 le3, fo (tbG m n (tbS m n sv (nI L) f) r.length (cR m n (ldS m n) r) (xR m n (ldS m n) r)) s (T, st1) = (T3, C3, va3, le3) ∧ (∀ j, j < r.length → T3 j = T j) ∧
          Inv m n C3 va3 le3 (fun d => (D d ∨ d = r) ∨ ∃ s' t, s' < s ∧ d = r ++ s' :: t ∧ d.length ≤ L ∧ PrR m n sv (cR m n (ldS m n) r) (s' :: t)) := by
        intro s
        induction s with
        | zero =>
          intro _
          exact ⟨T, st1.1, st1.2.1, st1.2.2, rfl, fun _ _ => rfl, hch.congr (fun d => ⟨Or.inl, fun q => q.elim id (fun ⟨s', t, z, _⟩ => absurd z (Nat.not_lt_zero _))⟩)⟩
        | succ s ih =>
          intro hs
          obtain ⟨T3, C3, va3, le3, e3, hT3, hI3⟩ := ih (by omega)
          rw [fo, e3]
          by_cases hf : fallS m n (nI s) (cR m n (ldS m n) r) = cR m n (ldS m n) r
          · rw [tbG, if_pos hf]
            refine ⟨T3, C3, va3, le3, rfl, hT3, hI3.congr (fun d => ⟨fun q => ?_, fun q => ?_⟩)⟩
            · rcases q with q | ⟨s', t, z, q⟩
              · exact Or.inl q
              · exact Or.inr ⟨s', t, by omega, q⟩
            · rcases q with q | ⟨s', t, z, q1, q2, q3⟩
              · exact Or.inl q
              · by_cases e : s' = s
                · subst e; exact absurd hf q3.2.1
                · exact Or.inr ⟨s', t, by omega, q1, q2, q3⟩
          · rw [tbG, if_neg hf]
            have hlen : (r ++ [s]).length = r.length + 1 := by simp
            obtain ⟨g1, g2⟩ := tb_node hL f (r ++ [s]) (upd T3 r.length (nI s)) C3 va3 le3 (fun d => (D d ∨ d = r) ∨ ∃ s' t, s' < s ∧ d = r ++ s' :: t ∧ d.length ≤ L ∧ PrR m n sv (cR m n (ldS m n) r) (s' :: t)) (by omega) (by omega)
              (fun j hj => by
                rw [getD_snoc]
                unfold upd
                by_cases e : j = r.length
                · rw [if_pos e, if_neg (by omega), if_pos e]
                · rw [if_neg e, if_pos (by omega), hT3 j (by omega), hT j (by omega)])
              (Or.inr hI3)
              (fun d hd => by
                rcases hd with (hd | hd) | ⟨s', t, z, hd, _⟩
                · exact LX_app _ _ _ (hD d hd)
                · rw [hd]; exact LX_ext r s []
                · rw [hd]; exact LX_br r s' s t [] z)
            rw [cR_snoc, xR_snoc, hlen] at g1 g2
            refine ⟨_, _, _, _, rfl, fun j hj => ?_, g2.congr (fun d => ⟨fun q => ?_, fun q => ?_⟩)⟩
            · rw [g1 j (by omega)]
              unfold upd
              rw [if_neg (by omega), hT3 j hj]
            · rcases q with (q | ⟨s', t, z, q⟩) | ⟨t, q1, q2, q3⟩
              · exact Or.inl q
              · exact Or.inr ⟨s', t, by omega, q⟩
              · exact Or.inr ⟨s, t, by omega, by rw [q1, List.append_assoc]; rfl, q2, ⟨by omega, hf, q3⟩⟩
            · rcases q with q | ⟨s', t, z, q1, q2, q3⟩
              · exact Or.inl (Or.inl q)
              · by_cases e : s' = s
                · subst e
                  exact Or.inr ⟨t, by rw [q1, List.append_assoc]; rfl, q2, q3.2.2⟩
                · exact Or.inl (Or.inr ⟨s', t, by omega, q1, q2, q3⟩)
      obtain ⟨T3, C3, va3, le3, e3, hT3, hI3⟩ := key sv (Nat.le_refl _)
      rw [e3]
      refine ⟨hT3, hI3.congr (fun d => ⟨fun q => ?_, fun q => ?_⟩)⟩
      · rcases q with (q | q) | ⟨s', t, z, q1, q2, q3⟩
        · exact Or.inl q
        · exact Or.inr ⟨[], by rw [q, List.append_nil], by rw [q]; exact h2, trivial⟩
        · exact Or.inr ⟨s' :: t, q1, q2, q3⟩
      · rcases q with q | ⟨t, q1, q2, q3⟩
        · exact Or.inl (Or.inl q)
        · cases t with
          | nil => exact Or.inl (Or.inr (by rw [q1, List.append_nil]))
          | cons s' t => exact Or.inr ⟨s', t, q3.1, q1, q2, q3⟩
    · rw [if_neg hlim]
      refine ⟨fun _ _ => rfl, hch.congr (fun d => ⟨fun q => ?_, fun q => ?_⟩)⟩
      · rcases q with q | q
        · exact Or.inl q
        · exact Or.inr ⟨[], by rw [q, List.append_nil], by rw [q]; exact h2, trivial⟩
      · rcases q with q | ⟨t, q1, q2, q3⟩
        · exact Or.inl q
        · cases t with
          | nil => exact Or.inr (by rw [q1, List.append_nil])
          | cons s' t =>
            exfalso
            apply hlim
            rw [q1] at q2
            simp at q2
            exact ⟨by rw [nI_ltI (by omega) (by omega)]; omega, by omega⟩
/-- a row with something on each sieve is as good as any -/
theorem fall_bit (m : MS) (n : Nat) (s : Int32) (c g : Nat) (h : (fallS m n s c).testBit g = true) : c.testBit g = true := by
  unfold fallS at h
  split at h
  · simp at h
  · rw [nd_bit, Bool.and_eq_true] at h; exact h.1
theorem pr_of (m : MS) (n sv : Nat) : ∀ (r : List Nat) (c : Nat), (∀ s ∈ r, s < sv) → ∃ t, PrR m n sv c t ∧ vR m n c t = vR m n c r ∧ t.length ≤ r.length ∧ (t = r ∨ t.length < r.length) ∧ ∀ s ∈ t, s ∈ r
  | [], c, _ => ⟨[], trivial, rfl, Nat.le_refl _, Or.inl rfl, fun _ h => h⟩
  | s :: r, c, hs => by
    obtain ⟨t, t1, t2, t3, t4, t5⟩ := pr_of m n sv r (fallS m n (nI s) c) (fun x hx => hs x (List.mem_cons_of_mem _ hx))
    by_cases hf : fallS m n (nI s) c = c
    · refine ⟨t, ?_, ?_, by simp; omega, Or.inr (by simp; omega), fun x hx => List.mem_cons_of_mem _ (t5 x hx)⟩
      · rw [hf] at t1; exact t1
      · rw [vR, ← t2, hf]
        have : nd c c = 0 := by unfold nd; rw [Nat.and_self, Nat.xor_self]
        rw [this]
        have h0 : wS m n 0 = 0 := by
          have : ∀ (f : Nat → Int32) k, aS f 0 k = 0 := by
            intro f k
            induction k with
            | zero => rfl
            | succ k ih => rw [aS, Nat.zero_testBit, ih]; rfl
          unfold wS
          rw [this]
          exact Int32.zero_mul
        rw [h0, Int32.zero_add]
    · refine ⟨s :: t, ⟨hs s List.mem_cons_self, hf, t1⟩, by rw [vR, vR, t2], by simp; omega, ?_, fun x hx => ?_⟩
      · rcases t4 with t4 | t4
        · exact Or.inl (by rw [t4])
        · exact Or.inr (by simp; omega)
      · rcases List.mem_cons.mp hx with rfl | hx
        · exact List.mem_cons_self
        · exact List.mem_cons_of_mem _ (t5 x hx)
/-- the best row: of at most L sieves of sv -/
def BestOf (m : MS) (n sv L : Nat) (b : List Nat) : Prop := b.length ≤ L ∧ (∀ s ∈ b, s < sv) ∧ PrR m n sv (ldS m n) b ∧ ∀ r, r.length ≤ L → (∀ s ∈ r, s < sv) → r = b ∨ Bet m n b r
theorem pr_lt {m : MS} {n sv : Nat} : ∀ {r : List Nat} {c : Nat}, PrR m n sv c r → ∀ s ∈ r, s < sv
  | [], _, _, s, h => absurd h List.not_mem_nil
  | a :: r, c, h, s, hs => by
    rcases List.mem_cons.mp hs with rfl | hs
    · exact h.1
    · exact pr_lt h.2.2 s hs
theorem best_of {m : MS} {n sv L : Nat} (hL : L ≤ 4) (T C : Nat → Int32) : ∃ b, BestOf m n sv L b ∧ (tbS m n sv (nI L) 5 0 (ldS m n) 0 (T, C, 0, -1)).2.2.1 = VR m n b ∧ (tbS m n sv (nI L) 5 0 (ldS m n) 0 (T, C, 0, -1)).2.2.2 = nI b.length ∧ ∀ j, j < b.length → (tbS m n sv (nI L) 5 0 (ldS m n) 0 (T, C, 0, -1)).2.1 j = nI (b.getD j 0) := by
  obtain ⟨-, b, b1, b2, b3, b4, b5, b6⟩ := tb_node (m := m) (n := n) (sv := sv) hL 5 [] T C 0 (-1) (fun _ => False) rfl (Nat.zero_le _) (fun j hj => absurd hj (Nat.not_lt_zero _)) (Or.inl ⟨by decide, fun _ h => h⟩) (fun _ h => h.elim)
  refine ⟨b, ?_, b2, b3, b5⟩
  rcases b1 with b1 | ⟨t, e, hl, hp⟩
  · exact b1.elim
  rw [List.nil_append] at e
  subst e
  refine ⟨hl, pr_lt hp, hp, fun r hr hs => ?_⟩
  obtain ⟨t, t1, t2, t3, t4, t5⟩ := pr_of m n sv r (ldS m n) hs
  have ht := b6 t (Or.inr ⟨t, rfl, by omega, t1⟩)
  rcases t4 with t4 | t4
  · rw [← t4]; exact ht
  · right
    have ev : VR m n t = VR m n r := t2
    rcases ht with ht | ht
    · rw [← ht]
      exact Or.inr ⟨by rw [ev], Or.inl t4⟩
    · rcases ht with ht | ⟨h1, h2⟩
      · left; rw [← ev]; exact ht
      · refine Or.inr ⟨by rw [h1, ev], Or.inl ?_⟩
        rcases h2 with h2 | ⟨h2, -⟩ <;> omega
theorem best_one {m : MS} {n sv L : Nat} {a b : List Nat} (ha : BestOf m n sv L a) (hb : BestOf m n sv L b) : a = b := by
  rcases ha.2.2.2 b hb.1 hb.2.1 with h | h
  · exact h.symm
  · rcases hb.2.2.2 a ha.1 ha.2.1 with h2 | h2
    · exact h2
    · exact (Bet_asymm h h2).elim
