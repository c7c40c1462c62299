/-! what the search for a parting row finds: the shortest, of like ones the first -/
def BtP (a b : List Nat) : Prop := a.length < b.length ∨ (a.length = b.length ∧ LX a b)
theorem BtP_trans {a b c : List Nat} (h1 : BtP a b) (h2 : BtP b c) : BtP a c := by
  rcases h1 with h1 | ⟨f1, h1⟩ <;> rcases h2 with h2 | ⟨f2, h2⟩
  · exact Or.inl (by omega)
  · exact Or.inl (by omega)
  · exact Or.inl (by omega)
  · exact Or.inr ⟨by omega, LX_trans a b c h1 h2⟩
theorem BtP_asymm {a b : List Nat} (h1 : BtP a b) (h2 : BtP b a) : False := by
  rcases h1 with h1 | ⟨f1, h1⟩ <;> rcases h2 with h2 | ⟨f2, h2⟩
  · omega
  · omega
  · omega
  · exact LX_asymm a b h1 h2
def InvP (C : Nat → Int32) (le : Int32) (D : List Nat → Prop) : Prop := (le < 0 ∧ ∀ d, ¬ D d) ∨ ∃ b, D b ∧ le = nI b.length ∧ b.length ≤ 4 ∧ (∀ j, j < b.length → C j = nI (b.getD j 0)) ∧ ∀ r, D r → r = b ∨ BtP b r
theorem InvP.congr {C : Nat → Int32} {le : Int32} {D D' : List Nat → Prop} (h : InvP C le D) (e : ∀ r, D r ↔ D' r) : InvP C le D' := by
  rcases h with ⟨h, h0⟩ | ⟨b, h1, h3, h4, h5, h6⟩
  · exact Or.inl ⟨h, fun d q => h0 d ((e d).mpr q)⟩
  · exact Or.inr ⟨b, (e b).mp h1, h3, h4, h5, fun r hr => h6 r ((e r).mpr hr)⟩
theorem tp_choose {T C : Nat → Int32} {va le : Int32} {aps c : Nat} {D : List Nat → Prop} {r : List Nat} (h0 : InvP C le D) (hT : ∀ j, j < r.length → T j = nI (r.getD j 0)) (hr : r.length ≤ 4) (hD : ∀ d, D d → LX d r) :
    InvP (tpC T C va le aps r.length c).1 (tpC T C va le aps r.length c).2.2 (fun d => D d ∨ (d = r ∧ ¬ 1 < bcS (c &&& aps))) := by
  by_cases hc : ¬ 1 < bcS (c &&& aps) ∧ (le < 0 ∨ nI r.length < le)
  · rw [tpC, if_pos hc]
    right
    refine ⟨r, Or.inr ⟨rfl, hc.1⟩, rfl, hr, hT, fun d hd => ?_⟩
    rcases hd with hd | hd
    · right
      rcases h0 with ⟨-, h0⟩ | ⟨b, b1, b3, b4, b5, b6⟩
      · exact absurd hd (h0 d)
      · have hb : BtP r b := by
          rcases hc.2 with hc | hc
          · rw [b3] at hc; exact absurd hc (nI_pos (by omega))
          · rw [b3, nI_ltI (by omega) (by omega)] at hc
            exact Or.inl hc
        rcases b6 d hd with e | e
        · rw [e]; exact hb
        · exact BtP_trans hb e
    · exact Or.inl hd.1
  · rw [tpC, if_neg hc]
    rcases h0 with ⟨h0, h1⟩ | ⟨b, b1, b3, b4, b5, b6⟩
    · refine Or.inl ⟨h0, fun d hd => ?_⟩
      rcases hd with hd | ⟨-, hd⟩
      · exact h1 d hd
      · exact hc ⟨hd, Or.inl h0⟩
    · refine Or.inr ⟨b, Or.inl b1, b3, b4, b5, fun d hd => ?_⟩
      rcases hd with hd | ⟨hd, hx⟩
      · exact b6 d hd
      · right
        rw [hd]
        have h4 : ¬ r.length < b.length := fun q => hc ⟨hx, Or.inr (by rw [b3, nI_ltI (by omega) (by omega)]; exact q)⟩
        by_cases h5 : b.length < r.length
        · exact Or.inl h5
        · exact Or.inr ⟨by omega, hD b b1⟩
/-- rows that part, with something on each sieve -/
def PrP (m : MS) (n sv aps : Nat) : Nat → List Nat → Prop
  | c, [] => ¬ 1 < bcS (c &&& aps)
  | c, s :: r => s < sv ∧ ¬ (fallS m n (nI s) c = c ∨ 1 < bcS ((nd c (fallS m n (nI s) c)) &&& aps)) ∧ PrP m n sv aps (fallS m n (nI s) c) r
theorem tp_node {m : MS} {n sv L aps : Nat} (hL : L ≤ 4) : ∀ (f : Nat) (r : List Nat) (T C : Nat → Int32) (va le : Int32) (D : List Nat → Prop), r.length + f = 5 → r.length ≤ L → (∀ j, j < r.length → T j = nI (r.getD j 0)) →
    InvP C le D → (∀ d, D d → LX d r) →
    (∀ j, j < r.length → (tpR m n sv (nI L) aps f r.length (cR m n (ldS m n) r) (T, C, va, le)).1 j = T j) ∧
    InvP (tpR m n sv (nI L) aps f r.length (cR m n (ldS m n) r) (T, C, va, le)).2.1 (tpR m n sv (nI L) aps f r.length (cR m n (ldS m n) r) (T, C, va, le)).2.2.2
      (fun d => D d ∨ ∃ t, d = r ++ t ∧ d.length ≤ L ∧ PrP m n sv aps (cR m n (ldS m n) r) t)
  | 0, r, T, C, va, le, D, h1, h2, _, _, _ => by omega
  | f + 1, r, T, C, va, le, D, h1, h2, hT, h0, hD => by
    have hch := tp_choose (va := va) (aps := aps) (c := cR m n (ldS m n) r) h0 hT (show r.length ≤ 4 by omega) hD
    generalize hst1 : tpC T C va le aps r.length (cR m n (ldS m n) r) = st1 at hch
    rw [tpR]
    simp only [hst1]
    by_cases hlim : nI r.length < nI L ∧ r.length < 4
    · rw [if_pos hlim]
      have hlt : r.length < L := by
        have := hlim.1
        rwa [nI_ltI (by omega) (by omega)] at this
      -- the loop over the sieves
      have key : ∀ s, s ≤ sv → ∃ T3 C3 va3 le3, fo (tpG m n aps (tpR m n sv (nI L) aps f) r.length (cR m n (ldS m n) r)) s (T, st1) = (T3, C3, va3, le3) ∧ (∀ j, j < r.length → T3 j = T j) ∧
          InvP C3 le3 (fun d => (D d ∨ (d = r ∧ ¬ 1 < bcS ((cR m n (ldS m n) r) &&& aps))) ∨ ∃ s' t, s' < s ∧ d = r ++ s' :: t ∧ d.length ≤ L ∧ PrP m n sv aps (cR m n (ldS m n) r) (s' :: t)) := by
        intro s
        induction s with
        | zero =>
          intro _
          exact ⟨T, st1.1, st1.2.1, st1.2.2, rfl, fun _ _ => rfl, hch.congr (fun d => ⟨Or.inl, fun q => q.elim id (fun ⟨s', t, z, _⟩ => absurd z (Nat.not_lt_zero _))⟩)⟩
        | succ s ih =>
          intro hs
          obtain ⟨T3, C3, va3, le3, e3, hT3, hI3⟩ := ih (by omega)
          rw [fo, e3]
          by_cases hf : fallS m n (nI s) (cR m n (ldS m n) r) = cR m n (ldS m n) r ∨ 1 < bcS ((nd (cR m n (ldS m n) r) (fallS m n (nI s) (cR m n (ldS m n) r))) &&& aps)
          · rw [tpG, if_pos hf]
            refine ⟨T3, C3, va3, le3, rfl, hT3, hI3.congr (fun d => ⟨fun q => ?_, fun q => ?_⟩)⟩
            · rcases q with q | ⟨s', t, z, q⟩
              · exact Or.inl q
              · exact Or.inr ⟨s', t, by omega, q⟩
            · rcases q with q | ⟨s', t, z, q1, q2, q3⟩
              · exact Or.inl q
              · by_cases e : s' = s
                · subst e; exact absurd hf q3.2.1
                · exact Or.inr ⟨s', t, by omega, q1, q2, q3⟩
          · rw [tpG, if_neg hf]
            have hlen : (r ++ [s]).length = r.length + 1 := by simp
            obtain ⟨g1, g2⟩ := tp_node hL f (r ++ [s]) (upd T3 r.length (nI s)) C3 va3 le3 (fun d => (D d ∨ (d = r ∧ ¬ 1 < bcS ((cR m n (ldS m n) r) &&& aps))) ∨ ∃ s' t, s' < s ∧ d = r ++ s' :: t ∧ d.length ≤ L ∧ PrP m n sv aps (cR m n (ldS m n) r) (s' :: t)) (by omega) (by omega)
              (fun j hj => by
                rw [getD_snoc]
                unfold upd
                by_cases e : j = r.length
                · rw [if_pos e, if_neg (by omega), if_pos e]
                · rw [if_neg e, if_pos (by omega), hT3 j (by omega), hT j (by omega)])
              hI3
              (fun d hd => by
                rcases hd with (hd | ⟨hd, -⟩) | ⟨s', t, z, hd, _⟩
                · exact LX_app _ _ _ (hD d hd)
                · rw [hd]; exact LX_ext r s []
                · rw [hd]; exact LX_br r s' s t [] z)
            rw [cR_snoc, hlen] at g1 g2
            refine ⟨_, _, _, _, rfl, fun j hj => ?_, g2.congr (fun d => ⟨fun q => ?_, fun q => ?_⟩)⟩
            · rw [g1 j (by omega)]
              unfold upd
              rw [if_neg (by omega), hT3 j hj]
            · rcases q with (q | ⟨s', t, z, q⟩) | ⟨t, q1, q2, q3⟩
              · exact Or.inl q
              · exact Or.inr ⟨s', t, by omega, q⟩
              · exact Or.inr ⟨s, t, by omega, by rw [q1, List.append_assoc]; rfl, q2, ⟨by omega, hf, q3⟩⟩
            · rcases q with q | ⟨s', t, z, q1, q2, q3⟩
              · exact Or.inl (Or.inl q)
              · by_cases e : s' = s
                · subst e
                  exact Or.inr ⟨t, by rw [q1, List.append_assoc]; rfl, q2, q3.2.2⟩
                · exact Or.inl (Or.inr ⟨s', t, by omega, q1, q2, q3⟩)
      obtain ⟨T3, C3, va3, le3, e3, hT3, hI3⟩ := key sv (Nat.le_refl _)
      rw [e3]
      refine ⟨hT3, hI3.congr (fun d => ⟨fun q => ?_, fun q => ?_⟩)⟩
      · rcases q with (q | ⟨q, qx⟩) | ⟨s', t, z, q1, q2, q3⟩
        · exact Or.inl q
        · exact Or.inr ⟨[], by rw [q, List.append_nil], by rw [q]; exact h2, qx⟩
        · exact Or.inr ⟨s' :: t, q1, q2, q3⟩
      · rcases q with q | ⟨t, q1, q2, q3⟩
        · exact Or.inl (Or.inl q)
        · cases t with
          | nil => exact Or.inl (Or.inr ⟨by rw [q1, List.append_nil], q3⟩)
          | cons s' t => exact Or.inr ⟨s', t, q3.1, q1, q2, q3⟩
    · rw [if_neg hlim]
      refine ⟨fun _ _ => rfl, hch.congr (fun d => ⟨fun q => ?_, fun q => ?_⟩)⟩
      · rcases q with q | ⟨q, qx⟩
        · exact Or.inl q
        · exact Or.inr ⟨[], by rw [q, List.append_nil], by rw [q]; exact h2, qx⟩
      · rcases q with q | ⟨t, q1, q2, q3⟩
        · exact Or.inl q
        · cases t with
          | nil => exact Or.inr ⟨by rw [q1, List.append_nil], q3⟩
          | cons s' t =>
            exfalso
            apply hlim
            rw [q1] at q2
            simp at q2
            exact ⟨by rw [nI_ltI (by omega) (by omega)]; omega, by omega⟩
/-- rows that part -/
def okR (m : MS) (n aps : Nat) : Nat → List Nat → Prop
  | c, [] => ¬ 1 < bcS (c &&& aps)
  | c, s :: r => ¬ 1 < bcS ((nd c (fallS m n (nI s) c)) &&& aps) ∧ okR m n aps (fallS m n (nI s) c) r
theorem ok_pr (m : MS) (n sv aps : Nat) : ∀ (r : List Nat) (c : Nat), (∀ s ∈ r, s < sv) → okR m n aps c r → ∃ t, PrP m n sv aps c t ∧ t.length ≤ r.length ∧ (t = r ∨ t.length < r.length)
  | [], c, _, h => ⟨[], h, Nat.le_refl _, Or.inl rfl⟩
  | s :: r, c, hs, h => by
    obtain ⟨t, t1, t3, t4⟩ := ok_pr m n sv aps r (fallS m n (nI s) c) (fun x hx => hs x (List.mem_cons_of_mem _ hx)) h.2
    by_cases hf : fallS m n (nI s) c = c
    · refine ⟨t, ?_, by simp; omega, Or.inr (by simp; omega)⟩
      rw [hf] at t1; exact t1
    · refine ⟨s :: t, ⟨hs s List.mem_cons_self, fun q => q.elim hf h.1, t1⟩, by simp; omega, ?_⟩
      rcases t4 with t4 | t4
      · exact Or.inl (by rw [t4])
      · exact Or.inr (by simp; omega)
theorem pr_ok {m : MS} {n sv aps : Nat} : ∀ {r : List Nat} {c : Nat}, PrP m n sv aps c r → okR m n aps c r ∧ ∀ s ∈ r, s < sv
  | [], _, h => ⟨h, fun _ h => absurd h List.not_mem_nil⟩
  | s :: r, c, h => by
    obtain ⟨h1, h2⟩ := pr_ok h.2.2
    exact ⟨⟨fun q => h.2.1 (Or.inr q), h1⟩, fun x hx => by
      rcases List.mem_cons.mp hx with rfl | hx
      · exact h.1
      · exact h2 x hx⟩
/-- the parting row, if there is one -/
def PartOf (m : MS) (n sv aps : Nat) (b : List Nat) : Prop := b.length ≤ 4 ∧ (∀ s ∈ b, s < sv) ∧ okR m n aps (ldS m n) b ∧ ∀ r, r.length ≤ 4 → (∀ s ∈ r, s < sv) → okR m n aps (ldS m n) r → r = b ∨ BtP b r
def NoPart (m : MS) (n sv aps : Nat) : Prop := ∀ r, r.length ≤ 4 → (∀ s ∈ r, s < sv) → ¬ okR m n aps (ldS m n) r
theorem part_of {m : MS} {n sv aps : Nat} (T C : Nat → Int32) : ((tpR m n sv 4 aps 5 0 (ldS m n) (T, C, 0, -1)).2.2.2 < 0 ∧ NoPart m n sv aps) ∨ ∃ b, PartOf m n sv aps b ∧ (tpR m n sv 4 aps 5 0 (ldS m n) (T, C, 0, -1)).2.2.2 = nI b.length ∧ ∀ j, j < b.length → (tpR m n sv 4 aps 5 0 (ldS m n) (T, C, 0, -1)).2.1 j = nI (b.getD j 0) := by
  obtain ⟨-, h⟩ := tp_node (m := m) (n := n) (sv := sv) (L := 4) (aps := aps) (Nat.le_refl _) 5 [] T C 0 (-1) (fun _ => False) rfl (Nat.zero_le _) (fun j hj => absurd hj (Nat.not_lt_zero _)) (Or.inl ⟨by decide, fun _ h => h⟩) (fun _ h => h.elim)
  rcases h with ⟨h1, h2⟩ | ⟨b, b1, b3, b4, b5, b6⟩
  · refine Or.inl ⟨h1, fun r hr hs hok => ?_⟩
    obtain ⟨t, t1, t3, t4⟩ := ok_pr m n sv aps r (ldS m n) hs hok
    exact h2 t (Or.inr ⟨t, rfl, by omega, t1⟩)
  · refine Or.inr ⟨b, ?_, b3, b5⟩
    rcases b1 with b1 | ⟨t, e, hl, hp⟩
    · exact b1.elim
    rw [List.nil_append] at e
    subst e
    obtain ⟨q1, q2⟩ := pr_ok hp
    refine ⟨hl, q2, q1, fun r hr hs hok => ?_⟩
    obtain ⟨t, t1, t3, t4⟩ := ok_pr m n sv aps r (ldS m n) hs hok
    have ht := b6 t (Or.inr ⟨t, rfl, by omega, t1⟩)
    rcases t4 with t4 | t4
    · rw [← t4]; exact ht
    · right
      rcases ht with ht | ht
      · rw [← ht]; exact Or.inl t4
      · rcases ht with h2 | ⟨h2, -⟩
        · exact Or.inl (by omega)
        · exact Or.inl (by omega)
theorem part_one {m : MS} {n sv aps : Nat} {a b : List Nat} (ha : PartOf m n sv aps a) (hb : PartOf m n sv aps b) : a = b := by
  rcases ha.2.2.2 b hb.1 hb.2.1 hb.2.2.1 with h | h
  · exact h.symm
  · rcases hb.2.2.2 a ha.1 ha.2.1 ha.2.2.1 with h2 | h2
    · exact h2
    · exact (BtP_asymm h h2).elim
