/-! calls in the layer Go: the callee's cells are cut out by their places, what comes back is put in their places -/
def splice (ws : va_W) : List Nat → va_W → va_W
  | [], [] => ws
  | [], x :: xs => ws ++ (x :: xs)
  | _ :: _, [] => ws
  | i :: is, x :: xs => splice (ws.set i x) is xs
theorem splice_at : ∀ (isC : List Nat) (ws w1 : va_W), isC.length ≤ w1.length → va_nd isC = true → (∀ i ∈ isC, i < ws.length) → ∀ (k : Nat) (q : Nat × va_E), (splice ws isC w1)[k]? = some q →
    (∃ j : Nat, isC[j]? = some k ∧ w1[j]? = some q) ∨ (k ∉ isC ∧ ws[k]? = some q) ∨ (ws.length ≤ k ∧ w1[isC.length + (k - ws.length)]? = some q)
  | [], ws, [], _, _, _, k, q, h => by
    unfold splice at h
    exact Or.inr (Or.inl ⟨List.not_mem_nil, h⟩)
  | [], ws, x :: xs, _, _, _, k, q, h => by
    unfold splice at h
    by_cases hl : k < ws.length
    · rw [List.getElem?_append_left hl] at h
      exact Or.inr (Or.inl ⟨List.not_mem_nil, h⟩)
    · rw [List.getElem?_append_right (by omega)] at h
      exact Or.inr (Or.inr ⟨by omega, by simpa using h⟩)
  | i :: is, ws, [], hlen, _, _, k, q, h => by simp at hlen
  | i :: is, ws, x :: xs, hlen, hn, hlt, k, q, h => by
    simp only [va_nd, Bool.and_eq_true, decide_eq_true_eq] at hn
    have hi : i < ws.length := hlt i List.mem_cons_self
    unfold splice at h
    rcases splice_at is (ws.set i x) xs (by simpa using hlen) hn.2 (fun j hj => by rw [List.length_set]; exact hlt j (List.mem_cons_of_mem _ hj)) k q h with ⟨j, h1, h2⟩ | ⟨h1, h2⟩ | ⟨h1, h2⟩
    · exact Or.inl ⟨j + 1, by simpa using h1, by simpa using h2⟩
    · by_cases hk : k = i
      · subst hk
        rw [List.getElem?_set_self hi] at h2
        exact Or.inl ⟨0, rfl, h2⟩
      · rw [List.getElem?_set_ne (Ne.symm hk)] at h2
        exact Or.inr (Or.inl ⟨fun z => (List.mem_cons.mp z).elim hk h1, h2⟩)
    · rw [List.length_set] at h1 h2
      refine Or.inr (Or.inr ⟨h1, ?_⟩)
      rw [List.length_cons, show is.length + 1 + (k - ws.length) = (is.length + (k - ws.length)) + 1 by omega, List.getElem?_cons_succ]
      exact h2
/-- the same in one pass, for places in order -/
def spl : Nat → va_W → List Nat → va_W → va_W
  | _, ws, [], ys => ws ++ ys
  | _, ws, _ :: _, [] => ws
  | _, [], _ :: _, _ :: _ => []
  | k, x :: ws, i :: is, y :: ys => cond (Nat.beq k i) (y :: spl (k + 1) ws is ys) (x :: spl (k + 1) ws (i :: is) (y :: ys))
def inc : List Nat → Bool
  | [] => true
  | [_] => true
  | a :: b :: l => Nat.blt a b && inc (b :: l)
theorem inc_lt : ∀ (l : List Nat) (a : Nat), inc (a :: l) = true → inc l = true ∧ ∀ b ∈ l, a < b
  | [], _, _ => ⟨rfl, fun _ h => absurd h List.not_mem_nil⟩
  | b :: l, a, h => by
    unfold inc at h
    rw [Bool.and_eq_true] at h
    have h1 : a < b := Nat.blt_eq.mp h.1
    refine ⟨h.2, fun c hc => ?_⟩
    rcases List.mem_cons.mp hc with rfl | hc
    · exact h1
    · exact Nat.lt_trans h1 ((inc_lt l b h.2).2 c hc)
theorem inc_nd : ∀ (l : List Nat), inc l = true → va_nd l = true
  | [], _ => rfl
  | a :: l, h => by
    obtain ⟨h1, h2⟩ := inc_lt l a h
    unfold va_nd
    rw [inc_nd l h1, Bool.and_true, decide_eq_true_eq]
    exact fun q => Nat.lt_irrefl _ (h2 a q)
theorem splice_app : ∀ (isC : List Nat) (x : Nat × va_E) (pre ws w1 : va_W), (∀ i ∈ isC, pre.length < i) → splice (pre ++ x :: ws) isC w1 = splice ((pre ++ [x]) ++ ws) isC w1 := by
  intro isC x pre ws w1 _
  rw [List.append_assoc]; rfl
theorem splice_spl : ∀ (ws : va_W) (isC : List Nat) (w1 pre : va_W), inc isC = true → (∀ i ∈ isC, pre.length ≤ i) → (∀ i ∈ isC, i < pre.length + ws.length) → isC.length ≤ w1.length → splice (pre ++ ws) isC w1 = pre ++ spl pre.length ws isC w1
  | ws, [], [], pre, _, _, _, _ => by simp [splice, spl]
  | ws, [], y :: ys, pre, _, _, _, _ => by simp [splice, spl, List.append_assoc]
  | ws, i :: is, [], pre, _, _, _, h => by simp at h
  | [], i :: is, y :: ys, pre, _, h1, h2, _ => by
    have a := h1 i List.mem_cons_self
    have b := h2 i List.mem_cons_self
    simp at b; omega
  | x :: ws, i :: is, y :: ys, pre, h0, h1, h2, h3 => by
    have a := h1 i List.mem_cons_self
    obtain ⟨g1, g2⟩ := inc_lt is i h0
    have el : (pre ++ [x]).length = pre.length + 1 := by simp
    have el2 : (pre ++ [y]).length = pre.length + 1 := by simp
    by_cases e : pre.length = i
    · have e1 : spl pre.length (x :: ws) (i :: is) (y :: ys) = y :: spl (pre.length + 1) ws is ys := by
        rw [spl, show Nat.beq pre.length i = true from (by rw [e]; exact Nat.beq_refl i)]
        rfl
      have e2 : splice (pre ++ x :: ws) (i :: is) (y :: ys) = splice ((pre ++ [y]) ++ ws) is ys := by
        rw [splice, ← e, List.set_append_right _ _ (Nat.le_refl _), Nat.sub_self, List.append_assoc]
        rfl
      rw [e2, e1, splice_spl ws is ys (pre ++ [y]) g1 (fun j hj => by rw [el2]; have := g2 j hj; omega) (fun j hj => by rw [el2]; have := h2 j (List.mem_cons_of_mem _ hj); simp at this; omega) (by simpa using h3), el2, List.append_assoc]
      rfl
    · have e1 : spl pre.length (x :: ws) (i :: is) (y :: ys) = x :: spl (pre.length + 1) ws (i :: is) (y :: ys) := by
        rw [spl, show Nat.beq pre.length i = false from (by
          cases hq : Nat.beq pre.length i with
          | false => rfl
          | true => exact absurd (Nat.eq_of_beq_eq_true hq) e)]
        rfl
      have e2 : splice (pre ++ x :: ws) (i :: is) (y :: ys) = splice ((pre ++ [x]) ++ ws) (i :: is) (y :: ys) := by
        rw [List.append_assoc]; rfl
      rw [e2, e1, splice_spl ws (i :: is) (y :: ys) (pre ++ [x]) h0 (fun j hj => by
        rw [el]
        rcases List.mem_cons.mp hj with rfl | hj
        · omega
        · have := g2 j hj; omega) (fun j hj => by rw [el]; have := h2 j hj; simp at this; omega) h3, el, List.append_assoc]
      rfl
theorem map_at {is : List Nat} {ws wc : va_W} (hC : is.map (fun i => ws[i]?) = wc.map some) (k : Nat) (q : Nat × va_E) (h : wc[k]? = some q) : ∃ i, is[k]? = some i ∧ ws[i]? = some q := by
  have h1 : (is.map (fun i => ws[i]?))[k]? = some (some q) := by rw [hC, List.getElem?_map, h]; rfl
  rw [List.getElem?_map] at h1
  cases hi : is[k]? with
  | none => rw [hi] at h1; cases h1
  | some i => rw [hi] at h1; exact ⟨i, rfl, Option.some.inj h1⟩
theorem map_lt {is : List Nat} {ws wc : va_W} (hC : is.map (fun i => ws[i]?) = wc.map some) : ∀ i ∈ is, i < ws.length := by
  intro i hi
  obtain ⟨k, hk⟩ := List.getElem?_of_mem hi
  have h1 : (is.map (fun i => ws[i]?))[k]? = some (ws[i]?) := by rw [List.getElem?_map, hk]; rfl
  rw [hC, List.getElem?_map] at h1
  cases hq : wc[k]? with
  | none => rw [hq] at h1; cases h1
  | some q =>
    rw [hq] at h1
    exact (List.getElem?_eq_some_iff.mp (Option.some.inj h1).symm).1
theorem splice_ok {A : Nat → Prop} {D : va_G} {cl : List vw_C} {ws wc w1 : va_W} {H H1 : Heap} {isC : List Nat} (hP : va_P D cl ws H) (hD : va_D A ws) (hC : isC.map (fun i => ws[i]?) = wc.map some) (hn : va_nd isC = true) (hlen : isC.length ≤ w1.length)
    (hk : ∀ q : Nat, q < H.size → ¬ va_A wc H.size q → H1[q]? = H[q]?) (hF : ∀ q, va_A wc H.size q → A q) (hP1 : va_P D cl w1 H1) (hD1 : va_D (va_A wc H.size) w1) : va_P D cl (splice ws isC w1) H1 ∧ va_D A (splice ws isC w1) := by
  have at' := splice_at isC ws w1 hlen hn (map_lt hC)
  have off : ∀ (k : Nat) (q : Nat × va_E), k ∉ isC → ws[k]? = some q → ¬ va_A wc H.size q.1 := by
    intro k q hkc hq h
    rcases h with ⟨c, e, h⟩ | h
    · obtain ⟨i, h1, h2⟩ := map_at hC c (q.1, e) h
      have := hD.1 i k (q.1, e) q h2 hq rfl
      subst this
      exact hkc (List.mem_of_getElem? h1)
    · exact absurd (hP k q hq).lt (Nat.not_lt.mpr h)
  refine ⟨fun k q hq => ?_, fun i j p q hi hj hpq => ?_, fun k q hq => ?_⟩
  · rcases at' k q hq with ⟨j, -, h2⟩ | ⟨h1, h2⟩ | ⟨-, h2⟩
    · exact hP1 j q h2
    · exact (hP k q h2).kept (hk q.1 (hP k q h2).lt (off k q h1 h2))
    · exact hP1 _ q h2
  · rcases at' i p hi with ⟨a, a1, a2⟩ | ⟨a1, a2⟩ | ⟨a1, a2⟩ <;> rcases at' j q hj with ⟨b, b1, b2⟩ | ⟨b1, b2⟩ | ⟨b1, b2⟩
    · have := hD1.1 a b p q a2 b2 hpq
      subst this
      exact Option.some.inj (a1.symm.trans b1)
    · exact absurd (hD1.2 a p a2) (by rw [hpq]; exact off j q b1 b2)
    · have h3 := hD1.1 a _ p q a2 b2 hpq
      have h4 := (List.getElem?_eq_some_iff.mp a1).1
      omega
    · exact absurd (hD1.2 b q b2) (by rw [← hpq]; exact off i p a1 a2)
    · exact hD.1 i j p q a2 b2 hpq
    · exact absurd (hD1.2 _ q b2) (by rw [← hpq]; exact off i p a1 a2)
    · have h3 := hD1.1 _ b p q a2 b2 hpq
      have h4 := (List.getElem?_eq_some_iff.mp b1).1
      omega
    · exact absurd (hD1.2 _ p a2) (by rw [hpq]; exact off j q b1 b2)
    · have h3 := hD1.1 _ _ p q a2 b2 hpq
      omega
  · rcases at' k q hq with ⟨j, -, h2⟩ | ⟨h1, h2⟩ | ⟨-, h2⟩
    · exact hF _ (hD1.2 j q h2)
    · exact hD.2 k q h2
    · exact hF _ (hD1.2 _ q h2)
theorem tb_pay {y : MethodName} {cc : ByteArray} {maxL : Nat} {ret : Option FieldType} {n : Nat} {args : Array Value} {s : State} (hts : ∀ w ∈ TB, w.before args s = true) (h : MK y cc maxL ret n) : ∀ w ∈ (Cond.code y cc maxL ret :: TB), ∀ (a' : Array Value) (U : State), s.WarmedH U.vm → w.before a' U = true := by
  intro w hw a' U hW
  have hm : w ∈ TB := (List.mem_cons.mp hw).elim (fun e => e ▸ h.1) id
  exact word_at hW (tb_good hm) (hts w hm)
section CALLS
variable {p : Program} {l : Launch} {e : Env} {R : Room} {s : State} {m : MethodId} {args : Array Value} {below : List Frame} {meth : Method} {c : Code} {H : Heap} {locs : List Loc} {cells slots : Nat} {Q : State → Prop}
theorem g_after {S : Type} {cI cS : ClassId} {D : va_G} {A : Nat → Prop} {P : S → Prop} {val : S → Option Value} {wr ws' : S → va_W} {ws wc : va_W} {isC : List Nat} {mc ms pc : Nat} {ls : Array Slot} {st0 rest : List Value} {a : Array Value}
    (hr : va_Run p l e R s m args below meth c H locs cells slots mc ms (F0 m pc ls st0) rest (Qg cI cS D (va_A wc H.size) P val wr a) (va_A wc H.size))
    (hP : va_P D vwCl ws H) (hD : va_D A ws) (hS : va_S A s.heap H locs) (hA : ∀ q : Nat, s.heap.size ≤ q → A q) (hC : isC.map (fun i => ws[i]?) = wc.map some) (hi : inc isC = true) (hlen : ∀ u, isC.length ≤ (wr u).length) (hw : ∀ u, spl 0 ws isC (wr u) = ws' u)
    (kk : ∀ u, P u → ∀ (H1 : Heap) (locs1 : List Loc), va_P D vwCl (ws' u) H1 → va_D A (ws' u) → va_S A s.heap H1 locs1 → W p l e R s m args below meth c H1 locs1 (cells + mc) (slots + ms) Q (F0 m (pc + 3) ls ((val u).toList ++ rest))) : W p l e R s m args below meth c H locs cells slots Q (F0 m pc ls st0) := by
  have hF := va_free hD hS hA isC hC
  have hn := inc_nd isC hi
  intro T hT X
  obtain ⟨v, st₀, t, T', L, h0, X', hL, e1, e2, ⟨⟨u, hv, hp, hb, hbd⟩, hz, hk⟩, st⟩ := hr T hT X
  cases hv
  rw [h0] at hz hk
  obtain ⟨hP1, hD1⟩ := splice_ok hP hD hC hn (hlen u) (H1 := T'.heap) (fun q h1 h2 => by rw [e1]; exact hk q h1 h2) hF (by rw [e1]; exact hb) hbd
  have hsp := splice_spl ws isC (wr u) [] hi (fun _ _ => Nat.zero_le _) (fun i h => by simpa using map_lt hC i h) (hlen u)
  rw [List.nil_append, List.nil_append] at hsp
  rw [hsp] at hP1 hD1
  have hw := hw u
  simp only [List.length_nil] at hP1 hD1
  rw [hw] at hP1 hD1
  obtain ⟨t2, a1, b1⟩ := kk u hp T'.heap (locs ++ L) hP1 hD1
    ⟨Nat.le_trans hS.1 (by rw [e1]; exact hz), fun q h1 h2 => by rw [e1, hk q (Nat.lt_of_lt_of_le h1 hS.1) (fun z => h2 (hF q z))]; exact hS.2.1 q h1 h2, fun q hq => by
      rcases List.mem_append.mp hq with h | h
      · exact hS.2.2 q h
      · exact hF _ (hL q h)⟩ T' rfl X'
  exact ⟨t2, st t2 a1, b1⟩
theorem bf_blind {cI cS : ClassId} {D : va_G} {sz : Nat} {w : va_W} {av : List Value} : FrameBlind (va_Pc av (Bf cI cS D sz w)) := by
  intro a U g mk h
  obtain ⟨h1, h2, h3, h4, h5, h6⟩ := h
  exact ⟨h1, h2, h3, va_K.moved (u := U) (U := U.calling g mk a) (Vm.Alike.refl U.vm) h4, h5, NWs.same (u := U) (U := U.calling g mk a) rfl h6⟩
theorem bf_pre {cI cS : ClassId} {D : va_G} {A : Nat → Prop} {ws wc : va_W} {isC : List Nat} {av : List Value} (hP : va_P D vwCl ws H) (hD : va_D A ws) (hK : va_K D vwCl (TYS cI cS) s) (hN : NWs s) (hC : isC.map (fun i => ws[i]?) = wc.map some) (hn : va_nd isC = true) :
    ∀ U : State, U.heap = H → s.WarmedH U.vm → va_Pc av (Bf cI cS D H.size wc) av.toArray U := by
  intro U hU hW
  refine ⟨rfl, by rw [hU], ?_, va_K.moved hW.alike hK, (hD.sub isC hn hC).weaken (fun _ _ _ _ => trivial), hN.warm hW⟩
  rw [hU]
  refine hP.sub isC ?_
  have h2 := congrArg (List.filterMap id) hC
  simpa [List.filterMap_map, Function.comp_def] using h2
end CALLS
section GOC
variable {E : CX} {Q : State → Prop} {cI cS : ClassId} {own : String} {cc : ByteArray} {ret : Option FieldType} {nL cells slots pc d mc ms : Nat} {lv : List (Nat × Value)} {st : List Value} {ws : va_W}
variable {S : Type} {P : S → Prop} {val : S → Option Value} {wr ws' : S → va_W} {y : MethodName} {bytes : ByteArray} {maxL' n d' mc' ms' index : Nat} {ret' : Option FieldType} {wc : va_W} {As rest : List Value}
theorem g_callV (hE : CxOk E cI cS own cc nL ret d mc ms) {b : Nat} (hM : CT cI cS y bytes maxL' ret' d' (.ref b :: As) wc mc' ms' P val wr) (hk : MK y bytes maxL' ret' n) {C : String} (hv : MV C y) (hlk : Cond.methodLink own index y ∈ TB) (hd : decode cc pc = .ok (.invokevirtual index, 3)) (hst : st = As.reverse ++ .ref b :: rest) (hn : As.length = n) {T : u_T} {N ci : Nat} {fs : List Value} (q0 : Nat) (hq : ws[q0]? = some (b, .inr (ci, fs))) (hci : vwCl[ci]? = some (C, T, N))
    (hd' : d' + 1 ≤ d) (hL : maxL' ≤ 45) (hcat : (rest.map fun v => v.category).sum ≤ 8) (hmc : cells + mc' ≤ mc) (hms : slots + ms' ≤ ms) (isC : List Nat) (hC : isC.map (fun i => ws[i]?) = wc.map some) (hnd : inc isC = true) (hlen : ∀ u, isC.length ≤ (wr u).length) (hw : ∀ u, spl 0 ws isC (wr u) = ws' u)
    (kk : ∀ u, P u → Go E Q nL (cells + mc') (slots + ms') (pc + 3) lv ((val u).toList ++ rest) (ws' u)) : Go E Q nL cells slots pc lv st ws := by
  obtain ⟨p, l, e, R, s, m, args, below, meth, c, D, A⟩ := E
  obtain ⟨hx, hb, hml, hown, hts, hK, hN, hA, hfr, hlo, hmcR, hmsR, hlocks, hr⟩ := hE
  intro H locs ls hP hD hS hl
  exact g_after (va_runV (As := As) (rest := rest) ⟨hx, hb, hml, hown, hts⟩ (hM l D H.size) ⟨⟨rfl, rfl, by show d' + 1 ≤ R.frames; omega, by show 8 + (maxL' + 11) + 64 * d' ≤ R.locals; omega, tb_pay hts hk, List.mem_cons_self, hts _ hk.1, hts _ hk.2.1, hk.2.2.1, hk.par, hts _ hlk⟩, hts _ hv.1, hts _ hv.2⟩
    ⟨bf_blind, va_recv hK hP hci hq, fun U hU hW => bf_pre hP hD hK hN hC (inc_nd _ hnd) U hU hW⟩ rfl hn hl.1 hst (lv_room hcat) hd ⟨by omega, by omega⟩) hP hD hS hA hC hnd hlen hw (fun u hu H1 locs1 hP1 hD1 hS1 => kk u hu H1 locs1 ls hP1 hD1 hS1 hl)
theorem g_callS (hE : CxOk E cI cS own cc nL ret d mc ms) (hM : CT cI cS y bytes maxL' ret' d' As wc mc' ms' P val wr) (hk : MK y bytes maxL' ret' n) (hv : Cond.static y ∈ TB) (hlk : Cond.methodLink own index y ∈ TB) (hd : decode cc pc = .ok (.invokestatic index, 3)) (hst : st = As.reverse ++ rest) (hn : As.length = n)
    (hd' : d' + 1 ≤ d) (hL : maxL' ≤ 45) (hcat : (rest.map fun v => v.category).sum ≤ 8) (hmc : cells + mc' ≤ mc) (hms : slots + ms' ≤ ms) (isC : List Nat) (hC : isC.map (fun i => ws[i]?) = wc.map some) (hnd : inc isC = true) (hlen : ∀ u, isC.length ≤ (wr u).length) (hw : ∀ u, spl 0 ws isC (wr u) = ws' u)
    (kk : ∀ u, P u → Go E Q nL (cells + mc') (slots + ms') (pc + 3) lv ((val u).toList ++ rest) (ws' u)) : Go E Q nL cells slots pc lv st ws := by
  obtain ⟨p, l, e, R, s, m, args, below, meth, c, D, A⟩ := E
  obtain ⟨hx, hb, hml, hown, hts, hK, hN, hA, hfr, hlo, hmcR, hmsR, hlocks, hr⟩ := hE
  intro H locs ls hP hD hS hl
  exact g_after (va_runS (As := As) (rest := rest) ⟨hx, hb, hml, hown, hts⟩ (hM l D H.size) ⟨⟨rfl, rfl, by show d' + 1 ≤ R.frames; omega, by show 8 + (maxL' + 11) + 64 * d' ≤ R.locals; omega, tb_pay hts hk, List.mem_cons_self, hts _ hk.1, hts _ hk.2.1, hk.2.2.1, hk.par, hts _ hlk⟩, hts _ hv⟩
    ⟨bf_blind, fun U hU hW => bf_pre hP hD hK hN hC (inc_nd _ hnd) U hU hW⟩ rfl hn hl.1 hst (lv_room hcat) hd ⟨by omega, by omega⟩) hP hD hS hA hC hnd hlen hw (fun u hu H1 locs1 hP1 hD1 hS1 => kk u hu H1 locs1 ls hP1 hD1 hS1 hl)
theorem g_callSN (hE : CxOk E cI cS own cc nL ret d mc ms) (hM : CT cI cS y bytes maxL' ret' d' As wc mc' ms' P val wr) (hk : MK y bytes maxL' ret' n) (hv : Cond.static y ∈ TB) {host : String} (hlk : (own, index, y, host) ∈ NL) (hd : decode cc pc = .ok (.invokestatic index, 3)) (hst : st = As.reverse ++ rest) (hn : As.length = n)
    (hd' : d' + 1 ≤ d) (hL : maxL' ≤ 45) (hcat : (rest.map fun v => v.category).sum ≤ 8) (hmc : cells + mc' ≤ mc) (hms : slots + ms' ≤ ms) (isC : List Nat) (hC : isC.map (fun i => ws[i]?) = wc.map some) (hnd : inc isC = true) (hlen : ∀ u, isC.length ≤ (wr u).length) (hw : ∀ u, spl 0 ws isC (wr u) = ws' u)
    (kk : ∀ u, P u → Go E Q nL (cells + mc') (slots + ms') (pc + 3) lv ((val u).toList ++ rest) (ws' u)) : Go E Q nL cells slots pc lv st ws := by
  obtain ⟨p, l, e, R, s, m, args, below, meth, c, D, A⟩ := E
  obtain ⟨hx, hb, hml, hown, hts, hK, hN, hA, hfr, hlo, hmcR, hmsR, hlocks, hr⟩ := hE
  intro H locs ls hP hD hS hl
  exact g_after (va_runSN (As := As) (rest := rest) (host := host) ⟨hx, hb, hml, hown, hts⟩ (hM l D H.size) ⟨⟨⟨rfl, rfl, by show d' + 1 ≤ R.frames; omega, by show 8 + (maxL' + 11) + 64 * d' ≤ R.locals; omega, tb_pay hts hk, List.mem_cons_self⟩, hts _ hk.1, hts _ hk.2.1, hk.2.2.1, hk.par, va_Nw.use rfl (hN.1 _ hlk)⟩, hts _ hv, trivial⟩
    ⟨bf_blind, fun U hU hW => bf_pre hP hD hK hN hC (inc_nd _ hnd) U hU hW⟩ rfl hn hl.1 hst (lv_room hcat) hd ⟨by omega, by omega⟩) hP hD hS hA hC hnd hlen hw (fun u hu H1 locs1 hP1 hD1 hS1 => kk u hu H1 locs1 ls hP1 hD1 hS1 hl)
theorem g_callI (hE : CxOk E cI cS own cc nL ret d mc ms) {b : Nat} (hM : CT cI cS y bytes maxL' none d' (.ref b :: As) wc mc' ms' P val wr) (hk : MK y bytes maxL' none n) (hy1 : y.name = "<init>") (hin : Cond.instanceMethod y ∈ TB) (hlk : Cond.methodLink own index y ∈ TB) (hd : decode cc pc = .ok (.invokespecial index, 3)) (hst : st = As.reverse ++ .ref b :: rest) (hn : As.length = n)
    (hd' : d' + 1 ≤ d) (hL : maxL' ≤ 45) (hcat : (rest.map fun v => v.category).sum ≤ 8) (hmc : cells + mc' ≤ mc) (hms : slots + ms' ≤ ms) (isC : List Nat) (hC : isC.map (fun i => ws[i]?) = wc.map some) (hnd : inc isC = true) (hlen : ∀ u, isC.length ≤ (wr u).length) (hw : ∀ u, spl 0 ws isC (wr u) = ws' u)
    (kk : ∀ u, P u → Go E Q nL (cells + mc') (slots + ms') (pc + 3) lv ((val u).toList ++ rest) (ws' u)) : Go E Q nL cells slots pc lv st ws := by
  obtain ⟨p, l, e, R, s, m, args, below, meth, c, D, A⟩ := E
  obtain ⟨hx, hb, hml, hown, hts, hK, hN, hA, hfr, hlo, hmcR, hmsR, hlocks, hr⟩ := hE
  intro H locs ls hP hD hS hl
  exact g_after (va_runI (As := As) (rest := rest) ⟨hx, hb, hml, hown, hts⟩ (hM l D H.size) ⟨⟨rfl, rfl, by show d' + 1 ≤ R.frames; omega, by show 8 + (maxL' + 11) + 64 * d' ≤ R.locals; omega, tb_pay hts hk, List.mem_cons_self, hts _ hk.1, hts _ hk.2.1, hk.2.2.1, hk.par, hts _ hlk⟩, hy1, hts _ hin⟩
    ⟨bf_blind, fun U hU hW => bf_pre hP hD hK hN hC (inc_nd _ hnd) U hU hW⟩ rfl hn hl.1 hst (lv_room hcat) hd ⟨by omega, by omega⟩) hP hD hS hA hC hnd hlen hw (fun u hu H1 locs1 hP1 hD1 hS1 => kk u hu H1 locs1 ls hP1 hD1 hS1 hl)
theorem g_callIN (hE : CxOk E cI cS own cc nL ret d mc ms) {b : Nat} (hM : CT cI cS y bytes maxL' none d' (.ref b :: As) wc mc' ms' P val wr) (hk : MK y bytes maxL' none n) (hy1 : y.name = "<init>") (hin : Cond.instanceMethod y ∈ TB) {host : String} (hlk : (own, index, y, host) ∈ NL) (hd : decode cc pc = .ok (.invokespecial index, 3)) (hst : st = As.reverse ++ .ref b :: rest) (hn : As.length = n)
    (hd' : d' + 1 ≤ d) (hL : maxL' ≤ 45) (hcat : (rest.map fun v => v.category).sum ≤ 8) (hmc : cells + mc' ≤ mc) (hms : slots + ms' ≤ ms) (isC : List Nat) (hC : isC.map (fun i => ws[i]?) = wc.map some) (hnd : inc isC = true) (hlen : ∀ u, isC.length ≤ (wr u).length) (hw : ∀ u, spl 0 ws isC (wr u) = ws' u)
    (kk : ∀ u, P u → Go E Q nL (cells + mc') (slots + ms') (pc + 3) lv ((val u).toList ++ rest) (ws' u)) : Go E Q nL cells slots pc lv st ws := by
  obtain ⟨p, l, e, R, s, m, args, below, meth, c, D, A⟩ := E
  obtain ⟨hx, hb, hml, hown, hts, hK, hN, hA, hfr, hlo, hmcR, hmsR, hlocks, hr⟩ := hE
  intro H locs ls hP hD hS hl
  exact g_after (va_runIN (As := As) (rest := rest) (host := host) ⟨hx, hb, hml, hown, hts⟩ (hM l D H.size) ⟨⟨⟨rfl, rfl, by show d' + 1 ≤ R.frames; omega, by show 8 + (maxL' + 11) + 64 * d' ≤ R.locals; omega, tb_pay hts hk, List.mem_cons_self⟩, hts _ hk.1, hts _ hk.2.1, hk.2.2.1, hk.par, va_Nw.use rfl (hN.1 _ hlk)⟩, hy1, hts _ hin⟩
    ⟨bf_blind, fun U hU hW => bf_pre hP hD hK hN hC (inc_nd _ hnd) U hU hW⟩ rfl hn hl.1 hst (lv_room hcat) hd ⟨by omega, by omega⟩) hP hD hS hA hC hnd hlen hw (fun u hu H1 locs1 hP1 hD1 hS1 => kk u hu H1 locs1 ls hP1 hD1 hS1 hl)
theorem g_objInit (hE : CxOk E cI cS own cc nL ret d mc ms) (h1 : 1 ≤ d) {idx : Nat} (hlk : Cond.methodLink own idx objectInit ∈ TB) (hin : Cond.instanceMethod objectInit ∈ TB) (hco : Cond.code objectInit ⟨#[0xb1]⟩ 1 none ∈ TB) {a : Nat} (hcat : (st.map fun v => v.category).sum + 12 ≤ 64) (hd : decode cc pc = .ok (.invokespecial idx, 3)) (kk : Go E Q nL cells slots (pc + 3) lv st ws) : Go E Q nL cells slots pc lv (.ref a :: st) ws := by
  obtain ⟨p, l, e, R, s, m, args, below, meth, c, D, A⟩ := E
  obtain ⟨hx, hb, hml, hown, hts, hK, hN, hA, hfr, hlo, hmcR, hmsR, hlocks, hr⟩ := hE
  intro H locs ls hP hD hS hl
  refine W.objInit hx hb hown (hts _ hlk) (hts _ hin) (hts _ hco) rfl (by rw [hml]; exact hl.1) rfl hd (by omega) ?_ (kk H locs ls hP hD hS hl)
  show 2 * 0 + _ + 12 ≤ R.locals
  omega
theorem g_new (hE : CxOk E cI cS own cc nL ret d mc ms) {C : String} {T : u_T} {N ci idx : Nat} (hci : vwCl[ci]? = some (C, T, N)) (hin : ∀ w ∈ u_ws C T N, w ∈ TB) (ty : Nat → FieldType) (hty : ∀ k, k < N → parseFieldDescriptor (T k).2.2.1 = some (ty k)) (hcl : Cond.classLink own idx C ∈ TB) (hinst : Cond.instantiable C N ∈ TB) (hini : Cond.initialized C ∈ TB) (fs : List Value) (hfs : ∀ j, j < N → defaultValue (ty j) = vp_V fs j) (hmc : cells + 1 ≤ mc) (hms : slots + N ≤ ms) (hd : decode cc pc = .ok (.new idx, 3))
    (kk : ∀ q : Nat, Go E Q nL (cells + 1) (slots + N) (pc + 3) lv (.ref q :: st) (ws ++ [(q, .inr (ci, fs))])) : Go E Q nL cells slots pc lv st ws := by
  obtain ⟨p, l, e, R, s, m, args, below, meth, c, D, A⟩ := E
  obtain ⟨hx, hb, hml, hown, hts, hK, hN, hA, hfr, hlo, hmcR, hmsR, hlocks, hr⟩ := hE
  intro H locs ls hP hD hS hl
  exact va_new hx hb hts hin ty hty hown (hts _ hcl) (hts _ hinst) (hts _ hini) hK hP hD hS hA hci hfs (by omega) (by omega) hd (fun q H1 hP1 hD1 hS1 => kk q H1 locs ls hP1 hD1 hS1 hl)
theorem g_newi (hE : CxOk E cI cS own cc nL ret d mc ms) (harr : Cond.arrayClass .int ∈ TB) {k : Int32} (N : Nat) (hn : ¬ k < 0) (hN : k.toNatClampNeg = N) (hbytes : N * 4 ≤ 536870912) (hmc : cells + 1 ≤ mc) (hms : slots + N ≤ ms) (hd : decode cc pc = .ok (.newarray .int, 2))
    (kk : ∀ q : Nat, Go E Q nL (cells + 1) (slots + N) (pc + 2) lv (.ref q :: st) (ws ++ [(q, .inl (cI, N, .inl (fun _ => 0)))])) : Go E Q nL cells slots pc lv (.int k :: st) ws := by
  obtain ⟨p, l, e, R, s, m, args, below, meth, c, D, A⟩ := E
  obtain ⟨hx, hb, hml, hown, hts, hK, hN', hA, hfr, hlo, hmcR, hmsR, hlocks, hr⟩ := hE
  intro H locs ls hP hD hS hl
  refine va_newa (atype := .int) (ty := .int) hx hb (hts _ harr) rfl hK hP hD hS hA (a0 := (N, .inl (fun _ => 0))) (fun cA => ?_) hn hN hbytes (by omega) (by omega) hd (fun q cA H1 hK1 hP1 hD1 hS1 => ?_)
  · rw [vp_cell_i]; rfl
  · have h1 : cA = cI := by
      have e1 : va_RA s cA .int := (hK1.2 2 (cA, .int) rfl).2
      have e2 : va_RA s cI .int := (hK.2 0 (cI, .int) rfl).2
      exact Option.some.inj (e1.symm.trans e2)
    subst h1
    exact kk q H1 locs ls hP1 hD1 hS1 hl
theorem g_newq (hE : CxOk E cI cS own cc nL ret d mc ms) {idx : Nat} (hcl : Cond.classLink own idx RX2 ∈ TB) {k : Int32} (N : Nat) (hn : ¬ k < 0) (hN : k.toNatClampNeg = N) (hbytes : N * 4 ≤ 536870912) (hmc : cells + 1 ≤ mc) (hms : slots + N ≤ ms) (hd : decode cc pc = .ok (.anewarray idx, 3))
    (kk : ∀ q : Nat, Go E Q nL (cells + 1) (slots + N) (pc + 3) lv (.ref q :: st) (ws ++ [(q, .inl (cS, N, .inr (.inr (.inr (.inr (fun _ => none))))))])) : Go E Q nL cells slots pc lv (.int k :: st) ws := by
  obtain ⟨p, l, e, R, s, m, args, below, meth, c, D, A⟩ := E
  obtain ⟨hx, hb, hml, hown, hts, hK, hN', hA, hfr, hlo, hmcR, hmsR, hlocks, hr⟩ := hE
  intro H locs ls hP hD hS hl
  refine va_newq (C := RX2) hx hb hown (hts _ hcl) hN'.2 hK hP hD hS hA hn hN hbytes (by omega) (by omega) hd (fun q cA H1 hK1 hP1 hD1 hS1 => ?_)
  have h1 : cA = cS := by
    obtain ⟨kA, comp, -, -, -, e1⟩ : va_RA s cA (.object RX2) := (hK1.2 2 (cA, .object RX2) rfl).2
    obtain ⟨kA2, comp2, -, -, -, e2⟩ : va_RA s cS (.object RX2) := (hK.2 1 (cS, .object RX2) rfl).2
    exact Option.some.inj (e1.symm.trans e2)
  subst h1
  exact kk q H1 locs ls hP1 hD1 hS1 hl
end GOC
