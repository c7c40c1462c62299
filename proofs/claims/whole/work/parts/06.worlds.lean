/-! the worlds: cells of the class' and the reference's objects, out of their states (functions of field and place) -/
def pA {α : Type} (f : Nat → α) (k : Nat) (v : α) : Nat → α := fun g => cond (Nat.beq g k) v (f g)
def millW (cI : ClassId) (a : Nat → Nat) (m : Nat → Nat → Int32) : va_W := [(a 0, .inr (0, [.int (m 9 0), .int (m 9 1), .int (m 9 2), .int (m 9 3), .ref (a 1), .ref (a 2), .ref (a 3), .ref (a 4), .ref (a 5), .ref (a 6), .ref (a 7), .ref (a 8), .ref (a 9)])), (a 1, .inl (cI, 6, .inl (m 0))), (a 2, .inl (cI, 6, .inl (m 1))), (a 3, .inl (cI, 6, .inl (m 2))), (a 4, .inl (cI, 8, .inl (m 3))), (a 5, .inl (cI, 8, .inl (m 4))), (a 6, .inl (cI, 8, .inl (m 5))), (a 7, .inl (cI, 8, .inl (m 6))), (a 8, .inl (cI, 6, .inl (m 7))), (a 9, .inl (cI, 7, .inl (m 8)))]
def searchW (cI : ClassId) (a : Nat → Nat) (m : Nat → Nat → Int32) : va_W := [(a 0, .inr (1, [.ref (a 1), .ref (a 2), .int (m 2 0), .int (m 2 1), .int (m 2 2), .int (m 2 3)])), (a 1, .inl (cI, 4, .inl (m 0))), (a 2, .inl (cI, 4, .inl (m 1)))]
def sheetW (cI : ClassId) (a : Nat → Nat) (m : Nat → Nat → Int32) : va_W := [(a 0, .inr (2, [.ref (a 1), .int (m 1 0), .int (m 1 1)])), (a 1, .inl (cI, 24, .inl (m 0)))]
def tapeW (cI : ClassId) (a : Nat → Nat) (m : Nat → Nat → Int32) : va_W := [(a 0, .inr (3, [.ref (a 1), .int (m 1 0), .int (m 1 1), .int (m 1 2)])), (a 1, .inl (cI, 120, .inl (m 0)))]
def loftW (cI cS : ClassId) (a : Nat → Nat) (m v w : Nat → Nat → Int32) (th t : Nat → Nat → Int32) (sh : Nat → Nat → Nat → Int32) (kf : Int32) : va_W :=
  (a 0, .inr (4, [.ref (a 1), .ref (a 11), .ref (a 21), .int kf, .ref (a 31), .ref (a 34), .ref (a 36)])) :: (millW cI (fun i => a (i + 1)) m ++ (millW cI (fun i => a (i + 11)) v ++ (millW cI (fun i => a (i + 21)) w ++ (searchW cI (fun i => a (i + 31)) th ++ (tapeW cI (fun i => a (i + 34)) t ++
  ((a 36, .inl (cS, 4, .inr (.inr (.inr (.inr (fun k => if k < 4 then some (a (37 + 2 * k)) else none)))))) :: (sheetW cI (fun i => a (i + 37)) (sh 0) ++ (sheetW cI (fun i => a (i + 39)) (sh 1) ++ (sheetW cI (fun i => a (i + 41)) (sh 2) ++ sheetW cI (fun i => a (i + 43)) (sh 3))))))))))
def modelW (cI : ClassId) (a : Nat → Nat) (m : Nat → Nat → Int32) : va_W := [(a 0, .inr (5, [.ref (a 1), .ref (a 2), .ref (a 3), .int (m 18 0), .ref (a 4), .int (m 18 1), .ref (a 5), .int (m 18 2), .int (m 18 3), .ref (a 6), .int (m 18 4), .int (m 18 5), .int (m 18 6), .ref (a 7), .ref (a 8), .int (m 18 7), .ref (a 9), .ref (a 10), .ref (a 11), .int (m 18 8), .int (m 18 9), .ref (a 12), .int (m 18 10), .int (m 18 11), .int (m 18 12), .ref (a 13), .int (m 18 13), .ref (a 14), .ref (a 15), .ref (a 16), .ref (a 17), .ref (a 18)])), (a 1, .inl (cI, 6, .inl (m 0))), (a 2, .inl (cI, 6, .inl (m 1))), (a 3, .inl (cI, 6, .inl (m 2))), (a 4, .inl (cI, 32, .inl (m 3))), (a 5, .inl (cI, 6, .inl (m 4))), (a 6, .inl (cI, 120, .inl (m 5))), (a 7, .inl (cI, 32, .inl (m 6))), (a 8, .inl (cI, 6, .inl (m 7))), (a 9, .inl (cI, 8, .inl (m 8))), (a 10, .inl (cI, 8, .inl (m 9))), (a 11, .inl (cI, 6, .inl (m 10))), (a 12, .inl (cI, 6, .inl (m 11))), (a 13, .inl (cI, 4, .inl (m 12))), (a 14, .inl (cI, 60, .inl (m 13))), (a 15, .inl (cI, 4, .inl (m 14))), (a 16, .inl (cI, 4, .inl (m 15))), (a 17, .inl (cI, 96, .inl (m 16))), (a 18, .inl (cI, 24, .inl (m 17)))]
section GON
variable {E : CX} {Q : State → Prop} {cI cS : ClassId} {own : String} {cc : ByteArray} {ret : Option FieldType} {nL cells slots pc d mc ms : Nat} {lv : List (Nat × Value)} {st : List Value} {ws : va_W}
theorem nI_imul (a b : Nat) : nI a * nI b = nI (a * b) := by
  unfold nI; exact (Int32.ofNat_mul a b).symm
theorem g_iadd_n (hE : CxOk E cI cS own cc nL ret d mc ms) {x y : Int32} {i j : Nat} (hd : decode cc pc = .ok (.iadd, 1)) (hx : x = nI i) (hy : y = nI j) (kk : Go E Q nL cells slots (pc + 1) lv (.int (nI (i + j)) :: st) ws) : Go E Q nL cells slots pc lv (.int y :: .int x :: st) ws := by
  subst hx; subst hy
  exact g_iadd hE hd (by rw [nI_add]; exact kk)
theorem g_imul_n (hE : CxOk E cI cS own cc nL ret d mc ms) {x y : Int32} {i j : Nat} (hd : decode cc pc = .ok (.imul, 1)) (hx : x = nI i) (hy : y = nI j) (kk : Go E Q nL cells slots (pc + 1) lv (.int (nI (i * j)) :: st) ws) : Go E Q nL cells slots pc lv (.int y :: .int x :: st) ws := by
  subst hx; subst hy
  exact g_imul hE hd (by rw [nI_imul]; exact kk)
theorem nI_isub {i j : Nat} (h : j ≤ i) : nI i - nI j = nI (i - j) := by
  have e : nI i = nI (i - j) + nI j := by rw [nI_add, Nat.sub_add_cancel h]
  rw [e, Int32.add_sub_cancel]
theorem g_isub_n (hE : CxOk E cI cS own cc nL ret d mc ms) {x y : Int32} {i j : Nat} (hd : decode cc pc = .ok (.isub, 1)) (hx : x = nI i) (hy : y = nI j) (h : j ≤ i) (kk : Go E Q nL cells slots (pc + 1) lv (.int (nI (i - j)) :: st) ws) : Go E Q nL cells slots pc lv (.int y :: .int x :: st) ws := by
  subst hx; subst hy
  exact g_isub hE hd (by rw [nI_isub h]; exact kk)
theorem g_iald_n (hE : CxOk E cI cS own cc nL ret d mc ms) (hd : decode cc pc = .ok (.iaload, 1)) {a n : Nat} {f : Nat → Int32} {i : Int32} {g : Nat} (q0 : Nat) (ha : ws[q0]? = some (a, .inl (cI, n, .inl f))) (hi : i = nI g) (hg : g < n) (kk : Go E Q nL cells slots (pc + 1) lv (.int (f g) :: st) ws) (hn : n < 2 ^ 31 := by decide) : Go E Q nL cells slots pc lv (.int i :: .ref a :: st) ws := by
  subst hi
  refine g_iald hE hd q0 ha (vp_in_nI hg hn) ?_
  rw [nI_clamp (by omega)]
  exact kk
theorem g_iast_n (hE : CxOk E cI cS own cc nL ret d mc ms) (hd : decode cc pc = .ok (.iastore, 1)) {a n : Nat} {f : Nat → Int32} {i x : Int32} {g : Nat} (q0 : Nat) (ha : ws[q0]? = some (a, .inl (cI, n, .inl f))) (hi : i = nI g) (hg : g < n) (ws' : va_W) (hw : ws.set q0 (a, .inl (cI, n, .inl (upd f g x))) = ws') (kk : Go E Q nL cells slots (pc + 1) lv st ws') (hn : n < 2 ^ 31 := by decide) : Go E Q nL cells slots pc lv (.int x :: .int i :: .ref a :: st) ws := by
  subst hi
  exact g_iast hE hd q0 ha (vp_in_nI hg hn) ws' (by rw [nI_clamp (by omega)]; exact hw) kk
end GON
