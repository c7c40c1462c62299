/-! MY LAYER OVER THE KIT'S ROWS: a context E, a goal 'Go' that hides the heap, the written places and the locals' array; contracts 'CT' in one form; a row an instruction, a row a call. -/
def TB : List Cond := lw_tbl.filter goodWord
theorem tb_mem (i : Nat) {w : Cond} (h : lw_tbl[i]? = some w) (hg : goodWord w = true) : w ∈ TB := List.mem_filter.mpr ⟨List.mem_of_getElem? h, hg⟩
theorem tb_good {w : Cond} (h : w ∈ TB) : (w.onTables && w.keeps) = true ∨ ∃ ty, w = .arrayClass ty := good_of_word (List.mem_filter.mp h).2
abbrev NL : List (String × Nat × MethodName × String) := [("SieveLoft", 9, ⟨"SieveLoft$Mill", "<init>", "()V"⟩, "SieveLoft"), ("SieveLoft", 28, ⟨"SieveLoft$Search", "<init>", "()V"⟩, "SieveLoft"), ("SieveLoft", 35, ⟨"SieveLoft$Tape", "<init>", "()V"⟩, "SieveLoft"), ("SieveLoft", 46, ⟨"SieveLoft$Sheet", "<init>", "()V"⟩, "SieveLoft"), ("SieveLoft$Mill", 53, ⟨"SieveLoft", "put", "([III)V"⟩, "SieveLoft"), ("SieveLoft$Tape", 19, ⟨"SieveLoft", "put", "([III)V"⟩, "SieveLoft"), ("SieveLoft$Tape", 88, ⟨"SieveLoft", "at", "([II)I"⟩, "SieveLoft"), ("SieveLoft$Tape", 71, ⟨"SieveLoft", "within", "(III)Z"⟩, "SieveLoft"), ("SieveLoft$Mill", 57, ⟨"SieveLoft", "copyAll", "([I[I)V"⟩, "SieveLoft"), ("SieveLoft$Mill", 49, ⟨"SieveLoft", "at", "([II)I"⟩, "SieveLoft"), ("SieveLoft$Search", 31, ⟨"SieveLoft", "copyAll", "([I[I)V"⟩, "SieveLoft"), ("SieveLoft$Search", 41, ⟨"SieveLoft", "at", "([II)I"⟩, "SieveLoft"), ("SieveLoft$Sheet", 32, ⟨"SieveLoft", "put", "([III)V"⟩, "SieveLoft")]
def NWs (U : State) : Prop := (∀ q ∈ NL, va_Nw (.methodLinkNest q.1 q.2.1 q.2.2.1 q.2.2.2) U) ∧ va_AO RX2 U
theorem NWs.warm {s U : State} (hW : s.WarmedH U.vm) (h : NWs s) : NWs U := ⟨fun q hq => (h.1 q hq).warmM hW, va_AO.moved hW.alike h.2⟩
theorem NWs.same {u U : State} (hv : u.vm = U.vm) (h : NWs u) : NWs U := ⟨fun q hq => (h.1 q hq).same rfl hv, va_AO.moved (by rw [hv]; exact Vm.Alike.refl U.vm) h.2⟩
abbrev TYS (cI cS : ClassId) : List (ClassId × FieldType) := [(cI, .int), (cS, .object RX2)]
def rmD (d mc ms : Nat) : Room := { frames := d, cells := mc, slots := ms, locals := 64 * d }
abbrev CX : Type := Program × Launch × Env × Room × State × MethodId × Array Value × List Frame × Method × Code × va_G × (Nat → Prop)
def Go (E : CX) (Q : State → Prop) (nL cells slots pc : Nat) (lv : List (Nat × Value)) (st : List Value) (ws : va_W) : Prop := match E with
  | (p, l, e, R, s, m, args, below, meth, c, D, A) => ∀ (H : Heap) (locs : List Loc) (ls : Array Slot), va_P D vwCl ws H → va_D A ws → va_S A s.heap H locs → lv_has ls nL lv → W p l e R s m args below meth c H locs cells slots Q (F0 m pc ls st)
def CxOk (E : CX) (cI cS : ClassId) (own : String) (cc : ByteArray) (nL : Nat) (ret : Option FieldType) (d mc ms : Nat) : Prop := match E with
  | (p, l, e, R, s, m, args, below, meth, c, D, A) => p.tables.exec = Jvm.exec ∧ c.code = cc ∧ c.maxLocals = nL ∧ s.vm.findClass own = some m.cls ∧ (∀ w ∈ TB, w.before args s = true) ∧ va_K D vwCl (TYS cI cS) s ∧ NWs s ∧ (∀ q : Nat, s.heap.size ≤ q → A q) ∧ d ≤ R.frames ∧ 64 * d ≤ R.locals ∧ mc ≤ R.cells ∧ ms ≤ R.slots ∧ meth.locks = false ∧ meth.sig.returnType = ret
def Qg {S : Type} (cI cS : ClassId) (D : va_G) (A : Nat → Prop) (P : S → Prop) (val : S → Option Value) (wr : S → va_W) : Array Value → State → Outcome → State → Prop := fun _ st oc t => (∃ u : S, oc = .returned (val u) ∧ P u ∧ va_P D vwCl (wr u) t.heap ∧ va_D A (wr u)) ∧ va_F A st t
def Bf (cI cS : ClassId) (D : va_G) (sz : Nat) (w : va_W) (U : State) : Prop := U.heap.size = sz ∧ va_P D vwCl w U.heap ∧ va_K D vwCl (TYS cI cS) U ∧ va_D (fun _ => True) w ∧ NWs U
def CT (cI cS : ClassId) (y : MethodName) (cc : ByteArray) (maxL : Nat) (ret : Option FieldType) (d : Nat) (av : List Value) (w : va_W) (mc ms : Nat) {S : Type} (P : S → Prop) (val : S → Option Value) (wr : S → va_W) : Prop :=
  ∀ (l : Launch) (D : va_G) (sz : Nat), Met l y (Cond.code y cc maxL ret :: TB) (rmD d mc ms) (va_Pc av (Bf cI cS D sz w)) (Qg cI cS D (va_A w sz) P val wr) mc ms (va_A w sz)
def EndOk {S : Type} (E : CX) (Q : State → Prop) (cI cS : ClassId) (mc ms : Nat) (P : S → Prop) (val : S → Option Value) (wr : S → va_W) : Prop := match E with
  | (p, l, e, R, s, m, args, below, meth, c, D, A) => Q = MQ below (Qg cI cS D A P val wr) args s mc ms A
/-- the constructor's name, for final fields -/
def CxIn (E : CX) : Prop := match E with
  | (p, l, e, R, s, m, args, below, meth, c, D, A) => meth.name = "<init>"
theorem ct_intro {cI cS : ClassId} {y : MethodName} {cc : ByteArray} {maxL : Nat} {ret : Option FieldType} {d : Nat} {av : List Value} {w : va_W} {mc ms : Nat} {S : Type} {P : S → Prop} {val : S → Option Value} {wr : S → va_W}
    (hy : plainName y.cls = true) (hlen : (lg_sl av).length ≤ maxL)
    (body : ∀ (E : CX) (Q : State → Prop), CxOk E cI cS y.cls cc maxL ret d mc ms → EndOk E Q cI cS mc ms P val wr → (y.name = "<init>" → CxIn E) → Go E Q maxL 0 0 0 (lv_args 0 av) [] w) : CT cI cS y cc maxL ret d av w mc ms P val wr := by
  intro l D sz
  refine Met.ofW (cc := cc) (maxL := maxL) (ret := ret) hy rfl ?_
  intro p e s m args below meth c s₁ B hml hv
  obtain ⟨rfl, hsz, hP, hK, hD0, hN⟩ := hv
  have hts := atoms_spec (ws := Cond.code y cc maxL ret :: TB) B.pre
  subst hsz
  have hD := hD0.self (sz := s.heap.size)
  have hl := lv_entry av (n := maxL) hlen
  rw [lg_entry_eq]
  exact body (p, l, e, (headSpec (Cond.code y cc maxL ret :: TB) (rmD d mc ms)).room, s, m, av.toArray, below, meth, c, D, va_A w s.heap.size) _
    ⟨B.exec, B.bytes, hml, findClass_of_methodNamed B.named, fun v hv => hts v (List.mem_cons_of_mem _ hv), hK, hN, fun q h => Or.inr h, Nat.le_refl _, Nat.le_refl _, Nat.le_refl _, Nat.le_refl _, B.notSynchronized, B.returns⟩
    rfl (fun h => (name_of_methodNamed B.named B.method).1.trans h) s.heap [] _ hP hD va_S.rf hl
section GO
variable {E : CX} {Q : State → Prop} {cI cS : ClassId} {own : String} {cc : ByteArray} {ret : Option FieldType} {nL cells slots pc d mc ms : Nat} {lv : List (Nat × Value)} {st : List Value} {ws : va_W}
theorem g_iconst (hE : CxOk E cI cS own cc nL ret d mc ms) {n : Int} (hd : decode cc pc = .ok (.iconst n, 1)) (v : Int32) (hv : Int32.ofInt n = v) (k : Go E Q nL cells slots (pc + 1) lv (.int v :: st) ws) : Go E Q nL cells slots pc lv st ws := by
  obtain ⟨p, l, e, R, s, m, args, below, meth, c, D, A⟩ := E
  intro H locs ls hP hD hS hl
  exact lv_iconst hE.1 hE.2.1 hd hv (k H locs ls hP hD hS hl)
theorem g_bipush (hE : CxOk E cI cS own cc nL ret d mc ms) {n : Int} (hd : decode cc pc = .ok (.bipush n, 2)) (v : Int32) (hv : (Int8.ofInt n).toInt32 = v) (k : Go E Q nL cells slots (pc + 2) lv (.int v :: st) ws) : Go E Q nL cells slots pc lv st ws := by
  obtain ⟨p, l, e, R, s, m, args, below, meth, c, D, A⟩ := E
  intro H locs ls hP hD hS hl
  exact lv_bipush hE.1 hE.2.1 hd hv (k H locs ls hP hD hS hl)
theorem g_sipush (hE : CxOk E cI cS own cc nL ret d mc ms) {n : Int} (hd : decode cc pc = .ok (.sipush n, 3)) (v : Int32) (hv : (Int16.ofInt n).toInt32 = v) (k : Go E Q nL cells slots (pc + 3) lv (.int v :: st) ws) : Go E Q nL cells slots pc lv st ws := by
  obtain ⟨p, l, e, R, s, m, args, below, meth, c, D, A⟩ := E
  intro H locs ls hP hD hS hl
  exact lv_sipush hE.1 hE.2.1 hd hv (k H locs ls hP hD hS hl)
theorem g_lconst (hE : CxOk E cI cS own cc nL ret d mc ms) {n : Fin 2} (hd : decode cc pc = .ok (.lconst n, 1)) (v : Int64) (hv : Int64.ofNat (n : Nat) = v) (k : Go E Q nL cells slots (pc + 1) lv (.long v :: st) ws) : Go E Q nL cells slots pc lv st ws := by
  obtain ⟨p, l, e, R, s, m, args, below, meth, c, D, A⟩ := E
  intro H locs ls hP hD hS hl
  exact lv_lconst hE.1 hE.2.1 hd hv (k H locs ls hP hD hS hl)
theorem g_ldc (hE : CxOk E cI cS own cc nL ret d mc ms) {index : Nat} {v : Int32} (hd : decode cc pc = .ok (.ldc index, 2)) (hc : Cond.constant own index v ∈ TB) (k : Go E Q nL cells slots (pc + 2) lv (.int v :: st) ws) : Go E Q nL cells slots pc lv st ws := by
  obtain ⟨p, l, e, R, s, m, args, below, meth, c, D, A⟩ := E
  obtain ⟨hx, hb, hml, hown, hts, -⟩ := hE
  intro H locs ls hP hD hS hl
  exact lv_ldc hx hb hown (hts _ hc) hd (k H locs ls hP hD hS hl)
theorem g_ldc2 (hE : CxOk E cI cS own cc nL ret d mc ms) {index : Nat} {v : Int64} (hd : decode cc pc = .ok (.ldc2_w index, 3)) (hc : Cond.constantLong own index v ∈ TB) (k : Go E Q nL cells slots (pc + 3) lv (.long v :: st) ws) : Go E Q nL cells slots pc lv st ws := by
  obtain ⟨p, l, e, R, s, m, args, below, meth, c, D, A⟩ := E
  obtain ⟨hx, hb, hml, hown, hts, -⟩ := hE
  intro H locs ls hP hD hS hl
  exact lv_ldc2 hx hb hown (hts _ hc) hd (k H locs ls hP hD hS hl)
theorem g_iload_n (hE : CxOk E cI cS own cc nL ret d mc ms) {k : Fin 4} {x : Int32} (hd : decode cc pc = .ok (.iload_n k, 1)) (j : Nat) (hl : lv[j]? = some ((k : Nat), .int x)) (kk : Go E Q nL cells slots (pc + 1) lv (.int x :: st) ws) : Go E Q nL cells slots pc lv st ws := by
  obtain ⟨p, l, e, R, s, m, args, below, meth, c, D, A⟩ := E
  intro H locs ls hP hD hS hl0
  exact lv_iload_n hE.1 hE.2.1 hd rfl (lv_at hl0 j hl) (kk H locs ls hP hD hS hl0)
theorem g_iload (hE : CxOk E cI cS own cc nL ret d mc ms) {i : Nat} {x : Int32} (hd : decode cc pc = .ok (.iload i, 2)) (j : Nat) (hl : lv[j]? = some (i, .int x)) (kk : Go E Q nL cells slots (pc + 2) lv (.int x :: st) ws) : Go E Q nL cells slots pc lv st ws := by
  obtain ⟨p, l, e, R, s, m, args, below, meth, c, D, A⟩ := E
  intro H locs ls hP hD hS hl0
  exact lv_iload hE.1 hE.2.1 hd (lv_at hl0 j hl) (kk H locs ls hP hD hS hl0)
theorem g_lload_n (hE : CxOk E cI cS own cc nL ret d mc ms) {k : Fin 4} {x : Int64} (hd : decode cc pc = .ok (.lload_n k, 1)) (j : Nat) (hl : lv[j]? = some ((k : Nat), .long x)) (kk : Go E Q nL cells slots (pc + 1) lv (.long x :: st) ws) : Go E Q nL cells slots pc lv st ws := by
  obtain ⟨p, l, e, R, s, m, args, below, meth, c, D, A⟩ := E
  intro H locs ls hP hD hS hl0
  exact lv_lload_n hE.1 hE.2.1 hd rfl (lv_at hl0 j hl) (kk H locs ls hP hD hS hl0)
theorem g_lload (hE : CxOk E cI cS own cc nL ret d mc ms) {i : Nat} {x : Int64} (hd : decode cc pc = .ok (.lload i, 2)) (j : Nat) (hl : lv[j]? = some (i, .long x)) (kk : Go E Q nL cells slots (pc + 2) lv (.long x :: st) ws) : Go E Q nL cells slots pc lv st ws := by
  obtain ⟨p, l, e, R, s, m, args, below, meth, c, D, A⟩ := E
  intro H locs ls hP hD hS hl0
  exact lv_lload hE.1 hE.2.1 hd (lv_at hl0 j hl) (kk H locs ls hP hD hS hl0)
theorem g_aload_n (hE : CxOk E cI cS own cc nL ret d mc ms) {k : Fin 4} {x : Nat} (hd : decode cc pc = .ok (.aload_n k, 1)) (j : Nat) (hl : lv[j]? = some ((k : Nat), .ref x)) (kk : Go E Q nL cells slots (pc + 1) lv (.ref x :: st) ws) : Go E Q nL cells slots pc lv st ws := by
  obtain ⟨p, l, e, R, s, m, args, below, meth, c, D, A⟩ := E
  intro H locs ls hP hD hS hl0
  exact lv_aload_n hE.1 hE.2.1 hd rfl (lv_at hl0 j hl) (kk H locs ls hP hD hS hl0)
theorem g_aload (hE : CxOk E cI cS own cc nL ret d mc ms) {i : Nat} {x : Nat} (hd : decode cc pc = .ok (.aload i, 2)) (j : Nat) (hl : lv[j]? = some (i, .ref x)) (kk : Go E Q nL cells slots (pc + 2) lv (.ref x :: st) ws) : Go E Q nL cells slots pc lv st ws := by
  obtain ⟨p, l, e, R, s, m, args, below, meth, c, D, A⟩ := E
  intro H locs ls hP hD hS hl0
  exact lv_aload hE.1 hE.2.1 hd (lv_at hl0 j hl) (kk H locs ls hP hD hS hl0)
theorem g_aload_nN (hE : CxOk E cI cS own cc nL ret d mc ms) {k : Fin 4} (hd : decode cc pc = .ok (.aload_n k, 1)) (j : Nat) (hl : lv[j]? = some ((k : Nat), .null)) (kk : Go E Q nL cells slots (pc + 1) lv (.null :: st) ws) : Go E Q nL cells slots pc lv st ws := by
  obtain ⟨p, l, e, R, s, m, args, below, meth, c, D, A⟩ := E
  intro H locs ls hP hD hS hl0
  exact lv_aload_nN hE.1 hE.2.1 hd rfl (lv_at hl0 j hl) (kk H locs ls hP hD hS hl0)
theorem g_aloadN (hE : CxOk E cI cS own cc nL ret d mc ms) {i : Nat} (hd : decode cc pc = .ok (.aload i, 2)) (j : Nat) (hl : lv[j]? = some (i, .null)) (kk : Go E Q nL cells slots (pc + 2) lv (.null :: st) ws) : Go E Q nL cells slots pc lv st ws := by
  obtain ⟨p, l, e, R, s, m, args, below, meth, c, D, A⟩ := E
  intro H locs ls hP hD hS hl0
  exact lv_aloadN hE.1 hE.2.1 hd (lv_at hl0 j hl) (kk H locs ls hP hD hS hl0)
theorem g_istore_n (hE : CxOk E cI cS own cc nL ret d mc ms) {k : Fin 4} {i : Nat} {x : Int32} (hd : decode cc pc = .ok (.istore_n k, 1)) (lv' : List (Nat × Value)) (hi : (k : Nat) = i) (hn : i < nL) (hl : (i, Value.int x) :: lv.filter (fun q => !(q.1 == i) && !(q.1 + 1 == i && q.2.category == 2)) = lv') (kk : Go E Q nL cells slots (pc + 1) lv' st ws) : Go E Q nL cells slots pc lv (.int x :: st) ws := by
  obtain ⟨p, l, e, R, s, m, args, below, meth, c, D, A⟩ := E
  intro H locs ls hP hD hS hl0
  exact lv_istore_n hE.1 hE.2.1 hd hi hl0 hn hl (fun ls' h => kk H locs ls' hP hD hS h)
theorem g_istore (hE : CxOk E cI cS own cc nL ret d mc ms) {i : Nat} {x : Int32} (hd : decode cc pc = .ok (.istore i, 2)) (lv' : List (Nat × Value)) (hn : i < nL) (hl : (i, Value.int x) :: lv.filter (fun q => !(q.1 == i) && !(q.1 + 1 == i && q.2.category == 2)) = lv') (kk : Go E Q nL cells slots (pc + 2) lv' st ws) : Go E Q nL cells slots pc lv (.int x :: st) ws := by
  obtain ⟨p, l, e, R, s, m, args, below, meth, c, D, A⟩ := E
  intro H locs ls hP hD hS hl0
  exact lv_istore hE.1 hE.2.1 hd hl0 hn hl (fun ls' h => kk H locs ls' hP hD hS h)
theorem g_lstore_n (hE : CxOk E cI cS own cc nL ret d mc ms) {k : Fin 4} {i : Nat} {x : Int64} (hd : decode cc pc = .ok (.lstore_n k, 1)) (lv' : List (Nat × Value)) (hi : (k : Nat) = i) (hn : i + 1 < nL) (hl : (i, Value.long x) :: lv.filter (fun q => !(q.1 == i) && (!(q.1 == i + 1) && !(q.1 + 1 == i && q.2.category == 2))) = lv') (kk : Go E Q nL cells slots (pc + 1) lv' st ws) : Go E Q nL cells slots pc lv (.long x :: st) ws := by
  obtain ⟨p, l, e, R, s, m, args, below, meth, c, D, A⟩ := E
  intro H locs ls hP hD hS hl0
  exact lv_lstore_n hE.1 hE.2.1 hd hi hl0 hn hl (fun ls' h => kk H locs ls' hP hD hS h)
theorem g_lstore (hE : CxOk E cI cS own cc nL ret d mc ms) {i : Nat} {x : Int64} (hd : decode cc pc = .ok (.lstore i, 2)) (lv' : List (Nat × Value)) (hn : i + 1 < nL) (hl : (i, Value.long x) :: lv.filter (fun q => !(q.1 == i) && (!(q.1 == i + 1) && !(q.1 + 1 == i && q.2.category == 2))) = lv') (kk : Go E Q nL cells slots (pc + 2) lv' st ws) : Go E Q nL cells slots pc lv (.long x :: st) ws := by
  obtain ⟨p, l, e, R, s, m, args, below, meth, c, D, A⟩ := E
  intro H locs ls hP hD hS hl0
  exact lv_lstore hE.1 hE.2.1 hd hl0 hn hl (fun ls' h => kk H locs ls' hP hD hS h)
theorem g_astore_n (hE : CxOk E cI cS own cc nL ret d mc ms) {k : Fin 4} {i : Nat} {x : Nat} (hd : decode cc pc = .ok (.astore_n k, 1)) (lv' : List (Nat × Value)) (hi : (k : Nat) = i) (hn : i < nL) (hl : (i, Value.ref x) :: lv.filter (fun q => !(q.1 == i) && !(q.1 + 1 == i && q.2.category == 2)) = lv') (kk : Go E Q nL cells slots (pc + 1) lv' st ws) : Go E Q nL cells slots pc lv (.ref x :: st) ws := by
  obtain ⟨p, l, e, R, s, m, args, below, meth, c, D, A⟩ := E
  intro H locs ls hP hD hS hl0
  exact lv_astore_n hE.1 hE.2.1 hd hi hl0 hn hl (fun ls' h => kk H locs ls' hP hD hS h)
theorem g_astore (hE : CxOk E cI cS own cc nL ret d mc ms) {i : Nat} {x : Nat} (hd : decode cc pc = .ok (.astore i, 2)) (lv' : List (Nat × Value)) (hn : i < nL) (hl : (i, Value.ref x) :: lv.filter (fun q => !(q.1 == i) && !(q.1 + 1 == i && q.2.category == 2)) = lv') (kk : Go E Q nL cells slots (pc + 2) lv' st ws) : Go E Q nL cells slots pc lv (.ref x :: st) ws := by
  obtain ⟨p, l, e, R, s, m, args, below, meth, c, D, A⟩ := E
  intro H locs ls hP hD hS hl0
  exact lv_astore hE.1 hE.2.1 hd hl0 hn hl (fun ls' h => kk H locs ls' hP hD hS h)
theorem g_astore_nN (hE : CxOk E cI cS own cc nL ret d mc ms) {k : Fin 4} {i : Nat} (hd : decode cc pc = .ok (.astore_n k, 1)) (lv' : List (Nat × Value)) (hi : (k : Nat) = i) (hn : i < nL) (hl : (i, Value.null) :: lv.filter (fun q => !(q.1 == i) && !(q.1 + 1 == i && q.2.category == 2)) = lv') (kk : Go E Q nL cells slots (pc + 1) lv' st ws) : Go E Q nL cells slots pc lv (.null :: st) ws := by
  obtain ⟨p, l, e, R, s, m, args, below, meth, c, D, A⟩ := E
  intro H locs ls hP hD hS hl0
  exact lv_astore_nN hE.1 hE.2.1 hd hi hl0 hn hl (fun ls' h => kk H locs ls' hP hD hS h)
theorem g_astoreN (hE : CxOk E cI cS own cc nL ret d mc ms) {i : Nat} (hd : decode cc pc = .ok (.astore i, 2)) (lv' : List (Nat × Value)) (hn : i < nL) (hl : (i, Value.null) :: lv.filter (fun q => !(q.1 == i) && !(q.1 + 1 == i && q.2.category == 2)) = lv') (kk : Go E Q nL cells slots (pc + 2) lv' st ws) : Go E Q nL cells slots pc lv (.null :: st) ws := by
  obtain ⟨p, l, e, R, s, m, args, below, meth, c, D, A⟩ := E
  intro H locs ls hP hD hS hl0
  exact lv_astoreN hE.1 hE.2.1 hd hl0 hn hl (fun ls' h => kk H locs ls' hP hD hS h)
theorem g_iinc (hE : CxOk E cI cS own cc nL ret d mc ms) {i : Nat} {n : Int} {x : Int32} (hd : decode cc pc = .ok (.iinc i n, 3)) (k : Nat) (v : Int32) (lv' : List (Nat × Value)) (hk : lv[k]? = some (i, .int x)) (hv : x + Int32.ofInt n = v) (hn : i < nL) (hl : (i, Value.int v) :: lv.filter (fun q => !(q.1 == i) && !(q.1 + 1 == i && q.2.category == 2)) = lv') (kk : Go E Q nL cells slots (pc + 3) lv' st ws) : Go E Q nL cells slots pc lv st ws := by
  obtain ⟨p, l, e, R, s, m, args, below, meth, c, D, A⟩ := E
  intro H locs ls hP hD hS hl0
  exact lv_iinc hE.1 hE.2.1 hd hl0 hk hv hn hl (fun ls' h => kk H locs ls' hP hD hS h)
theorem g_iadd (hE : CxOk E cI cS own cc nL ret d mc ms) {x y : Int32} (hd : decode cc pc = .ok (.iadd, 1)) (kk : Go E Q nL cells slots (pc + 1) lv (.int (x + y) :: st) ws) : Go E Q nL cells slots pc lv (.int y :: .int x :: st) ws := by
  obtain ⟨p, l, e, R, s, m, args, below, meth, c, D, A⟩ := E
  intro H locs ls hP hD hS hl0
  exact lv_iadd hE.1 hE.2.1 hd (kk H locs ls hP hD hS hl0)
theorem g_isub (hE : CxOk E cI cS own cc nL ret d mc ms) {x y : Int32} (hd : decode cc pc = .ok (.isub, 1)) (kk : Go E Q nL cells slots (pc + 1) lv (.int (x - y) :: st) ws) : Go E Q nL cells slots pc lv (.int y :: .int x :: st) ws := by
  obtain ⟨p, l, e, R, s, m, args, below, meth, c, D, A⟩ := E
  intro H locs ls hP hD hS hl0
  exact lv_isub hE.1 hE.2.1 hd (kk H locs ls hP hD hS hl0)
theorem g_imul (hE : CxOk E cI cS own cc nL ret d mc ms) {x y : Int32} (hd : decode cc pc = .ok (.imul, 1)) (kk : Go E Q nL cells slots (pc + 1) lv (.int (x * y) :: st) ws) : Go E Q nL cells slots pc lv (.int y :: .int x :: st) ws := by
  obtain ⟨p, l, e, R, s, m, args, below, meth, c, D, A⟩ := E
  intro H locs ls hP hD hS hl0
  exact lv_imul hE.1 hE.2.1 hd (kk H locs ls hP hD hS hl0)
theorem g_iand (hE : CxOk E cI cS own cc nL ret d mc ms) {x y : Int32} (hd : decode cc pc = .ok (.iand, 1)) (kk : Go E Q nL cells slots (pc + 1) lv (.int (x &&& y) :: st) ws) : Go E Q nL cells slots pc lv (.int y :: .int x :: st) ws := by
  obtain ⟨p, l, e, R, s, m, args, below, meth, c, D, A⟩ := E
  intro H locs ls hP hD hS hl0
  exact lv_iand hE.1 hE.2.1 hd (kk H locs ls hP hD hS hl0)
theorem g_ior (hE : CxOk E cI cS own cc nL ret d mc ms) {x y : Int32} (hd : decode cc pc = .ok (.ior, 1)) (kk : Go E Q nL cells slots (pc + 1) lv (.int (x ||| y) :: st) ws) : Go E Q nL cells slots pc lv (.int y :: .int x :: st) ws := by
  obtain ⟨p, l, e, R, s, m, args, below, meth, c, D, A⟩ := E
  intro H locs ls hP hD hS hl0
  exact lv_ior hE.1 hE.2.1 hd (kk H locs ls hP hD hS hl0)
theorem g_ixor (hE : CxOk E cI cS own cc nL ret d mc ms) {x y : Int32} (hd : decode cc pc = .ok (.ixor, 1)) (kk : Go E Q nL cells slots (pc + 1) lv (.int (x ^^^ y) :: st) ws) : Go E Q nL cells slots pc lv (.int y :: .int x :: st) ws := by
  obtain ⟨p, l, e, R, s, m, args, below, meth, c, D, A⟩ := E
  intro H locs ls hP hD hS hl0
  exact lv_ixor hE.1 hE.2.1 hd (kk H locs ls hP hD hS hl0)
theorem g_ishl (hE : CxOk E cI cS own cc nL ret d mc ms) {x y : Int32} (hd : decode cc pc = .ok (.ishl, 1)) (kk : Go E Q nL cells slots (pc + 1) lv (.int (x <<< (y &&& 31)) :: st) ws) : Go E Q nL cells slots pc lv (.int y :: .int x :: st) ws := by
  obtain ⟨p, l, e, R, s, m, args, below, meth, c, D, A⟩ := E
  intro H locs ls hP hD hS hl0
  exact lv_ishl hE.1 hE.2.1 hd (kk H locs ls hP hD hS hl0)
theorem g_ishr (hE : CxOk E cI cS own cc nL ret d mc ms) {x y : Int32} (hd : decode cc pc = .ok (.ishr, 1)) (kk : Go E Q nL cells slots (pc + 1) lv (.int (x >>> (y &&& 31)) :: st) ws) : Go E Q nL cells slots pc lv (.int y :: .int x :: st) ws := by
  obtain ⟨p, l, e, R, s, m, args, below, meth, c, D, A⟩ := E
  intro H locs ls hP hD hS hl0
  exact lv_ishr hE.1 hE.2.1 hd (kk H locs ls hP hD hS hl0)
theorem g_idiv (hE : CxOk E cI cS own cc nL ret d mc ms) {x y : Int32} (hd : decode cc pc = .ok (.idiv, 1)) (hne : ¬ y = 0) (kk : Go E Q nL cells slots (pc + 1) lv (.int (x / y) :: st) ws) : Go E Q nL cells slots pc lv (.int y :: .int x :: st) ws := by
  obtain ⟨p, l, e, R, s, m, args, below, meth, c, D, A⟩ := E
  intro H locs ls hP hD hS hl0
  exact lv_idiv hE.1 hE.2.1 hd hne (kk H locs ls hP hD hS hl0)
theorem g_irem (hE : CxOk E cI cS own cc nL ret d mc ms) {x y : Int32} (hd : decode cc pc = .ok (.irem, 1)) (hne : ¬ y = 0) (kk : Go E Q nL cells slots (pc + 1) lv (.int (x - x / y * y) :: st) ws) : Go E Q nL cells slots pc lv (.int y :: .int x :: st) ws := by
  obtain ⟨p, l, e, R, s, m, args, below, meth, c, D, A⟩ := E
  intro H locs ls hP hD hS hl0
  exact lv_irem hE.1 hE.2.1 hd hne (kk H locs ls hP hD hS hl0)
theorem g_lsub (hE : CxOk E cI cS own cc nL ret d mc ms) {x y : Int64} (hd : decode cc pc = .ok (.lsub, 1)) (kk : Go E Q nL cells slots (pc + 1) lv (.long (x - y) :: st) ws) : Go E Q nL cells slots pc lv (.long y :: .long x :: st) ws := by
  obtain ⟨p, l, e, R, s, m, args, below, meth, c, D, A⟩ := E
  intro H locs ls hP hD hS hl0
  exact lv_lsub hE.1 hE.2.1 hd (kk H locs ls hP hD hS hl0)
theorem g_land (hE : CxOk E cI cS own cc nL ret d mc ms) {x y : Int64} (hd : decode cc pc = .ok (.land, 1)) (kk : Go E Q nL cells slots (pc + 1) lv (.long (x &&& y) :: st) ws) : Go E Q nL cells slots pc lv (.long y :: .long x :: st) ws := by
  obtain ⟨p, l, e, R, s, m, args, below, meth, c, D, A⟩ := E
  intro H locs ls hP hD hS hl0
  exact lv_land hE.1 hE.2.1 hd (kk H locs ls hP hD hS hl0)
theorem g_lor (hE : CxOk E cI cS own cc nL ret d mc ms) {x y : Int64} (hd : decode cc pc = .ok (.lor, 1)) (kk : Go E Q nL cells slots (pc + 1) lv (.long (x ||| y) :: st) ws) : Go E Q nL cells slots pc lv (.long y :: .long x :: st) ws := by
  obtain ⟨p, l, e, R, s, m, args, below, meth, c, D, A⟩ := E
  intro H locs ls hP hD hS hl0
  exact lv_lor hE.1 hE.2.1 hd (kk H locs ls hP hD hS hl0)
theorem g_i2l (hE : CxOk E cI cS own cc nL ret d mc ms) {x : Int32} (hd : decode cc pc = .ok (.i2l, 1)) (kk : Go E Q nL cells slots (pc + 1) lv (.long x.toInt64 :: st) ws) : Go E Q nL cells slots pc lv (.int x :: st) ws := by
  obtain ⟨p, l, e, R, s, m, args, below, meth, c, D, A⟩ := E
  intro H locs ls hP hD hS hl0
  exact lv_i2l hE.1 hE.2.1 hd rfl (kk H locs ls hP hD hS hl0)
theorem g_l2i (hE : CxOk E cI cS own cc nL ret d mc ms) {x : Int64} (hd : decode cc pc = .ok (.l2i, 1)) (kk : Go E Q nL cells slots (pc + 1) lv (.int x.toInt32 :: st) ws) : Go E Q nL cells slots pc lv (.long x :: st) ws := by
  obtain ⟨p, l, e, R, s, m, args, below, meth, c, D, A⟩ := E
  intro H locs ls hP hD hS hl0
  exact lv_l2i hE.1 hE.2.1 hd rfl (kk H locs ls hP hD hS hl0)
theorem g_i2b (hE : CxOk E cI cS own cc nL ret d mc ms) {x : Int32} (hd : decode cc pc = .ok (.i2b, 1)) (kk : Go E Q nL cells slots (pc + 1) lv (.int x.toInt8.toInt32 :: st) ws) : Go E Q nL cells slots pc lv (.int x :: st) ws := by
  obtain ⟨p, l, e, R, s, m, args, below, meth, c, D, A⟩ := E
  intro H locs ls hP hD hS hl0
  exact lv_i2b hE.1 hE.2.1 hd rfl (kk H locs ls hP hD hS hl0)
theorem g_i2s (hE : CxOk E cI cS own cc nL ret d mc ms) {x : Int32} (hd : decode cc pc = .ok (.i2s, 1)) (kk : Go E Q nL cells slots (pc + 1) lv (.int x.toInt16.toInt32 :: st) ws) : Go E Q nL cells slots pc lv (.int x :: st) ws := by
  obtain ⟨p, l, e, R, s, m, args, below, meth, c, D, A⟩ := E
  intro H locs ls hP hD hS hl0
  exact lv_i2s hE.1 hE.2.1 hd rfl (kk H locs ls hP hD hS hl0)
theorem g_lshl (hE : CxOk E cI cS own cc nL ret d mc ms) {x : Int64} {y : Int32} (hd : decode cc pc = .ok (.lshl, 1)) (kk : Go E Q nL cells slots (pc + 1) lv (.long (x <<< (y.toInt64 &&& 63)) :: st) ws) : Go E Q nL cells slots pc lv (.int y :: .long x :: st) ws := by
  obtain ⟨p, l, e, R, s, m, args, below, meth, c, D, A⟩ := E
  intro H locs ls hP hD hS hl0
  exact lv_lshl hE.1 hE.2.1 hd rfl (kk H locs ls hP hD hS hl0)
theorem g_lshr (hE : CxOk E cI cS own cc nL ret d mc ms) {x : Int64} {y : Int32} (hd : decode cc pc = .ok (.lshr, 1)) (kk : Go E Q nL cells slots (pc + 1) lv (.long (x >>> (y.toInt64 &&& 63)) :: st) ws) : Go E Q nL cells slots pc lv (.int y :: .long x :: st) ws := by
  obtain ⟨p, l, e, R, s, m, args, below, meth, c, D, A⟩ := E
  intro H locs ls hP hD hS hl0
  exact lv_lshr hE.1 hE.2.1 hd rfl (kk H locs ls hP hD hS hl0)
theorem g_iushr (hE : CxOk E cI cS own cc nL ret d mc ms) {x y : Int32} (hd : decode cc pc = .ok (.iushr, 1)) (kk : Go E Q nL cells slots (pc + 1) lv (.int ((x.toUInt32 >>> (y.toUInt32 &&& Int32.toUInt32 31)).toInt32) :: st) ws) : Go E Q nL cells slots pc lv (.int y :: .int x :: st) ws := by
  obtain ⟨p, l, e, R, s, m, args, below, meth, c, D, A⟩ := E
  intro H locs ls hP hD hS hl0
  exact lv_iushr hE.1 hE.2.1 hd rfl (kk H locs ls hP hD hS hl0)
theorem g_lcmp (hE : CxOk E cI cS own cc nL ret d mc ms) {x y : Int64} (hd : decode cc pc = .ok (.lcmp, 1)) (kk : Go E Q nL cells slots (pc + 1) lv (.int (lg_cmp x y) :: st) ws) : Go E Q nL cells slots pc lv (.long y :: .long x :: st) ws := by
  obtain ⟨p, l, e, R, s, m, args, below, meth, c, D, A⟩ := E
  intro H locs ls hP hD hS hl0
  exact W.lcmp hE.1 hE.2.1 hd (kk H locs ls hP hD hS hl0)
theorem g_ldcw (hE : CxOk E cI cS own cc nL ret d mc ms) {index : Nat} {v : Int32} (hd : decode cc pc = .ok (.ldc_w index, 3)) (hc : Cond.constant own index v ∈ TB) (kk : Go E Q nL cells slots (pc + 3) lv (.int v :: st) ws) : Go E Q nL cells slots pc lv st ws := by
  obtain ⟨p, l, e, R, s, m, args, below, meth, c, D, A⟩ := E
  obtain ⟨hx, hb, hml, hown, hts, -⟩ := hE
  intro H locs ls hP hD hS hl
  exact lv_ldcw hx hb hown (hts _ hc) hd (kk H locs ls hP hD hS hl)
theorem g_if_eq (hE : CxOk E cI cS own cc nL ret d mc ms) {x : Int32} {off : Int} (tgt : Nat) (hd : decode cc pc = .ok (.ifCond .eq off, 3)) (ht : (pc : Int) + off = (tgt : Int)) (kt : x = 0 → Go E Q nL cells slots tgt lv st ws) (kf : ¬ x = 0 → Go E Q nL cells slots (pc + 3) lv st ws) : Go E Q nL cells slots pc lv (.int x :: st) ws := by
  obtain ⟨p, l, e, R, s, m, args, below, meth, c, D, A⟩ := E
  intro H locs ls hP hD hS hl0
  exact lv_if_eq hE.1 hE.2.1 hd ht (fun h => kt h H locs ls hP hD hS hl0) (fun h => kf h H locs ls hP hD hS hl0)
theorem g_icmp_eq (hE : CxOk E cI cS own cc nL ret d mc ms) {x y : Int32} {off : Int} (tgt : Nat) (hd : decode cc pc = .ok (.if_icmp .eq off, 3)) (ht : (pc : Int) + off = (tgt : Int)) (kt : x = y → Go E Q nL cells slots tgt lv st ws) (kf : ¬ x = y → Go E Q nL cells slots (pc + 3) lv st ws) : Go E Q nL cells slots pc lv (.int y :: .int x :: st) ws := by
  obtain ⟨p, l, e, R, s, m, args, below, meth, c, D, A⟩ := E
  intro H locs ls hP hD hS hl0
  exact lv_icmp_eq hE.1 hE.2.1 hd ht (fun h => kt h H locs ls hP hD hS hl0) (fun h => kf h H locs ls hP hD hS hl0)
theorem g_if_ne (hE : CxOk E cI cS own cc nL ret d mc ms) {x : Int32} {off : Int} (tgt : Nat) (hd : decode cc pc = .ok (.ifCond .ne off, 3)) (ht : (pc : Int) + off = (tgt : Int)) (kt : ¬ x = 0 → Go E Q nL cells slots tgt lv st ws) (kf : x = 0 → Go E Q nL cells slots (pc + 3) lv st ws) : Go E Q nL cells slots pc lv (.int x :: st) ws := by
  obtain ⟨p, l, e, R, s, m, args, below, meth, c, D, A⟩ := E
  intro H locs ls hP hD hS hl0
  exact lv_if_ne hE.1 hE.2.1 hd ht (fun h => kt h H locs ls hP hD hS hl0) (fun h => kf h H locs ls hP hD hS hl0)
theorem g_icmp_ne (hE : CxOk E cI cS own cc nL ret d mc ms) {x y : Int32} {off : Int} (tgt : Nat) (hd : decode cc pc = .ok (.if_icmp .ne off, 3)) (ht : (pc : Int) + off = (tgt : Int)) (kt : ¬ x = y → Go E Q nL cells slots tgt lv st ws) (kf : x = y → Go E Q nL cells slots (pc + 3) lv st ws) : Go E Q nL cells slots pc lv (.int y :: .int x :: st) ws := by
  obtain ⟨p, l, e, R, s, m, args, below, meth, c, D, A⟩ := E
  intro H locs ls hP hD hS hl0
  exact lv_icmp_ne hE.1 hE.2.1 hd ht (fun h => kt h H locs ls hP hD hS hl0) (fun h => kf h H locs ls hP hD hS hl0)
theorem g_if_lt (hE : CxOk E cI cS own cc nL ret d mc ms) {x : Int32} {off : Int} (tgt : Nat) (hd : decode cc pc = .ok (.ifCond .lt off, 3)) (ht : (pc : Int) + off = (tgt : Int)) (kt : x < 0 → Go E Q nL cells slots tgt lv st ws) (kf : ¬ x < 0 → Go E Q nL cells slots (pc + 3) lv st ws) : Go E Q nL cells slots pc lv (.int x :: st) ws := by
  obtain ⟨p, l, e, R, s, m, args, below, meth, c, D, A⟩ := E
  intro H locs ls hP hD hS hl0
  exact lv_if_lt hE.1 hE.2.1 hd ht (fun h => kt h H locs ls hP hD hS hl0) (fun h => kf h H locs ls hP hD hS hl0)
theorem g_icmp_lt (hE : CxOk E cI cS own cc nL ret d mc ms) {x y : Int32} {off : Int} (tgt : Nat) (hd : decode cc pc = .ok (.if_icmp .lt off, 3)) (ht : (pc : Int) + off = (tgt : Int)) (kt : x < y → Go E Q nL cells slots tgt lv st ws) (kf : ¬ x < y → Go E Q nL cells slots (pc + 3) lv st ws) : Go E Q nL cells slots pc lv (.int y :: .int x :: st) ws := by
  obtain ⟨p, l, e, R, s, m, args, below, meth, c, D, A⟩ := E
  intro H locs ls hP hD hS hl0
  exact lv_icmp_lt hE.1 hE.2.1 hd ht (fun h => kt h H locs ls hP hD hS hl0) (fun h => kf h H locs ls hP hD hS hl0)
theorem g_if_ge (hE : CxOk E cI cS own cc nL ret d mc ms) {x : Int32} {off : Int} (tgt : Nat) (hd : decode cc pc = .ok (.ifCond .ge off, 3)) (ht : (pc : Int) + off = (tgt : Int)) (kt : 0 ≤ x → Go E Q nL cells slots tgt lv st ws) (kf : ¬ 0 ≤ x → Go E Q nL cells slots (pc + 3) lv st ws) : Go E Q nL cells slots pc lv (.int x :: st) ws := by
  obtain ⟨p, l, e, R, s, m, args, below, meth, c, D, A⟩ := E
  intro H locs ls hP hD hS hl0
  exact lv_if_ge hE.1 hE.2.1 hd ht (fun h => kt h H locs ls hP hD hS hl0) (fun h => kf h H locs ls hP hD hS hl0)
theorem g_icmp_ge (hE : CxOk E cI cS own cc nL ret d mc ms) {x y : Int32} {off : Int} (tgt : Nat) (hd : decode cc pc = .ok (.if_icmp .ge off, 3)) (ht : (pc : Int) + off = (tgt : Int)) (kt : y ≤ x → Go E Q nL cells slots tgt lv st ws) (kf : ¬ y ≤ x → Go E Q nL cells slots (pc + 3) lv st ws) : Go E Q nL cells slots pc lv (.int y :: .int x :: st) ws := by
  obtain ⟨p, l, e, R, s, m, args, below, meth, c, D, A⟩ := E
  intro H locs ls hP hD hS hl0
  exact lv_icmp_ge hE.1 hE.2.1 hd ht (fun h => kt h H locs ls hP hD hS hl0) (fun h => kf h H locs ls hP hD hS hl0)
theorem g_if_gt (hE : CxOk E cI cS own cc nL ret d mc ms) {x : Int32} {off : Int} (tgt : Nat) (hd : decode cc pc = .ok (.ifCond .gt off, 3)) (ht : (pc : Int) + off = (tgt : Int)) (kt : 0 < x → Go E Q nL cells slots tgt lv st ws) (kf : ¬ 0 < x → Go E Q nL cells slots (pc + 3) lv st ws) : Go E Q nL cells slots pc lv (.int x :: st) ws := by
  obtain ⟨p, l, e, R, s, m, args, below, meth, c, D, A⟩ := E
  intro H locs ls hP hD hS hl0
  exact lv_if_gt hE.1 hE.2.1 hd ht (fun h => kt h H locs ls hP hD hS hl0) (fun h => kf h H locs ls hP hD hS hl0)
theorem g_icmp_gt (hE : CxOk E cI cS own cc nL ret d mc ms) {x y : Int32} {off : Int} (tgt : Nat) (hd : decode cc pc = .ok (.if_icmp .gt off, 3)) (ht : (pc : Int) + off = (tgt : Int)) (kt : y < x → Go E Q nL cells slots tgt lv st ws) (kf : ¬ y < x → Go E Q nL cells slots (pc + 3) lv st ws) : Go E Q nL cells slots pc lv (.int y :: .int x :: st) ws := by
  obtain ⟨p, l, e, R, s, m, args, below, meth, c, D, A⟩ := E
  intro H locs ls hP hD hS hl0
  exact lv_icmp_gt hE.1 hE.2.1 hd ht (fun h => kt h H locs ls hP hD hS hl0) (fun h => kf h H locs ls hP hD hS hl0)
theorem g_if_le (hE : CxOk E cI cS own cc nL ret d mc ms) {x : Int32} {off : Int} (tgt : Nat) (hd : decode cc pc = .ok (.ifCond .le off, 3)) (ht : (pc : Int) + off = (tgt : Int)) (kt : x ≤ 0 → Go E Q nL cells slots tgt lv st ws) (kf : ¬ x ≤ 0 → Go E Q nL cells slots (pc + 3) lv st ws) : Go E Q nL cells slots pc lv (.int x :: st) ws := by
  obtain ⟨p, l, e, R, s, m, args, below, meth, c, D, A⟩ := E
  intro H locs ls hP hD hS hl0
  exact lv_if_le hE.1 hE.2.1 hd ht (fun h => kt h H locs ls hP hD hS hl0) (fun h => kf h H locs ls hP hD hS hl0)
theorem g_icmp_le (hE : CxOk E cI cS own cc nL ret d mc ms) {x y : Int32} {off : Int} (tgt : Nat) (hd : decode cc pc = .ok (.if_icmp .le off, 3)) (ht : (pc : Int) + off = (tgt : Int)) (kt : x ≤ y → Go E Q nL cells slots tgt lv st ws) (kf : ¬ x ≤ y → Go E Q nL cells slots (pc + 3) lv st ws) : Go E Q nL cells slots pc lv (.int y :: .int x :: st) ws := by
  obtain ⟨p, l, e, R, s, m, args, below, meth, c, D, A⟩ := E
  intro H locs ls hP hD hS hl0
  exact lv_icmp_le hE.1 hE.2.1 hd ht (fun h => kt h H locs ls hP hD hS hl0) (fun h => kf h H locs ls hP hD hS hl0)
theorem g_goto (hE : CxOk E cI cS own cc nL ret d mc ms) {off : Int} (tgt : Nat) (hd : decode cc pc = .ok (.goto off, 3)) (ht : (pc : Int) + off = (tgt : Int)) (kk : Go E Q nL cells slots tgt lv st ws) : Go E Q nL cells slots pc lv st ws := by
  obtain ⟨p, l, e, R, s, m, args, below, meth, c, D, A⟩ := E
  intro H locs ls hP hD hS hl
  exact lv_goto hE.1 hE.2.1 hd ht (kk H locs ls hP hD hS hl)
theorem g_ifnull (hE : CxOk E cI cS own cc nL ret d mc ms) {x : Nat} {off : Int} (hd : decode cc pc = .ok (.ifnull off, 3)) (kk : Go E Q nL cells slots (pc + 3) lv st ws) : Go E Q nL cells slots pc lv (.ref x :: st) ws := by
  obtain ⟨p, l, e, R, s, m, args, below, meth, c, D, A⟩ := E
  intro H locs ls hP hD hS hl
  exact lv_ifnull hE.1 hE.2.1 hd (kk H locs ls hP hD hS hl)
theorem g_ifnullN (hE : CxOk E cI cS own cc nL ret d mc ms) {off : Int} (tgt : Nat) (hd : decode cc pc = .ok (.ifnull off, 3)) (ht : (pc : Int) + off = (tgt : Int)) (kk : Go E Q nL cells slots tgt lv st ws) : Go E Q nL cells slots pc lv (.null :: st) ws := by
  obtain ⟨p, l, e, R, s, m, args, below, meth, c, D, A⟩ := E
  intro H locs ls hP hD hS hl
  exact lv_ifnullN hE.1 hE.2.1 hd ht (kk H locs ls hP hD hS hl)
theorem g_ifnonnull (hE : CxOk E cI cS own cc nL ret d mc ms) {x : Nat} {off : Int} (tgt : Nat) (hd : decode cc pc = .ok (.ifnonnull off, 3)) (ht : (pc : Int) + off = (tgt : Int)) (kk : Go E Q nL cells slots tgt lv st ws) : Go E Q nL cells slots pc lv (.ref x :: st) ws := by
  obtain ⟨p, l, e, R, s, m, args, below, meth, c, D, A⟩ := E
  intro H locs ls hP hD hS hl
  exact lv_ifnonnull hE.1 hE.2.1 hd ht (kk H locs ls hP hD hS hl)
theorem g_ifnonnullN (hE : CxOk E cI cS own cc nL ret d mc ms) {off : Int} (hd : decode cc pc = .ok (.ifnonnull off, 3)) (kk : Go E Q nL cells slots (pc + 3) lv st ws) : Go E Q nL cells slots pc lv (.null :: st) ws := by
  obtain ⟨p, l, e, R, s, m, args, below, meth, c, D, A⟩ := E
  intro H locs ls hP hD hS hl
  exact lv_ifnonnullN hE.1 hE.2.1 hd (kk H locs ls hP hD hS hl)
theorem g_null (hE : CxOk E cI cS own cc nL ret d mc ms) (hd : decode cc pc = .ok (.aconst_null, 1)) (kk : Go E Q nL cells slots (pc + 1) lv (.null :: st) ws) : Go E Q nL cells slots pc lv st ws := by
  obtain ⟨p, l, e, R, s, m, args, below, meth, c, D, A⟩ := E
  intro H locs ls hP hD hS hl
  exact lv_null hE.1 hE.2.1 hd (kk H locs ls hP hD hS hl)
theorem g_dup (hE : CxOk E cI cS own cc nL ret d mc ms) {v : Value} (hd : decode cc pc = .ok (.dup, 1)) (hc : v.category = 1) (kk : Go E Q nL cells slots (pc + 1) lv (v :: v :: st) ws) : Go E Q nL cells slots pc lv (v :: st) ws := by
  obtain ⟨p, l, e, R, s, m, args, below, meth, c, D, A⟩ := E
  intro H locs ls hP hD hS hl
  exact lv_dup hE.1 hE.2.1 hd hc (kk H locs ls hP hD hS hl)
theorem g_dup2 (hE : CxOk E cI cS own cc nL ret d mc ms) {v w : Value} (hd : decode cc pc = .ok (.dup2, 1)) (hc : v.category = 1) (hw : w.category = 1) (kk : Go E Q nL cells slots (pc + 1) lv (v :: w :: v :: w :: st) ws) : Go E Q nL cells slots pc lv (v :: w :: st) ws := by
  obtain ⟨p, l, e, R, s, m, args, below, meth, c, D, A⟩ := E
  intro H locs ls hP hD hS hl
  exact lv_dup2_11 hE.1 hE.2.1 hd hc hw (kk H locs ls hP hD hS hl)
theorem g_pop (hE : CxOk E cI cS own cc nL ret d mc ms) {v : Value} (hd : decode cc pc = .ok (.pop, 1)) (hc : v.category = 1) (kk : Go E Q nL cells slots (pc + 1) lv st ws) : Go E Q nL cells slots pc lv (v :: st) ws := by
  obtain ⟨p, l, e, R, s, m, args, below, meth, c, D, A⟩ := E
  intro H locs ls hP hD hS hl
  exact lv_pop hE.1 hE.2.1 hd hc (kk H locs ls hP hD hS hl)
/-- a switch over lo .. hi: one goal for each number, one for all others -/
theorem g_sw (hE : CxOk E cI cS own cc nL ret d mc ms) {dflt lo hi : Int} {offs : Array Int} {len : Nat} {x : Int32} (hd : decode cc pc = .ok (.tableswitch dflt lo hi offs, len)) (td : Nat) (tg : Nat → Nat) (htd : (pc : Int) + dflt = (td : Int)) (n : Nat) (hn : hi - lo + 1 = n)
    (ho : ∀ j, j < n → ∃ o, offs[j]? = some o ∧ (pc : Int) + o = (tg j : Int)) (kd : (x.toInt < lo ∨ hi < x.toInt) → Go E Q nL cells slots td lv st ws) (kk : ∀ j : Nat, j < n → x.toInt = lo + j → Go E Q nL cells slots (tg j) lv st ws) : Go E Q nL cells slots pc lv (.int x :: st) ws := by
  obtain ⟨p, l, e, R, s, m, args, below, meth, c, D, A⟩ := E
  intro H locs ls hP hD hS hl
  by_cases h : x.toInt < lo ∨ hi < x.toInt
  · exact lv_tableOut hE.1 hE.2.1 hd h htd (kd h H locs ls hP hD hS hl)
  · have h1 : ¬ x.toInt < lo := fun q => h (Or.inl q)
    have h2 : ¬ hi < x.toInt := fun q => h (Or.inr q)
    obtain ⟨o, e1, e2⟩ := ho (x.toInt - lo).toNat (by omega)
    exact lv_tableIn hE.1 hE.2.1 hd h1 h2 e1 e2 (kk (x.toInt - lo).toNat (by omega) (by omega) H locs ls hP hD hS hl)
-- the heap
/-- a field that a class' code names by its pool's place: which kind of object, which slot -/
def FL (own : String) (index ci k : Nat) : Prop := ∃ (C : String) (T : u_T) (N : Nat), vwCl[ci]? = some (C, T, N) ∧ k < N ∧ (∀ w ∈ u_ws C T N, w ∈ TB) ∧ Cond.fieldLink own index (T k).1 (T k).2.1 (T k).2.2.1 ∈ TB
def FP (ci k : Nat) (fin : Bool) (ty : FieldType) : Prop := ∃ (C : String) (T : u_T) (N : Nat) (ty0 : Nat → FieldType), vwCl[ci]? = some (C, T, N) ∧ (∀ k, k < N → parseFieldDescriptor (T k).2.2.1 = some (ty0 k)) ∧ (∀ a, a < N → ∀ b, b < N → a ≠ b → (T a).2.1 ≠ (T b).2.1) ∧ (T k).2.2.2 = fin ∧ parseFieldDescriptor (T k).2.2.1 = some ty
theorem g_get (hE : CxOk E cI cS own cc nL ret d mc ms) {index ci k : Nat} (hf : FL own index ci k) (hd : decode cc pc = .ok (.getfield index, 3)) {a : Nat} {fs : List Value} {v : Value} (q0 : Nat) (he : ws[q0]? = some (a, .inr (ci, fs))) (hv : fs[k]? = some v) (kk : Go E Q nL cells slots (pc + 3) lv (v :: st) ws) : Go E Q nL cells slots pc lv (.ref a :: st) ws := by
  obtain ⟨p, l, e, R, s, m, args, below, meth, c, D, A⟩ := E
  obtain ⟨hx, hb, hml, hown, hts, hK, -⟩ := hE
  obtain ⟨C, T, N, hc, hk, hin, hlk⟩ := hf
  intro H locs ls hP hD hS hl
  exact va_get hx hb hts hin hown hK hP q0 he hc k hk (hts _ hlk) (fun _ h9 => h9) hv hd (kk H locs ls hP hD hS hl)
theorem g_put (hE : CxOk E cI cS own cc nL ret d mc ms) {index ci k : Nat} {ty : FieldType} (hf : FL own index ci k) (hp : FP ci k false ty) (hd : decode cc pc = .ok (.putfield index, 3)) {a : Nat} {fs : List Value} {v : Value} (q0 : Nat) (he : ws[q0]? = some (a, .inr (ci, fs))) (hn : narrow ty v = v) (hfit : fits ty v = true) (hl : k < fs.length) (ws' : va_W) (hw : ws.set q0 (a, .inr (ci, fs.set k v)) = ws') (kk : Go E Q nL cells slots (pc + 3) lv st ws') : Go E Q nL cells slots pc lv (v :: .ref a :: st) ws := by
  obtain ⟨p, l, e, R, s, m, args, below, meth, c, D, A⟩ := E
  obtain ⟨hx, hb, hml, hown, hts, hK, -⟩ := hE
  obtain ⟨C, T, N, hc, hk, hin, hlk⟩ := hf
  obtain ⟨C', T', N', ty0, hc', hty, hnm, hfin, hpd⟩ := hp
  rw [hc] at hc'
  cases hc'
  subst hw
  intro H locs ls hP hD hS hl0
  exact va_put hx hb hts hin ty0 hty hnm hown hK hP hD hS q0 he hc k hk (hts _ hlk) (fun _ h9 => h9) hfin hpd hn hfit hl hd (fun H1 locs1 hP hD hS => kk H1 locs1 ls hP hD hS hl0)
theorem g_putF (hE : CxOk E cI cS own cc nL ret d mc ms) (hI : CxIn E) {index ci k : Nat} {ty : FieldType} (hf : FL own index ci k) (hp : FP ci k true ty) (ho : ∀ C T N, vwCl[ci]? = some (C, T, N) → (T k).1 = own) (hd : decode cc pc = .ok (.putfield index, 3)) {a : Nat} {fs : List Value} {v : Value} (q0 : Nat) (he : ws[q0]? = some (a, .inr (ci, fs))) (hn : narrow ty v = v) (hfit : fits ty v = true) (hl : k < fs.length) (ws' : va_W) (hw : ws.set q0 (a, .inr (ci, fs.set k v)) = ws') (kk : Go E Q nL cells slots (pc + 3) lv st ws') : Go E Q nL cells slots pc lv (v :: .ref a :: st) ws := by
  obtain ⟨p, l, e, R, s, m, args, below, meth, c, D, A⟩ := E
  obtain ⟨hx, hb, hml, hown, hts, hK, -⟩ := hE
  obtain ⟨C, T, N, hc, hk, hin, hlk⟩ := hf
  obtain ⟨C', T', N', ty0, hc', hty, hnm, hfin, hpd⟩ := hp
  rw [hc] at hc'
  cases hc'
  subst hw
  intro H locs ls hP hD hS hl0
  exact va_putF hx hb hts hin ty0 hty hnm hown hK hP hD hS q0 he hc k hk (hts _ hlk) (fun _ h9 => h9) hfin hI (ho _ _ _ hc) hpd hn hfit hl hd (fun H1 locs1 hP hD hS => kk H1 locs1 ls hP hD hS hl0)
theorem g_iald (hE : CxOk E cI cS own cc nL ret d mc ms) (hd : decode cc pc = .ok (.iaload, 1)) {a n : Nat} {f : Nat → Int32} {i : Int32} (q0 : Nat) (ha : ws[q0]? = some (a, .inl (cI, n, .inl f))) (hin : vp_in i n) (kk : Go E Q nL cells slots (pc + 1) lv (.int (f i.toNatClampNeg) :: st) ws) : Go E Q nL cells slots pc lv (.int i :: .ref a :: st) ws := by
  obtain ⟨p, l, e, R, s, m, args, below, meth, c, D, A⟩ := E
  obtain ⟨hx, hb, hml, hown, hts, hK, -⟩ := hE
  intro H locs ls hP hD hS hl
  exact va_iald hx hb hK hP q0 0 ha rfl hin hd (kk H locs ls hP hD hS hl)
theorem g_iast (hE : CxOk E cI cS own cc nL ret d mc ms) (hd : decode cc pc = .ok (.iastore, 1)) {a n : Nat} {f : Nat → Int32} {i x : Int32} (q0 : Nat) (ha : ws[q0]? = some (a, .inl (cI, n, .inl f))) (hin : vp_in i n) (ws' : va_W) (hw : ws.set q0 (a, .inl (cI, n, .inl (upd f i.toNatClampNeg x))) = ws') (kk : Go E Q nL cells slots (pc + 1) lv st ws') : Go E Q nL cells slots pc lv (.int x :: .int i :: .ref a :: st) ws := by
  obtain ⟨p, l, e, R, s, m, args, below, meth, c, D, A⟩ := E
  obtain ⟨hx, hb, hml, hown, hts, hK, -⟩ := hE
  subst hw
  intro H locs ls hP hD hS hl
  exact va_iast hx hb hK hP hD hS q0 0 ha rfl hin hd (fun H1 locs1 hP hD hS => kk H1 locs1 ls hP hD hS hl)
theorem g_alen (hE : CxOk E cI cS own cc nL ret d mc ms) (hd : decode cc pc = .ok (.arraylength, 1)) {a n : Nat} {f : Nat → Int32} (q0 : Nat) (v : Int32) (ha : ws[q0]? = some (a, .inl (cI, n, .inl f))) (hv : Int32.ofNat n = v) (kk : Go E Q nL cells slots (pc + 1) lv (.int v :: st) ws) : Go E Q nL cells slots pc lv (.ref a :: st) ws := by
  obtain ⟨p, l, e, R, s, m, args, below, meth, c, D, A⟩ := E
  obtain ⟨hx, hb, hml, hown, hts, hK, -⟩ := hE
  intro H locs ls hP hD hS hl
  exact va_alen hx hb hK hP q0 0 ha rfl hv hd (kk H locs ls hP hD hS hl)
theorem g_alenq (hE : CxOk E cI cS own cc nL ret d mc ms) (hd : decode cc pc = .ok (.arraylength, 1)) {a n : Nat} {f : Nat → Option Nat} (q0 : Nat) (v : Int32) (ha : ws[q0]? = some (a, .inl (cS, n, .inr (.inr (.inr (.inr f)))))) (hv : Int32.ofNat n = v) (kk : Go E Q nL cells slots (pc + 1) lv (.int v :: st) ws) : Go E Q nL cells slots pc lv (.ref a :: st) ws := by
  obtain ⟨p, l, e, R, s, m, args, below, meth, c, D, A⟩ := E
  obtain ⟨hx, hb, hml, hown, hts, hK, -⟩ := hE
  intro H locs ls hP hD hS hl
  exact va_alen hx hb hK hP q0 1 ha rfl hv hd (kk H locs ls hP hD hS hl)
theorem g_aldq (hE : CxOk E cI cS own cc nL ret d mc ms) (hd : decode cc pc = .ok (.aaload, 1)) {a n : Nat} {f : Nat → Option Nat} {i : Int32} (q0 : Nat) (v : Value) (ha : ws[q0]? = some (a, .inl (cS, n, .inr (.inr (.inr (.inr f)))))) (hin : vp_in i n) (hv : va_rf (f i.toNatClampNeg) = v) (kk : Go E Q nL cells slots (pc + 1) lv (v :: st) ws) : Go E Q nL cells slots pc lv (.int i :: .ref a :: st) ws := by
  obtain ⟨p, l, e, R, s, m, args, below, meth, c, D, A⟩ := E
  obtain ⟨hx, hb, hml, hown, hts, hK, -⟩ := hE
  subst hv
  intro H locs ls hP hD hS hl
  exact va_aldq hx hb hK hP q0 1 ha rfl hin hd (kk H locs ls hP hD hS hl)
theorem g_astq (hE : CxOk E cI cS own cc nL ret d mc ms) (hd : decode cc pc = .ok (.aastore, 1)) {a n v : Nat} {vs : List Value} {f : Nat → Option Nat} {i : Int32} (q0 qk : Nat) (ha : ws[q0]? = some (a, .inl (cS, n, .inr (.inr (.inr (.inr f)))))) (hv : ws[qk]? = some (v, .inr (2, vs))) (hin : vp_in i n) (ws' : va_W) (hw : ws.set q0 (a, .inl (cS, n, .inr (.inr (.inr (.inr (va_up f i.toNatClampNeg (some v))))))) = ws') (kk : Go E Q nL cells slots (pc + 1) lv st ws') : Go E Q nL cells slots pc lv (.ref v :: .int i :: .ref a :: st) ws := by
  obtain ⟨p, l, e, R, s, m, args, below, meth, c, D, A⟩ := E
  obtain ⟨hx, hb, hml, hown, hts, hK, -⟩ := hE
  subst hw
  intro H locs ls hP hD hS hl
  exact va_astq hx hb hK hP hD hS q0 1 qk 2 ha rfl hv rfl hin hd (fun H1 locs1 hP hD hS => kk H1 locs1 ls hP hD hS hl)
theorem g_copy (hE : CxOk E cI cS own cc nL ret d mc ms) (h1' : 1 ≤ d) {index : Nat} (hlk : Cond.methodLink own index arraycopyName ∈ TB) (hnat : Cond.native arraycopyName ∈ TB) (hstat : Cond.static arraycopyName ∈ TB) (hini : Cond.initialized "java/lang/System" ∈ TB) (hd : decode cc pc = .ok (.invokestatic index, 3)) {a a0 n0 n1 : Nat} {f g : Nat → Int32} {sp dp n : Int32} (q0 q1 : Nat) (ha0 : ws[q0]? = some (a0, .inl (cI, n0, .inl f))) (ha1 : ws[q1]? = some (a, .inl (cI, n1, .inl g)))
    (h1 : ¬ sp < 0) (h2 : ¬ dp < 0) (h3 : ¬ n < 0) (h4 : sp.toNatClampNeg + n.toNatClampNeg ≤ n0) (h5 : dp.toNatClampNeg + n.toNatClampNeg ≤ n1) (hst : (st.map fun v => v.category).sum + (nativeFrameWords "java/lang/System" "arraycopy" 5 + 11) ≤ 64) (ws' : va_W) (hw : ws.set q1 (a, .inl (cI, n1, .inl (va_cpy f g sp.toNatClampNeg dp.toNatClampNeg n.toNatClampNeg))) = ws')
    (kk : Go E Q nL cells slots (pc + 3) lv st ws') : Go E Q nL cells slots pc lv (.int n :: .int dp :: .ref a :: .int sp :: .ref a0 :: st) ws := by
  obtain ⟨p, l, e, R, s, m, args, below, meth, c, D, A⟩ := E
  obtain ⟨hx, hb, hml, hown, hts, hK, hN, hA, hfr, hlo, -⟩ := hE
  subst hw
  intro H locs ls hP hD hS hl
  exact va_copyi hx hb (hml.trans hl.1.symm) hown (hts _ hlk) (hts _ hnat) (hts _ hstat) (hts _ hini) hK hP hD hS q0 q1 0 0 ha0 ha1 rfl rfl rfl h1 h2 h3 h4 h5 (fun _ _ => rfl) (by omega) (by omega) hd (fun H1 locs1 hP hD hS => kk H1 locs1 ls hP hD hS hl)
theorem g_min (hE : CxOk E cI cS own cc nL ret d mc ms) (h1' : 1 ≤ d) (hce : cells ≤ mc) (hsl : slots ≤ ms) {index : Nat} (hlk : Cond.methodLink own index Lib.Math.min.name ∈ TB) (hstat : Cond.static Lib.Math.min.name ∈ TB) (hini : Cond.initialized "java/lang/Math" ∈ TB) (hcode : Cond.code Lib.Math.min.name Lib.Math.min.code 2 (some .int) ∈ TB) (hd : decode cc pc = .ok (.invokestatic index, 3)) (hst : (st.map fun v => v.category).sum + 13 ≤ 64) {x y : Int32}
    (kk : Go E Q nL cells slots (pc + 3) lv (.int (if y < x then y else x) :: st) ws) : Go E Q nL cells slots pc lv (.int y :: .int x :: st) ws := by
  obtain ⟨p, l, e, R, s, m, args, below, meth, c, D, A⟩ := E
  obtain ⟨hx, hb, hml, hown, hts, hK, hN, hA, hfr, hlo, hmc, hms, -⟩ := hE
  intro H locs ls hP hD hS hl
  exact va_mmin hx hb (hml.trans hl.1.symm) hown (hts _ hlk) (hts _ hstat) (hts _ hini) (hts _ hcode) (by omega) (by omega) (by omega) (by omega) hd (kk H locs ls hP hD hS hl)
-- rows of the world
theorem g_perm (is : List Nat) (ws' : va_W) (hn : va_nd is = true) (hs : is.map (fun i => ws[i]?) = ws'.map some) (kk : Go E Q nL cells slots pc lv st ws') : Go E Q nL cells slots pc lv st ws := by
  obtain ⟨p, l, e, R, s, m, args, below, meth, c, D, A⟩ := E
  intro H locs ls hP hD hS hl
  refine kk H locs ls (hP.sub is ?_) (hD.sub is hn hs) hS hl
  have h2 := congrArg (List.filterMap id) hs
  simpa [List.filterMap_map, Function.comp_def] using h2
theorem g_locals (ks : List Nat) (lv' : List (Nat × Value)) (h : lv_pick lv ks = lv') (kk : Go E Q nL cells slots pc lv' st ws) : Go E Q nL cells slots pc lv st ws := by
  obtain ⟨p, l, e, R, s, m, args, below, meth, c, D, A⟩ := E
  intro H locs ls hP hD hS hl
  exact kk H locs ls hP hD hS (lv_sub hl ks h)
theorem g_widen {cells' slots' : Nat} (h1 : cells ≤ cells') (h2 : slots ≤ slots') (kk : Go E Q nL cells' slots' pc lv st ws) : Go E Q nL cells slots pc lv st ws := by
  obtain ⟨p, l, e, R, s, m, args, below, meth, c, D, A⟩ := E
  intro H locs ls hP hD hS hl
  exact W.widen h1 h2 (kk H locs ls hP hD hS hl)
/-- a world's cells may be spelt otherwise: same addresses, same cells -/
theorem g_world (ws' : va_W) (h : ws = ws') (kk : Go E Q nL cells slots pc lv st ws') : Go E Q nL cells slots pc lv st ws := h ▸ kk
-- ends
theorem g_iret {S : Type} {P : S → Prop} {val : S → Option Value} {wr : S → va_W} {ty : FieldType} {v : Int32} (hE : CxOk E cI cS own cc nL (some ty) d mc ms) (hQ : EndOk E Q cI cS mc ms P val wr) (hd : decode cc pc = .ok (.ireturn, 1)) (hn : narrow ty (.int v) = .int v) (u : S) (hv : val u = some (.int v)) (hw : wr u = ws) (hP : P u) : Go E Q nL mc ms pc lv [.int v] ws := by
  obtain ⟨p, l, e, R, s, m, args, below, meth, c, D, A⟩ := E
  obtain ⟨hx, hb, hml, hown, hts, hK, hN, hA, hfr, hlo, hmc, hms, hlocks, hr⟩ := hE
  have hQ : Q = MQ below (Qg cI cS D A P val wr) args s mc ms A := hQ
  subst hQ
  subst hw
  intro H locs ls hPw hD hS hl
  exact W.zret (free := A) hx hb hr hn (fun t ht hW => ⟨⟨u, by rw [hv], hP, by rw [ht]; exact hPw, hD⟩, hS.F ht⟩) hS.2.2 hd hlocks
theorem g_lret {S : Type} {P : S → Prop} {val : S → Option Value} {wr : S → va_W} {v : Int64} (hE : CxOk E cI cS own cc nL (some .long) d mc ms) (hQ : EndOk E Q cI cS mc ms P val wr) (hd : decode cc pc = .ok (.lreturn, 1)) (u : S) (hv : val u = some (.long v)) (hw : wr u = ws) (hP : P u) : Go E Q nL mc ms pc lv [.long v] ws := by
  obtain ⟨p, l, e, R, s, m, args, below, meth, c, D, A⟩ := E
  obtain ⟨hx, hb, hml, hown, hts, hK, hN, hA, hfr, hlo, hmc, hms, hlocks, hr⟩ := hE
  have hQ : Q = MQ below (Qg cI cS D A P val wr) args s mc ms A := hQ
  subst hQ
  subst hw
  intro H locs ls hPw hD hS hl
  exact W.lret (free := A) hx hb hr (fun t ht hW => ⟨⟨u, by rw [hv], hP, by rw [ht]; exact hPw, hD⟩, hS.F ht⟩) hS.2.2 hd hlocks
theorem g_vret {S : Type} {P : S → Prop} {val : S → Option Value} {wr : S → va_W} (hE : CxOk E cI cS own cc nL none d mc ms) (hQ : EndOk E Q cI cS mc ms P val wr) (hd : decode cc pc = .ok (.return_, 1)) (u : S) (hv : val u = none) (hw : wr u = ws) (hP : P u) : Go E Q nL mc ms pc lv [] ws := by
  obtain ⟨p, l, e, R, s, m, args, below, meth, c, D, A⟩ := E
  obtain ⟨hx, hb, hml, hown, hts, hK, hN, hA, hfr, hlo, hmc, hms, hlocks, hr⟩ := hE
  have hQ : Q = MQ below (Qg cI cS D A P val wr) args s mc ms A := hQ
  subst hQ
  subst hw
  intro H locs ls hPw hD hS hl
  exact W.vret (free := A) hx hb hr (fun t ht hW => ⟨⟨u, by rw [hv], hP, by rw [ht]; exact hPw, hD⟩, hS.F ht⟩) hS.2.2 hd hlocks
theorem g_aret {S : Type} {P : S → Prop} {val : S → Option Value} {wr : S → va_W} {rt : FieldType} {v : Value} (hE : CxOk E cI cS own cc nL (some rt) d mc ms) (hQ : EndOk E Q cI cS mc ms P val wr) (hd : decode cc pc = .ok (.areturn, 1)) (hrt : (∃ n, rt = .object n) ∨ ∃ t, rt = .array t) (hvv : v = .null ∨ ∃ a, v = .ref a) (u : S) (hv : val u = some v) (hw : wr u = ws) (hP : P u) : Go E Q nL mc ms pc lv [v] ws := by
  obtain ⟨p, l, e, R, s, m, args, below, meth, c, D, A⟩ := E
  obtain ⟨hx, hb, hml, hown, hts, hK, hN, hA, hfr, hlo, hmc, hms, hlocks, hr⟩ := hE
  have hQ : Q = MQ below (Qg cI cS D A P val wr) args s mc ms A := hQ
  subst hQ
  subst hw
  intro H locs ls hPw hD hS hl
  exact W.aret (free := A) hx hb hr hrt hvv (fun t ht hW => ⟨⟨u, by rw [hv], hP, by rw [ht]; exact hPw, hD⟩, hS.F ht⟩) hS.2.2 hd hlocks
end GO
