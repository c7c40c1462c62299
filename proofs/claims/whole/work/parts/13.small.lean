/-! the search's and the sheets' objects -/
def seS (T C : Nat → Int32) (li ap va le : Int32) : Nat → Nat → Int32 := fun g => cond (Nat.beq g 0) T (cond (Nat.beq g 1) C (fun j => cond (Nat.beq j 0) li (cond (Nat.beq j 1) ap (cond (Nat.beq j 2) va le))))
def shT (T : Nat → Int32) (ln le : Int32) : Nat → Nat → Int32 := fun g => cond (Nat.beq g 0) T (fun j => cond (Nat.beq j 0) ln le)
def bcS (s : Nat) : Nat := (if s.testBit 0 then 1 else 0) + (if s.testBit 1 then 1 else 0) + (if s.testBit 2 then 1 else 0) + (if s.testBit 3 then 1 else 0) + (if s.testBit 4 then 1 else 0) + (if s.testBit 5 then 1 else 0)
theorem and_64 : ∀ a, a < 64 → ∀ b, b < 64 → nI a &&& nI b = nI (a &&& b) ∧ a &&& b < 64 := by decide +kernel
theorem and_lt {a b : Nat} (ha : a < 64) (hb : b < 64) : a &&& b < 64 := (and_64 a ha b hb).2
theorem and_i {x y : Int32} {a b : Nat} (hx : x = nI a) (hy : y = nI b) (ha : a < 64) (hb : b < 64) : x &&& y = nI (a &&& b) := by subst hx; subst hy; exact (and_64 a ha b hb).1
theorem bcS_le : ∀ s, s < 64 → bcS s ≤ 6 := by decide +kernel
theorem mx_t {s a : Nat} (hs : s < 64) (ha : a < 64) (h : ¬ nI (bcS (s &&& a)) ≤ 1) : 1 < bcS (s &&& a) := by
  have := bcS_le _ (and_lt hs ha)
  have h2 : ¬ nI (bcS (s &&& a)) ≤ nI 1 := h
  rw [nI_leI (by omega) (by decide)] at h2
  omega
theorem mx_f {s a : Nat} (hs : s < 64) (ha : a < 64) (h : nI (bcS (s &&& a)) ≤ 1) : ¬ 1 < bcS (s &&& a) := by
  have := bcS_le _ (and_lt hs ha)
  have h2 : nI (bcS (s &&& a)) ≤ nI 1 := h
  rw [nI_leI (by omega) (by decide)] at h2
  omega
abbrev hasI (le i k : Int32) : Prop := 0 ≤ i ∧ i ≤ le ∧ 0 ≤ k ∧ k ≤ le - i
def refS (ln le l i k : Int32) : Int32 := if ln = -1 then -11 else if ln = l then (if hasI le i k then 0 else -13) else -12
def lnS (ln v : Int32) : Int32 := if ln = 0 then v.toInt8.toInt32 else if ln = 1 then v.toInt16.toInt32 else v
set_option maxHeartbeats 4000000 in
set_option maxRecDepth 100000 in
theorem c_J6_bitCount_0f7a4 (cI cS : ClassId) (z : Int32) (s : Nat) (hz : z = nI s) (hs : s < 64) : CT cI cS yJ6_bitCount_0f7a4 cJ6_bitCount_0f7a4 1 (some .int) 0 [.int z] (([] : va_W)) 0 0 (fun u : Int32 => u = nI (bcS s)) (fun u => some (.int u)) (fun u => (([] : va_W))) := by
  refine ct_intro (by decide) (Nat.le_of_ble_eq_true rfl) (fun E Q hE hQ hI => ?_)
  have hE : CxOk E cI cS RJ6 cJ6_bitCount_0f7a4 1 (some .int) 0 0 0 := hE
  show Go E Q 1 0 0 0 [(0, .int z)] [] (([] : va_W))
  refine g_iload_n hE dJ6_bitCount_0f7a4_0 0 rfl ?_
  refine g_iload_n hE dJ6_bitCount_0f7a4_1 0 rfl ?_
  refine g_iconst hE dJ6_bitCount_0f7a4_2 1 (by decide) ?_
  refine g_iushr hE dJ6_bitCount_0f7a4_3 ?_
  refine g_ldcw hE dJ6_bitCount_0f7a4_4 ck_J6_265 ?_
  refine g_iand hE dJ6_bitCount_0f7a4_7 ?_
  refine g_isub hE dJ6_bitCount_0f7a4_8 ?_
  refine g_istore_n hE dJ6_bitCount_0f7a4_9 [(0, .int (z - (((Int32.toUInt32 z >>> (Int32.toUInt32 1 &&& Int32.toUInt32 31)).toInt32) &&& 1431655765)))] rfl (by decide) rfl ?_
  refine g_iload_n hE dJ6_bitCount_0f7a4_10 0 rfl ?_
  refine g_ldcw hE dJ6_bitCount_0f7a4_11 ck_J6_266 ?_
  refine g_iand hE dJ6_bitCount_0f7a4_14 ?_
  refine g_iload_n hE dJ6_bitCount_0f7a4_15 0 rfl ?_
  refine g_iconst hE dJ6_bitCount_0f7a4_16 2 (by decide) ?_
  refine g_iushr hE dJ6_bitCount_0f7a4_17 ?_
  refine g_ldcw hE dJ6_bitCount_0f7a4_18 ck_J6_266 ?_
  refine g_iand hE dJ6_bitCount_0f7a4_21 ?_
  refine g_iadd hE dJ6_bitCount_0f7a4_22 ?_
  refine g_istore_n hE dJ6_bitCount_0f7a4_23 [(0, .int (((z - (((Int32.toUInt32 z >>> (Int32.toUInt32 1 &&& Int32.toUInt32 31)).toInt32) &&& 1431655765)) &&& 858993459) + (((Int32.toUInt32 (z - (((Int32.toUInt32 z >>> (Int32.toUInt32 1 &&& Int32.toUInt32 31)).toInt32) &&& 1431655765)) >>> (Int32.toUInt32 2 &&& Int32.toUInt32 31)).toInt32) &&& 858993459)))] rfl (by decide) rfl ?_
  refine g_iload_n hE dJ6_bitCount_0f7a4_24 0 rfl ?_
  refine g_iload_n hE dJ6_bitCount_0f7a4_25 0 rfl ?_
  refine g_iconst hE dJ6_bitCount_0f7a4_26 4 (by decide) ?_
  refine g_iushr hE dJ6_bitCount_0f7a4_27 ?_
  refine g_iadd hE dJ6_bitCount_0f7a4_28 ?_
  refine g_ldcw hE dJ6_bitCount_0f7a4_29 ck_J6_267 ?_
  refine g_iand hE dJ6_bitCount_0f7a4_32 ?_
  refine g_istore_n hE dJ6_bitCount_0f7a4_33 [(0, .int (((((z - (((Int32.toUInt32 z >>> (Int32.toUInt32 1 &&& Int32.toUInt32 31)).toInt32) &&& 1431655765)) &&& 858993459) + (((Int32.toUInt32 (z - (((Int32.toUInt32 z >>> (Int32.toUInt32 1 &&& Int32.toUInt32 31)).toInt32) &&& 1431655765)) >>> (Int32.toUInt32 2 &&& Int32.toUInt32 31)).toInt32) &&& 858993459)) + ((Int32.toUInt32 (((z - (((Int32.toUInt32 z >>> (Int32.toUInt32 1 &&& Int32.toUInt32 31)).toInt32) &&& 1431655765)) &&& 858993459) + (((Int32.toUInt32 (z - (((Int32.toUInt32 z >>> (Int32.toUInt32 1 &&& Int32.toUInt32 31)).toInt32) &&& 1431655765)) >>> (Int32.toUInt32 2 &&& Int32.toUInt32 31)).toInt32) &&& 858993459)) >>> (Int32.toUInt32 4 &&& Int32.toUInt32 31)).toInt32)) &&& 252645135))] rfl (by decide) rfl ?_
  refine g_iload_n hE dJ6_bitCount_0f7a4_34 0 rfl ?_
  refine g_iload_n hE dJ6_bitCount_0f7a4_35 0 rfl ?_
  refine g_bipush hE dJ6_bitCount_0f7a4_36 8 (by decide) ?_
  refine g_iushr hE dJ6_bitCount_0f7a4_38 ?_
  refine g_iadd hE dJ6_bitCount_0f7a4_39 ?_
  refine g_istore_n hE dJ6_bitCount_0f7a4_40 [(0, .int ((((((z - (((Int32.toUInt32 z >>> (Int32.toUInt32 1 &&& Int32.toUInt32 31)).toInt32) &&& 1431655765)) &&& 858993459) + (((Int32.toUInt32 (z - (((Int32.toUInt32 z >>> (Int32.toUInt32 1 &&& Int32.toUInt32 31)).toInt32) &&& 1431655765)) >>> (Int32.toUInt32 2 &&& Int32.toUInt32 31)).toInt32) &&& 858993459)) + ((Int32.toUInt32 (((z - (((Int32.toUInt32 z >>> (Int32.toUInt32 1 &&& Int32.toUInt32 31)).toInt32) &&& 1431655765)) &&& 858993459) + (((Int32.toUInt32 (z - (((Int32.toUInt32 z >>> (Int32.toUInt32 1 &&& Int32.toUInt32 31)).toInt32) &&& 1431655765)) >>> (Int32.toUInt32 2 &&& Int32.toUInt32 31)).toInt32) &&& 858993459)) >>> (Int32.toUInt32 4 &&& Int32.toUInt32 31)).toInt32)) &&& 252645135) + ((Int32.toUInt32 (((((z - (((Int32.toUInt32 z >>> (Int32.toUInt32 1 &&& Int32.toUInt32 31)).toInt32) &&& 1431655765)) &&& 858993459) + (((Int32.toUInt32 (z - (((Int32.toUInt32 z >>> (Int32.toUInt32 1 &&& Int32.toUInt32 31)).toInt32) &&& 1431655765)) >>> (Int32.toUInt32 2 &&& Int32.toUInt32 31)).toInt32) &&& 858993459)) + ((Int32.toUInt32 (((z - (((Int32.toUInt32 z >>> (Int32.toUInt32 1 &&& Int32.toUInt32 31)).toInt32) &&& 1431655765)) &&& 858993459) + (((Int32.toUInt32 (z - (((Int32.toUInt32 z >>> (Int32.toUInt32 1 &&& Int32.toUInt32 31)).toInt32) &&& 1431655765)) >>> (Int32.toUInt32 2 &&& Int32.toUInt32 31)).toInt32) &&& 858993459)) >>> (Int32.toUInt32 4 &&& Int32.toUInt32 31)).toInt32)) &&& 252645135) >>> (Int32.toUInt32 8 &&& Int32.toUInt32 31)).toInt32)))] rfl (by decide) rfl ?_
  refine g_iload_n hE dJ6_bitCount_0f7a4_41 0 rfl ?_
  refine g_iload_n hE dJ6_bitCount_0f7a4_42 0 rfl ?_
  refine g_bipush hE dJ6_bitCount_0f7a4_43 16 (by decide) ?_
  refine g_iushr hE dJ6_bitCount_0f7a4_45 ?_
  refine g_iadd hE dJ6_bitCount_0f7a4_46 ?_
  refine g_istore_n hE dJ6_bitCount_0f7a4_47 [(0, .int (((((((z - (((Int32.toUInt32 z >>> (Int32.toUInt32 1 &&& Int32.toUInt32 31)).toInt32) &&& 1431655765)) &&& 858993459) + (((Int32.toUInt32 (z - (((Int32.toUInt32 z >>> (Int32.toUInt32 1 &&& Int32.toUInt32 31)).toInt32) &&& 1431655765)) >>> (Int32.toUInt32 2 &&& Int32.toUInt32 31)).toInt32) &&& 858993459)) + ((Int32.toUInt32 (((z - (((Int32.toUInt32 z >>> (Int32.toUInt32 1 &&& Int32.toUInt32 31)).toInt32) &&& 1431655765)) &&& 858993459) + (((Int32.toUInt32 (z - (((Int32.toUInt32 z >>> (Int32.toUInt32 1 &&& Int32.toUInt32 31)).toInt32) &&& 1431655765)) >>> (Int32.toUInt32 2 &&& Int32.toUInt32 31)).toInt32) &&& 858993459)) >>> (Int32.toUInt32 4 &&& Int32.toUInt32 31)).toInt32)) &&& 252645135) + ((Int32.toUInt32 (((((z - (((Int32.toUInt32 z >>> (Int32.toUInt32 1 &&& Int32.toUInt32 31)).toInt32) &&& 1431655765)) &&& 858993459) + (((Int32.toUInt32 (z - (((Int32.toUInt32 z >>> (Int32.toUInt32 1 &&& Int32.toUInt32 31)).toInt32) &&& 1431655765)) >>> (Int32.toUInt32 2 &&& Int32.toUInt32 31)).toInt32) &&& 858993459)) + ((Int32.toUInt32 (((z - (((Int32.toUInt32 z >>> (Int32.toUInt32 1 &&& Int32.toUInt32 31)).toInt32) &&& 1431655765)) &&& 858993459) + (((Int32.toUInt32 (z - (((Int32.toUInt32 z >>> (Int32.toUInt32 1 &&& Int32.toUInt32 31)).toInt32) &&& 1431655765)) >>> (Int32.toUInt32 2 &&& Int32.toUInt32 31)).toInt32) &&& 858993459)) >>> (Int32.toUInt32 4 &&& Int32.toUInt32 31)).toInt32)) &&& 252645135) >>> (Int32.toUInt32 8 &&& Int32.toUInt32 31)).toInt32)) + ((Int32.toUInt32 ((((((z - (((Int32.toUInt32 z >>> (Int32.toUInt32 1 &&& Int32.toUInt32 31)).toInt32) &&& 1431655765)) &&& 858993459) + (((Int32.toUInt32 (z - (((Int32.toUInt32 z >>> (Int32.toUInt32 1 &&& Int32.toUInt32 31)).toInt32) &&& 1431655765)) >>> (Int32.toUInt32 2 &&& Int32.toUInt32 31)).toInt32) &&& 858993459)) + ((Int32.toUInt32 (((z - (((Int32.toUInt32 z >>> (Int32.toUInt32 1 &&& Int32.toUInt32 31)).toInt32) &&& 1431655765)) &&& 858993459) + (((Int32.toUInt32 (z - (((Int32.toUInt32 z >>> (Int32.toUInt32 1 &&& Int32.toUInt32 31)).toInt32) &&& 1431655765)) >>> (Int32.toUInt32 2 &&& Int32.toUInt32 31)).toInt32) &&& 858993459)) >>> (Int32.toUInt32 4 &&& Int32.toUInt32 31)).toInt32)) &&& 252645135) + ((Int32.toUInt32 (((((z - (((Int32.toUInt32 z >>> (Int32.toUInt32 1 &&& Int32.toUInt32 31)).toInt32) &&& 1431655765)) &&& 858993459) + (((Int32.toUInt32 (z - (((Int32.toUInt32 z >>> (Int32.toUInt32 1 &&& Int32.toUInt32 31)).toInt32) &&& 1431655765)) >>> (Int32.toUInt32 2 &&& Int32.toUInt32 31)).toInt32) &&& 858993459)) + ((Int32.toUInt32 (((z - (((Int32.toUInt32 z >>> (Int32.toUInt32 1 &&& Int32.toUInt32 31)).toInt32) &&& 1431655765)) &&& 858993459) + (((Int32.toUInt32 (z - (((Int32.toUInt32 z >>> (Int32.toUInt32 1 &&& Int32.toUInt32 31)).toInt32) &&& 1431655765)) >>> (Int32.toUInt32 2 &&& Int32.toUInt32 31)).toInt32) &&& 858993459)) >>> (Int32.toUInt32 4 &&& Int32.toUInt32 31)).toInt32)) &&& 252645135) >>> (Int32.toUInt32 8 &&& Int32.toUInt32 31)).toInt32)) >>> (Int32.toUInt32 16 &&& Int32.toUInt32 31)).toInt32)))] rfl (by decide) rfl ?_
  refine g_iload_n hE dJ6_bitCount_0f7a4_48 0 rfl ?_
  refine g_bipush hE dJ6_bitCount_0f7a4_49 63 (by decide) ?_
  refine g_iand hE dJ6_bitCount_0f7a4_51 ?_
  exact g_iret hE hQ dJ6_bitCount_0f7a4_52 rfl ((((((((z - (((Int32.toUInt32 z >>> (Int32.toUInt32 1 &&& Int32.toUInt32 31)).toInt32) &&& 1431655765)) &&& 858993459) + (((Int32.toUInt32 (z - (((Int32.toUInt32 z >>> (Int32.toUInt32 1 &&& Int32.toUInt32 31)).toInt32) &&& 1431655765)) >>> (Int32.toUInt32 2 &&& Int32.toUInt32 31)).toInt32) &&& 858993459)) + ((Int32.toUInt32 (((z - (((Int32.toUInt32 z >>> (Int32.toUInt32 1 &&& Int32.toUInt32 31)).toInt32) &&& 1431655765)) &&& 858993459) + (((Int32.toUInt32 (z - (((Int32.toUInt32 z >>> (Int32.toUInt32 1 &&& Int32.toUInt32 31)).toInt32) &&& 1431655765)) >>> (Int32.toUInt32 2 &&& Int32.toUInt32 31)).toInt32) &&& 858993459)) >>> (Int32.toUInt32 4 &&& Int32.toUInt32 31)).toInt32)) &&& 252645135) + ((Int32.toUInt32 (((((z - (((Int32.toUInt32 z >>> (Int32.toUInt32 1 &&& Int32.toUInt32 31)).toInt32) &&& 1431655765)) &&& 858993459) + (((Int32.toUInt32 (z - (((Int32.toUInt32 z >>> (Int32.toUInt32 1 &&& Int32.toUInt32 31)).toInt32) &&& 1431655765)) >>> (Int32.toUInt32 2 &&& Int32.toUInt32 31)).toInt32) &&& 858993459)) + ((Int32.toUInt32 (((z - (((Int32.toUInt32 z >>> (Int32.toUInt32 1 &&& Int32.toUInt32 31)).toInt32) &&& 1431655765)) &&& 858993459) + (((Int32.toUInt32 (z - (((Int32.toUInt32 z >>> (Int32.toUInt32 1 &&& Int32.toUInt32 31)).toInt32) &&& 1431655765)) >>> (Int32.toUInt32 2 &&& Int32.toUInt32 31)).toInt32) &&& 858993459)) >>> (Int32.toUInt32 4 &&& Int32.toUInt32 31)).toInt32)) &&& 252645135) >>> (Int32.toUInt32 8 &&& Int32.toUInt32 31)).toInt32)) + ((Int32.toUInt32 ((((((z - (((Int32.toUInt32 z >>> (Int32.toUInt32 1 &&& Int32.toUInt32 31)).toInt32) &&& 1431655765)) &&& 858993459) + (((Int32.toUInt32 (z - (((Int32.toUInt32 z >>> (Int32.toUInt32 1 &&& Int32.toUInt32 31)).toInt32) &&& 1431655765)) >>> (Int32.toUInt32 2 &&& Int32.toUInt32 31)).toInt32) &&& 858993459)) + ((Int32.toUInt32 (((z - (((Int32.toUInt32 z >>> (Int32.toUInt32 1 &&& Int32.toUInt32 31)).toInt32) &&& 1431655765)) &&& 858993459) + (((Int32.toUInt32 (z - (((Int32.toUInt32 z >>> (Int32.toUInt32 1 &&& Int32.toUInt32 31)).toInt32) &&& 1431655765)) >>> (Int32.toUInt32 2 &&& Int32.toUInt32 31)).toInt32) &&& 858993459)) >>> (Int32.toUInt32 4 &&& Int32.toUInt32 31)).toInt32)) &&& 252645135) + ((Int32.toUInt32 (((((z - (((Int32.toUInt32 z >>> (Int32.toUInt32 1 &&& Int32.toUInt32 31)).toInt32) &&& 1431655765)) &&& 858993459) + (((Int32.toUInt32 (z - (((Int32.toUInt32 z >>> (Int32.toUInt32 1 &&& Int32.toUInt32 31)).toInt32) &&& 1431655765)) >>> (Int32.toUInt32 2 &&& Int32.toUInt32 31)).toInt32) &&& 858993459)) + ((Int32.toUInt32 (((z - (((Int32.toUInt32 z >>> (Int32.toUInt32 1 &&& Int32.toUInt32 31)).toInt32) &&& 1431655765)) &&& 858993459) + (((Int32.toUInt32 (z - (((Int32.toUInt32 z >>> (Int32.toUInt32 1 &&& Int32.toUInt32 31)).toInt32) &&& 1431655765)) >>> (Int32.toUInt32 2 &&& Int32.toUInt32 31)).toInt32) &&& 858993459)) >>> (Int32.toUInt32 4 &&& Int32.toUInt32 31)).toInt32)) &&& 252645135) >>> (Int32.toUInt32 8 &&& Int32.toUInt32 31)).toInt32)) >>> (Int32.toUInt32 16 &&& Int32.toUInt32 31)).toInt32)) &&& 63) rfl rfl (by subst hz; exact (show ∀ s, s < 64 → (((((((((nI s) - (((Int32.toUInt32 (nI s) >>> (Int32.toUInt32 1 &&& Int32.toUInt32 31)).toInt32) &&& 1431655765)) &&& 858993459) + (((Int32.toUInt32 ((nI s) - (((Int32.toUInt32 (nI s) >>> (Int32.toUInt32 1 &&& Int32.toUInt32 31)).toInt32) &&& 1431655765)) >>> (Int32.toUInt32 2 &&& Int32.toUInt32 31)).toInt32) &&& 858993459)) + ((Int32.toUInt32 ((((nI s) - (((Int32.toUInt32 (nI s) >>> (Int32.toUInt32 1 &&& Int32.toUInt32 31)).toInt32) &&& 1431655765)) &&& 858993459) + (((Int32.toUInt32 ((nI s) - (((Int32.toUInt32 (nI s) >>> (Int32.toUInt32 1 &&& Int32.toUInt32 31)).toInt32) &&& 1431655765)) >>> (Int32.toUInt32 2 &&& Int32.toUInt32 31)).toInt32) &&& 858993459)) >>> (Int32.toUInt32 4 &&& Int32.toUInt32 31)).toInt32)) &&& 252645135) + ((Int32.toUInt32 ((((((nI s) - (((Int32.toUInt32 (nI s) >>> (Int32.toUInt32 1 &&& Int32.toUInt32 31)).toInt32) &&& 1431655765)) &&& 858993459) + (((Int32.toUInt32 ((nI s) - (((Int32.toUInt32 (nI s) >>> (Int32.toUInt32 1 &&& Int32.toUInt32 31)).toInt32) &&& 1431655765)) >>> (Int32.toUInt32 2 &&& Int32.toUInt32 31)).toInt32) &&& 858993459)) + ((Int32.toUInt32 ((((nI s) - (((Int32.toUInt32 (nI s) >>> (Int32.toUInt32 1 &&& Int32.toUInt32 31)).toInt32) &&& 1431655765)) &&& 858993459) + (((Int32.toUInt32 ((nI s) - (((Int32.toUInt32 (nI s) >>> (Int32.toUInt32 1 &&& Int32.toUInt32 31)).toInt32) &&& 1431655765)) >>> (Int32.toUInt32 2 &&& Int32.toUInt32 31)).toInt32) &&& 858993459)) >>> (Int32.toUInt32 4 &&& Int32.toUInt32 31)).toInt32)) &&& 252645135) >>> (Int32.toUInt32 8 &&& Int32.toUInt32 31)).toInt32)) + ((Int32.toUInt32 (((((((nI s) - (((Int32.toUInt32 (nI s) >>> (Int32.toUInt32 1 &&& Int32.toUInt32 31)).toInt32) &&& 1431655765)) &&& 858993459) + (((Int32.toUInt32 ((nI s) - (((Int32.toUInt32 (nI s) >>> (Int32.toUInt32 1 &&& Int32.toUInt32 31)).toInt32) &&& 1431655765)) >>> (Int32.toUInt32 2 &&& Int32.toUInt32 31)).toInt32) &&& 858993459)) + ((Int32.toUInt32 ((((nI s) - (((Int32.toUInt32 (nI s) >>> (Int32.toUInt32 1 &&& Int32.toUInt32 31)).toInt32) &&& 1431655765)) &&& 858993459) + (((Int32.toUInt32 ((nI s) - (((Int32.toUInt32 (nI s) >>> (Int32.toUInt32 1 &&& Int32.toUInt32 31)).toInt32) &&& 1431655765)) >>> (Int32.toUInt32 2 &&& Int32.toUInt32 31)).toInt32) &&& 858993459)) >>> (Int32.toUInt32 4 &&& Int32.toUInt32 31)).toInt32)) &&& 252645135) + ((Int32.toUInt32 ((((((nI s) - (((Int32.toUInt32 (nI s) >>> (Int32.toUInt32 1 &&& Int32.toUInt32 31)).toInt32) &&& 1431655765)) &&& 858993459) + (((Int32.toUInt32 ((nI s) - (((Int32.toUInt32 (nI s) >>> (Int32.toUInt32 1 &&& Int32.toUInt32 31)).toInt32) &&& 1431655765)) >>> (Int32.toUInt32 2 &&& Int32.toUInt32 31)).toInt32) &&& 858993459)) + ((Int32.toUInt32 ((((nI s) - (((Int32.toUInt32 (nI s) >>> (Int32.toUInt32 1 &&& Int32.toUInt32 31)).toInt32) &&& 1431655765)) &&& 858993459) + (((Int32.toUInt32 ((nI s) - (((Int32.toUInt32 (nI s) >>> (Int32.toUInt32 1 &&& Int32.toUInt32 31)).toInt32) &&& 1431655765)) >>> (Int32.toUInt32 2 &&& Int32.toUInt32 31)).toInt32) &&& 858993459)) >>> (Int32.toUInt32 4 &&& Int32.toUInt32 31)).toInt32)) &&& 252645135) >>> (Int32.toUInt32 8 &&& Int32.toUInt32 31)).toInt32)) >>> (Int32.toUInt32 16 &&& Int32.toUInt32 31)).toInt32)) &&& 63) = nI (bcS s) by decide +kernel) s hs)
set_option maxHeartbeats 4000000 in
set_option maxRecDepth 100000 in
theorem c_X1_begin (cI cS : ClassId) (a : Nat → Nat) (T C : Nat → Int32) (li ap va le : Int32) (x y : Int32) : CT cI cS yX1_begin cX1_begin 3 none 0 [.ref (a 0), .int x, .int y] (searchW cI a (seS T C li ap va le)) 0 0 (fun u : Unit => True) (fun u => none) (fun u => (searchW cI a (seS T C x y 0 (-1)))) := by
  refine ct_intro (by decide) (Nat.le_of_ble_eq_true rfl) (fun E Q hE hQ hI => ?_)
  have hE : CxOk E cI cS RX1 cX1_begin 3 none 0 0 0 := hE
  show Go E Q 3 0 0 0 [(0, .ref (a 0)), (1, .int x), (2, .int y)] [] (searchW cI a (seS T C li ap va le))
  refine g_aload_n hE dX1_begin_0 0 rfl ?_
  refine g_iload_n hE dX1_begin_1 1 rfl ?_
  refine g_put hE fl_X1_22 fp_1_2 dX1_begin_2 0 rfl rfl rfl (Nat.le_of_ble_eq_true rfl) (searchW cI a (seS T C x ap va le)) (by rfl) ?_
  refine g_aload_n hE dX1_begin_5 0 rfl ?_
  refine g_iload_n hE dX1_begin_6 2 rfl ?_
  refine g_put hE fl_X1_25 fp_1_3 dX1_begin_7 0 rfl rfl rfl (Nat.le_of_ble_eq_true rfl) (searchW cI a (seS T C x y va le)) (by rfl) ?_
  refine g_aload_n hE dX1_begin_10 0 rfl ?_
  refine g_iconst hE dX1_begin_11 0 (by decide) ?_
  refine g_put hE fl_X1_28 fp_1_4 dX1_begin_12 0 rfl rfl rfl (Nat.le_of_ble_eq_true rfl) (searchW cI a (seS T C x y 0 le)) (by rfl) ?_
  refine g_aload_n hE dX1_begin_15 0 rfl ?_
  refine g_iconst hE dX1_begin_16 (-1) (by decide) ?_
  refine g_put hE fl_X1_18 fp_1_5 dX1_begin_17 0 rfl rfl rfl (Nat.le_of_ble_eq_true rfl) (searchW cI a (seS T C x y 0 (-1))) (by rfl) ?_
  exact g_vret hE hQ dX1_begin_20 () rfl rfl trivial
set_option maxHeartbeats 4000000 in
set_option maxRecDepth 100000 in
theorem c_X1_choose (cI cS : ClassId) (a : Nat → Nat) (T C : Nat → Int32) (li ap va le : Int32) (x y : Int32) : CT cI cS yX1_choose cX1_choose 3 none 1 [.ref (a 0), .int x, .int y] (searchW cI a (seS T C li ap va le)) 0 0 (fun u : Unit => True) (fun u => none) (fun u => (searchW cI a (seS T T li ap y x))) := by
  refine ct_intro (by decide) (Nat.le_of_ble_eq_true rfl) (fun E Q hE hQ hI => ?_)
  have hE : CxOk E cI cS RX1 cX1_choose 3 none 1 0 0 := hE
  show Go E Q 3 0 0 0 [(0, .ref (a 0)), (1, .int x), (2, .int y)] [] (searchW cI a (seS T C li ap va le))
  refine g_aload_n hE dX1_choose_0 0 rfl ?_
  refine g_get hE fl_X1_9 dX1_choose_1 0 rfl rfl ?_
  refine g_aload_n hE dX1_choose_4 0 rfl ?_
  refine g_get hE fl_X1_15 dX1_choose_5 0 rfl rfl ?_
  refine g_callSN hE (c_X4_copyAll cI cS (a 1) (a 2) 4 T C (by decide)) mk_X4_copyAll st_X4_copyAll nl_X1_31 dX1_choose_8 (As := [.ref (a 1), .ref (a 2)]) (rest := []) rfl rfl (by decide) (by decide) (Nat.le_of_ble_eq_true rfl) (by decide) (by decide) [1, 2] rfl (by decide) (fun u => Nat.le_of_ble_eq_true rfl) (ws' := fun u => searchW cI a (seS T T li ap va le)) (fun u => rfl) (fun u hu => ?_)
  show Go E Q 3 0 0 11 [(0, .ref (a 0)), (1, .int x), (2, .int y)] [] (searchW cI a (seS T T li ap va le))
  refine g_aload_n hE dX1_choose_11 0 rfl ?_
  refine g_iload_n hE dX1_choose_12 1 rfl ?_
  refine g_put hE fl_X1_18 fp_1_5 dX1_choose_13 0 rfl rfl rfl (Nat.le_of_ble_eq_true rfl) (searchW cI a (seS T T li ap va x)) (by rfl) ?_
  refine g_aload_n hE dX1_choose_16 0 rfl ?_
  refine g_iload_n hE dX1_choose_17 2 rfl ?_
  refine g_put hE fl_X1_28 fp_1_4 dX1_choose_18 0 rfl rfl rfl (Nat.le_of_ble_eq_true rfl) (searchW cI a (seS T T li ap y x)) (by rfl) ?_
  exact g_vret hE hQ dX1_choose_21 () rfl rfl trivial
set_option maxHeartbeats 4000000 in
set_option maxRecDepth 100000 in
theorem c_X1_mixes (cI cS : ClassId) (a : Nat → Nat) (T C : Nat → Int32) (li ap va le : Int32) (z : Int32) (s aps : Nat) (hz : z = nI s) (hs : s < 64) (hap : ap = nI aps) (haps : aps < 64) : CT cI cS yX1_mixes cX1_mixes 2 (some .boolean) 1 [.ref (a 0), .int z] (searchW cI a (seS T C li ap va le)) 0 0 (fun u : Int32 => u = if 1 < bcS (s &&& aps) then 1 else 0) (fun u => some (.int u)) (fun u => (searchW cI a (seS T C li ap va le))) := by
  refine ct_intro (by decide) (Nat.le_of_ble_eq_true rfl) (fun E Q hE hQ hI => ?_)
  have hE : CxOk E cI cS RX1 cX1_mixes 2 (some .boolean) 1 0 0 := hE
  show Go E Q 2 0 0 0 [(0, .ref (a 0)), (1, .int z)] [] (searchW cI a (seS T C li ap va le))
  refine g_iload_n hE dX1_mixes_0 1 rfl ?_
  refine g_aload_n hE dX1_mixes_1 0 rfl ?_
  refine g_get hE fl_X1_25 dX1_mixes_2 0 rfl rfl ?_
  refine g_iand hE dX1_mixes_5 ?_
  refine g_callS hE (c_J6_bitCount_0f7a4 cI cS (z &&& ap) (s &&& aps) (show (z &&& ap) = nI (s &&& aps) from (and_i (show z = nI s from hz) (show ap = nI aps from hap) (by first | assumption | exact bs_lt64 _ (by assumption) | exact fallS_lt (by assumption) (by assumption) | exact nd_lt (by assumption) (by assumption) | exact nd_lt (by assumption) (fallS_lt (by assumption) (by assumption)) | exact nd_lt (by assumption) (bs_lt64 _ (by assumption)) | exact and_lt (by assumption) (by assumption) | decide) (by first | assumption | exact bs_lt64 _ (by assumption) | exact fallS_lt (by assumption) (by assumption) | exact nd_lt (by assumption) (by assumption) | exact nd_lt (by assumption) (fallS_lt (by assumption) (by assumption)) | exact nd_lt (by assumption) (bs_lt64 _ (by assumption)) | exact and_lt (by assumption) (by assumption) | decide))) (by first | assumption | exact bs_lt64 _ (by assumption) | exact fallS_lt (by assumption) (by assumption) | exact nd_lt (by assumption) (by assumption) | exact nd_lt (by assumption) (fallS_lt (by assumption) (by assumption)) | exact nd_lt (by assumption) (bs_lt64 _ (by assumption)) | exact and_lt (by assumption) (by assumption) | decide)) mk_J6_bitCount_0f7a4 st_J6_bitCount_0f7a4 ml_X1_35 dX1_mixes_6 (As := [.int (z &&& ap)]) (rest := []) rfl rfl (by decide) (by decide) (Nat.le_of_ble_eq_true rfl) (by decide) (by decide) [] rfl (by decide) (fun u => Nat.le_of_ble_eq_true rfl) (ws' := fun u => searchW cI a (seS T C li ap va le)) (fun u => rfl) (fun u hu => ?_)
  obtain ⟨r_1, rfl⟩ : ∃ z, z = u := ⟨_, rfl⟩
  have h2 : r_1 = (nI (bcS (s &&& aps))) := hu
  subst h2
  show Go E Q 2 0 0 9 [(0, .ref (a 0)), (1, .int z)] [.int (nI (bcS (s &&& aps)))] (searchW cI a (seS T C li ap va le))
  refine g_iconst hE dX1_mixes_9 1 (by decide) ?_
  refine g_icmp_le hE 17 dX1_mixes_10 (by decide) (fun c3 => ?_) (fun c3 => ?_)
  · refine g_iconst hE dX1_mixes_17 0 (by decide) ?_
    exact g_iret hE hQ dX1_mixes_18 (by first | rfl | decide) 0 rfl rfl (by first | exact (if_pos (mx_t hs haps (by assumption))).symm | exact (if_neg (mx_f hs haps (by assumption))).symm)
  · refine g_iconst hE dX1_mixes_13 1 (by decide) ?_
    refine g_goto hE 18 dX1_mixes_14 (by decide) ?_
    exact g_iret hE hQ dX1_mixes_18 (by first | rfl | decide) 1 rfl rfl (by first | exact (if_pos (mx_t hs haps (by assumption))).symm | exact (if_neg (mx_f hs haps (by assumption))).symm)
set_option maxHeartbeats 4000000 in
set_option maxRecDepth 100000 in
theorem c_X1_chosenAt (cI cS : ClassId) (a : Nat → Nat) (T C : Nat → Int32) (li ap va le : Int32) (i : Int32) : CT cI cS yX1_chosenAt cX1_chosenAt 2 (some .int) 1 [.ref (a 0), .int i] (searchW cI a (seS T C li ap va le)) 0 0 (fun u : Int32 => u = if i < le then atv C 4 i else -4) (fun u => some (.int u)) (fun u => (searchW cI a (seS T C li ap va le))) := by
  refine ct_intro (by decide) (Nat.le_of_ble_eq_true rfl) (fun E Q hE hQ hI => ?_)
  have hE : CxOk E cI cS RX1 cX1_chosenAt 2 (some .int) 1 0 0 := hE
  show Go E Q 2 0 0 0 [(0, .ref (a 0)), (1, .int i)] [] (searchW cI a (seS T C li ap va le))
  refine g_iload_n hE dX1_chosenAt_0 1 rfl ?_
  refine g_aload_n hE dX1_chosenAt_1 0 rfl ?_
  refine g_get hE fl_X1_18 dX1_chosenAt_2 0 rfl rfl ?_
  refine g_icmp_ge hE 19 dX1_chosenAt_5 (by decide) (fun c1 => ?_) (fun c1 => ?_)
  · refine g_bipush hE dX1_chosenAt_19 (-4) (by decide) ?_
    exact g_iret hE hQ dX1_chosenAt_21 rfl (-4) rfl rfl (by first | exact (if_pos (Int32.not_le.mp (by assumption))).symm | exact (if_neg (Int32.not_lt.mpr (by assumption))).symm)
  · refine g_aload_n hE dX1_chosenAt_8 0 rfl ?_
    refine g_get hE fl_X1_15 dX1_chosenAt_9 0 rfl rfl ?_
    refine g_iload_n hE dX1_chosenAt_12 1 rfl ?_
    refine g_callSN hE (c_X4_at cI cS (a 2) 4 C i (by decide)) mk_X4_at st_X4_at nl_X1_41 dX1_chosenAt_13 (As := [.ref (a 2), .int i]) (rest := []) rfl rfl (by decide) (by decide) (Nat.le_of_ble_eq_true rfl) (by decide) (by decide) [2] rfl (by decide) (fun u => Nat.le_of_ble_eq_true rfl) (ws' := fun u => searchW cI a (seS T C li ap va le)) (fun u => rfl) (fun u hu => ?_)
    obtain ⟨r_2, rfl⟩ : ∃ z, z = u := ⟨_, rfl⟩
    have h3 : r_2 = (atv C 4 i) := hu
    subst h3
    show Go E Q 2 0 0 16 [(0, .ref (a 0)), (1, .int i)] [.int (atv C 4 i)] (searchW cI a (seS T C li ap va le))
    refine g_goto hE 21 dX1_chosenAt_16 (by decide) ?_
    exact g_iret hE hQ dX1_chosenAt_21 rfl (atv C 4 i) rfl rfl (by first | exact (if_pos (Int32.not_le.mp (by assumption))).symm | exact (if_neg (Int32.not_lt.mpr (by assumption))).symm)
set_option maxHeartbeats 4000000 in
set_option maxRecDepth 100000 in
theorem c_X2_hasItems (cI cS : ClassId) (a : Nat → Nat) (T : Nat → Int32) (ln le : Int32) (i k : Int32) : CT cI cS yX2_hasItems cX2_hasItems 3 (some .boolean) 0 [.ref (a 0), .int i, .int k] (sheetW cI a (shT T ln le)) 0 0 (fun u : Int32 => u = if hasI le i k then 1 else 0) (fun u => some (.int u)) (fun u => (sheetW cI a (shT T ln le))) := by
  refine ct_intro (by decide) (Nat.le_of_ble_eq_true rfl) (fun E Q hE hQ hI => ?_)
  have hE : CxOk E cI cS RX2 cX2_hasItems 3 (some .boolean) 0 0 0 := hE
  show Go E Q 3 0 0 0 [(0, .ref (a 0)), (1, .int i), (2, .int k)] [] (sheetW cI a (shT T ln le))
  refine g_iload_n hE dX2_hasItems_0 1 rfl ?_
  refine g_if_lt hE 30 dX2_hasItems_1 (by decide) (fun c1 => ?_) (fun c1 => ?_)
  · refine g_iconst hE dX2_hasItems_30 0 (by decide) ?_
    exact g_iret hE hQ dX2_hasItems_31 (by first | rfl | decide) 0 rfl rfl (by first | exact (if_pos ⟨Int32.not_lt.mp (by assumption), Int32.not_lt.mp (by assumption), Int32.not_lt.mp (by assumption), Int32.not_lt.mp (by assumption)⟩).symm | exact (if_neg (fun q => absurd q.1 (Int32.not_le.mpr (by assumption)))).symm | exact (if_neg (fun q => absurd q.2.1 (Int32.not_le.mpr (by assumption)))).symm | exact (if_neg (fun q => absurd q.2.2.1 (Int32.not_le.mpr (by assumption)))).symm | exact (if_neg (fun q => absurd q.2.2.2 (Int32.not_le.mpr (by assumption)))).symm)
  · refine g_iload_n hE dX2_hasItems_4 1 rfl ?_
    refine g_aload_n hE dX2_hasItems_5 0 rfl ?_
    refine g_get hE fl_X2_25 dX2_hasItems_6 0 rfl rfl ?_
    refine g_icmp_gt hE 30 dX2_hasItems_9 (by decide) (fun c2 => ?_) (fun c2 => ?_)
    · refine g_iconst hE dX2_hasItems_30 0 (by decide) ?_
      exact g_iret hE hQ dX2_hasItems_31 (by first | rfl | decide) 0 rfl rfl (by first | exact (if_pos ⟨Int32.not_lt.mp (by assumption), Int32.not_lt.mp (by assumption), Int32.not_lt.mp (by assumption), Int32.not_lt.mp (by assumption)⟩).symm | exact (if_neg (fun q => absurd q.1 (Int32.not_le.mpr (by assumption)))).symm | exact (if_neg (fun q => absurd q.2.1 (Int32.not_le.mpr (by assumption)))).symm | exact (if_neg (fun q => absurd q.2.2.1 (Int32.not_le.mpr (by assumption)))).symm | exact (if_neg (fun q => absurd q.2.2.2 (Int32.not_le.mpr (by assumption)))).symm)
    · refine g_iload_n hE dX2_hasItems_12 2 rfl ?_
      refine g_if_lt hE 30 dX2_hasItems_13 (by decide) (fun c3 => ?_) (fun c3 => ?_)
      · refine g_iconst hE dX2_hasItems_30 0 (by decide) ?_
        exact g_iret hE hQ dX2_hasItems_31 (by first | rfl | decide) 0 rfl rfl (by first | exact (if_pos ⟨Int32.not_lt.mp (by assumption), Int32.not_lt.mp (by assumption), Int32.not_lt.mp (by assumption), Int32.not_lt.mp (by assumption)⟩).symm | exact (if_neg (fun q => absurd q.1 (Int32.not_le.mpr (by assumption)))).symm | exact (if_neg (fun q => absurd q.2.1 (Int32.not_le.mpr (by assumption)))).symm | exact (if_neg (fun q => absurd q.2.2.1 (Int32.not_le.mpr (by assumption)))).symm | exact (if_neg (fun q => absurd q.2.2.2 (Int32.not_le.mpr (by assumption)))).symm)
      · refine g_iload_n hE dX2_hasItems_16 2 rfl ?_
        refine g_aload_n hE dX2_hasItems_17 0 rfl ?_
        refine g_get hE fl_X2_25 dX2_hasItems_18 0 rfl rfl ?_
        refine g_iload_n hE dX2_hasItems_21 1 rfl ?_
        refine g_isub hE dX2_hasItems_22 ?_
        refine g_icmp_gt hE 30 dX2_hasItems_23 (by decide) (fun c4 => ?_) (fun c4 => ?_)
        · refine g_iconst hE dX2_hasItems_30 0 (by decide) ?_
          exact g_iret hE hQ dX2_hasItems_31 (by first | rfl | decide) 0 rfl rfl (by first | exact (if_pos ⟨Int32.not_lt.mp (by assumption), Int32.not_lt.mp (by assumption), Int32.not_lt.mp (by assumption), Int32.not_lt.mp (by assumption)⟩).symm | exact (if_neg (fun q => absurd q.1 (Int32.not_le.mpr (by assumption)))).symm | exact (if_neg (fun q => absurd q.2.1 (Int32.not_le.mpr (by assumption)))).symm | exact (if_neg (fun q => absurd q.2.2.1 (Int32.not_le.mpr (by assumption)))).symm | exact (if_neg (fun q => absurd q.2.2.2 (Int32.not_le.mpr (by assumption)))).symm)
        · refine g_iconst hE dX2_hasItems_26 1 (by decide) ?_
          refine g_goto hE 31 dX2_hasItems_27 (by decide) ?_
          exact g_iret hE hQ dX2_hasItems_31 (by first | rfl | decide) 1 rfl rfl (by first | exact (if_pos ⟨Int32.not_lt.mp (by assumption), Int32.not_lt.mp (by assumption), Int32.not_lt.mp (by assumption), Int32.not_lt.mp (by assumption)⟩).symm | exact (if_neg (fun q => absurd q.1 (Int32.not_le.mpr (by assumption)))).symm | exact (if_neg (fun q => absurd q.2.1 (Int32.not_le.mpr (by assumption)))).symm | exact (if_neg (fun q => absurd q.2.2.1 (Int32.not_le.mpr (by assumption)))).symm | exact (if_neg (fun q => absurd q.2.2.2 (Int32.not_le.mpr (by assumption)))).symm)
set_option maxHeartbeats 4000000 in
set_option maxRecDepth 100000 in
theorem c_X2_refusal (cI cS : ClassId) (a : Nat → Nat) (T : Nat → Int32) (ln le : Int32) (l i k : Int32) : CT cI cS yX2_refusal cX2_refusal 4 (some .int) 1 [.ref (a 0), .int l, .int i, .int k] (sheetW cI a (shT T ln le)) 0 0 (fun u : Int32 => u = refS ln le l i k) (fun u => some (.int u)) (fun u => (sheetW cI a (shT T ln le))) := by
  refine ct_intro (by decide) (Nat.le_of_ble_eq_true rfl) (fun E Q hE hQ hI => ?_)
  have hE : CxOk E cI cS RX2 cX2_refusal 4 (some .int) 1 0 0 := hE
  show Go E Q 4 0 0 0 [(0, .ref (a 0)), (1, .int l), (2, .int i), (3, .int k)] [] (sheetW cI a (shT T ln le))
  refine g_aload_n hE dX2_refusal_0 0 rfl ?_
  refine g_get hE fl_X2_15 dX2_refusal_1 0 rfl rfl ?_
  refine g_iconst hE dX2_refusal_4 (-1) (by decide) ?_
  refine g_icmp_ne hE 11 dX2_refusal_5 (by decide) (fun c1 => ?_) (fun c1 => ?_)
  · refine g_aload_n hE dX2_refusal_11 0 rfl ?_
    refine g_get hE fl_X2_15 dX2_refusal_12 0 rfl rfl ?_
    refine g_iload_n hE dX2_refusal_15 1 rfl ?_
    refine g_icmp_eq hE 22 dX2_refusal_16 (by decide) (fun c2 => ?_) (fun c2 => ?_)
    · refine g_aload_n hE dX2_refusal_22 0 rfl ?_
      refine g_iload_n hE dX2_refusal_23 2 rfl ?_
      refine g_iload_n hE dX2_refusal_24 3 rfl ?_
      refine g_callV hE (c_X2_hasItems cI cS a T ln le i k) mk_X2_hasItems mv_X2_hasItems ml_X2_28 dX2_refusal_25 (As := [.int i, .int k]) (rest := []) rfl rfl 0 rfl (show vwCl[2]? = some (RX2, TX2, 3) from rfl) (by decide) (by decide) (Nat.le_of_ble_eq_true rfl) (by decide) (by decide) [0, 1] rfl (by decide) (fun u => Nat.le_of_ble_eq_true rfl) (ws' := fun u => sheetW cI a (shT T ln le)) (fun u => rfl) (fun u hu => ?_)
      obtain ⟨r_3, rfl⟩ : ∃ z, z = u := ⟨_, rfl⟩
      have h4 : r_3 = if hasI le i k then 1 else 0 := hu
      by_cases c5 : hasI le i k
      · rw [if_pos c5] at h4
        subst h4
        show Go E Q 4 0 0 28 [(0, .ref (a 0)), (1, .int l), (2, .int i), (3, .int k)] [.int 1] (sheetW cI a (shT T ln le))
        refine g_if_eq hE 35 dX2_refusal_28 (by decide) (fun c6 => absurd c6 (by decide)) (fun c6 => ?_)
        refine g_iconst hE dX2_refusal_31 0 (by decide) ?_
        refine g_goto hE 37 dX2_refusal_32 (by decide) ?_
        exact g_iret hE hQ dX2_refusal_37 rfl 0 rfl rfl (by unfold refS; first | rw [if_pos (by assumption)] | rw [if_neg (c := ln = -1) (by assumption), if_neg (c := ln = l) (by assumption)] | rw [if_neg (c := ln = -1) (by assumption), if_pos (c := ln = l) (by assumption), if_pos (c := hasI le i k) (by assumption)] | rw [if_neg (c := ln = -1) (by assumption), if_pos (c := ln = l) (by assumption), if_neg (c := hasI le i k) (by assumption)])
      · rw [if_neg c5] at h4
        subst h4
        show Go E Q 4 0 0 28 [(0, .ref (a 0)), (1, .int l), (2, .int i), (3, .int k)] [.int 0] (sheetW cI a (shT T ln le))
        refine g_if_eq hE 35 dX2_refusal_28 (by decide) (fun c7 => ?_) (fun c7 => absurd (by decide) c7)
        refine g_bipush hE dX2_refusal_35 (-13) (by decide) ?_
        exact g_iret hE hQ dX2_refusal_37 rfl (-13) rfl rfl (by unfold refS; first | rw [if_pos (by assumption)] | rw [if_neg (c := ln = -1) (by assumption), if_neg (c := ln = l) (by assumption)] | rw [if_neg (c := ln = -1) (by assumption), if_pos (c := ln = l) (by assumption), if_pos (c := hasI le i k) (by assumption)] | rw [if_neg (c := ln = -1) (by assumption), if_pos (c := ln = l) (by assumption), if_neg (c := hasI le i k) (by assumption)])
    · refine g_bipush hE dX2_refusal_19 (-12) (by decide) ?_
      exact g_iret hE hQ dX2_refusal_21 rfl (-12) rfl rfl (by unfold refS; first | rw [if_pos (by assumption)] | rw [if_neg (c := ln = -1) (by assumption), if_neg (c := ln = l) (by assumption)] | rw [if_neg (c := ln = -1) (by assumption), if_pos (c := ln = l) (by assumption), if_pos (c := hasI le i k) (by assumption)] | rw [if_neg (c := ln = -1) (by assumption), if_pos (c := ln = l) (by assumption), if_neg (c := hasI le i k) (by assumption)])
  · refine g_bipush hE dX2_refusal_8 (-11) (by decide) ?_
    exact g_iret hE hQ dX2_refusal_10 rfl (-11) rfl rfl (by unfold refS; first | rw [if_pos (by assumption)] | rw [if_neg (c := ln = -1) (by assumption), if_neg (c := ln = l) (by assumption)] | rw [if_neg (c := ln = -1) (by assumption), if_pos (c := ln = l) (by assumption), if_pos (c := hasI le i k) (by assumption)] | rw [if_neg (c := ln = -1) (by assumption), if_pos (c := ln = l) (by assumption), if_neg (c := hasI le i k) (by assumption)])
set_option maxHeartbeats 4000000 in
set_option maxRecDepth 100000 in
theorem c_X2_write (cI cS : ClassId) (a : Nat → Nat) (T : Nat → Int32) (ln le : Int32) (i v : Int32) : CT cI cS yX2_write cX2_write 3 none 1 [.ref (a 0), .int i, .int v] (sheetW cI a (shT T ln le)) 0 0 (fun u : Unit => True) (fun u => none) (fun u => (sheetW cI a (shT (putv T 24 i (lnS ln v)) ln le))) := by
  refine ct_intro (by decide) (Nat.le_of_ble_eq_true rfl) (fun E Q hE hQ hI => ?_)
  have hE : CxOk E cI cS RX2 cX2_write 3 none 1 0 0 := hE
  show Go E Q 3 0 0 0 [(0, .ref (a 0)), (1, .int i), (2, .int v)] [] (sheetW cI a (shT T ln le))
  refine g_aload_n hE dX2_write_0 0 rfl ?_
  refine g_get hE fl_X2_9 dX2_write_1 0 rfl rfl ?_
  refine g_iload_n hE dX2_write_4 1 rfl ?_
  refine g_aload_n hE dX2_write_5 0 rfl ?_
  refine g_get hE fl_X2_15 dX2_write_6 0 rfl rfl ?_
  refine g_if_ne hE 17 dX2_write_9 (by decide) (fun c1 => ?_) (fun c1 => ?_)
  · refine g_aload_n hE dX2_write_17 0 rfl ?_
    refine g_get hE fl_X2_15 dX2_write_18 0 rfl rfl ?_
    refine g_iconst hE dX2_write_21 1 (by decide) ?_
    refine g_icmp_ne hE 30 dX2_write_22 (by decide) (fun c2 => ?_) (fun c2 => ?_)
    · refine g_iload_n hE dX2_write_30 2 rfl ?_
      refine g_callSN hE (c_X4_put cI cS (a 1) 24 T i v (by decide)) mk_X4_put st_X4_put nl_X2_32 dX2_write_31 (As := [.ref (a 1), .int i, .int v]) (rest := []) rfl rfl (by decide) (by decide) (Nat.le_of_ble_eq_true rfl) (by decide) (by decide) [1] rfl (by decide) (fun u => Nat.le_of_ble_eq_true rfl) (ws' := fun u => sheetW cI a (shT u ln le)) (fun u => rfl) (fun u hu => ?_)
      obtain ⟨f_3, rfl⟩ : ∃ z, z = u := ⟨_, rfl⟩
      have h4 : f_3 = putv T 24 i v := hu
      have h5 : f_3 = (putv T 24 i v) := h4
      subst h5
      show Go E Q 3 0 0 34 [(0, .ref (a 0)), (1, .int i), (2, .int v)] [] (sheetW cI a (shT (putv T 24 i v) ln le))
      refine g_world (sheetW cI a (shT (putv T 24 i (lnS ln v)) ln le)) (congrArg (fun z => sheetW cI a (shT (putv T 24 i z) ln le)) (by unfold lnS; first | rw [if_pos (c := ln = 0) (by assumption)] | rw [if_neg (c := ln = 0) (by assumption), if_pos (c := ln = 1) (by assumption)] | rw [if_neg (c := ln = 0) (by assumption), if_neg (c := ln = 1) (by assumption)])) ?_
      exact g_vret hE hQ dX2_write_34 () rfl rfl trivial
    · refine g_iload_n hE dX2_write_25 2 rfl ?_
      refine g_i2s hE dX2_write_26 ?_
      refine g_goto hE 31 dX2_write_27 (by decide) ?_
      refine g_callSN hE (c_X4_put cI cS (a 1) 24 T i (Int16.toInt32 (Int32.toInt16 v)) (by decide)) mk_X4_put st_X4_put nl_X2_32 dX2_write_31 (As := [.ref (a 1), .int i, .int (Int16.toInt32 (Int32.toInt16 v))]) (rest := []) rfl rfl (by decide) (by decide) (Nat.le_of_ble_eq_true rfl) (by decide) (by decide) [1] rfl (by decide) (fun u => Nat.le_of_ble_eq_true rfl) (ws' := fun u => sheetW cI a (shT u ln le)) (fun u => rfl) (fun u hu => ?_)
      obtain ⟨f_6, rfl⟩ : ∃ z, z = u := ⟨_, rfl⟩
      have h7 : f_6 = putv T 24 i (Int16.toInt32 (Int32.toInt16 v)) := hu
      have h8 : f_6 = (putv T 24 i (Int16.toInt32 (Int32.toInt16 v))) := h7
      subst h8
      show Go E Q 3 0 0 34 [(0, .ref (a 0)), (1, .int i), (2, .int v)] [] (sheetW cI a (shT (putv T 24 i (Int16.toInt32 (Int32.toInt16 v))) ln le))
      refine g_world (sheetW cI a (shT (putv T 24 i (lnS ln v)) ln le)) (congrArg (fun z => sheetW cI a (shT (putv T 24 i z) ln le)) (by unfold lnS; first | rw [if_pos (c := ln = 0) (by assumption)] | rw [if_neg (c := ln = 0) (by assumption), if_pos (c := ln = 1) (by assumption)] | rw [if_neg (c := ln = 0) (by assumption), if_neg (c := ln = 1) (by assumption)])) ?_
      exact g_vret hE hQ dX2_write_34 () rfl rfl trivial
  · refine g_iload_n hE dX2_write_12 2 rfl ?_
    refine g_i2b hE dX2_write_13 ?_
    refine g_goto hE 31 dX2_write_14 (by decide) ?_
    refine g_callSN hE (c_X4_put cI cS (a 1) 24 T i (Int8.toInt32 (Int32.toInt8 v)) (by decide)) mk_X4_put st_X4_put nl_X2_32 dX2_write_31 (As := [.ref (a 1), .int i, .int (Int8.toInt32 (Int32.toInt8 v))]) (rest := []) rfl rfl (by decide) (by decide) (Nat.le_of_ble_eq_true rfl) (by decide) (by decide) [1] rfl (by decide) (fun u => Nat.le_of_ble_eq_true rfl) (ws' := fun u => sheetW cI a (shT u ln le)) (fun u => rfl) (fun u hu => ?_)
    obtain ⟨f_9, rfl⟩ : ∃ z, z = u := ⟨_, rfl⟩
    have h10 : f_9 = putv T 24 i (Int8.toInt32 (Int32.toInt8 v)) := hu
    have h11 : f_9 = (putv T 24 i (Int8.toInt32 (Int32.toInt8 v))) := h10
    subst h11
    show Go E Q 3 0 0 34 [(0, .ref (a 0)), (1, .int i), (2, .int v)] [] (sheetW cI a (shT (putv T 24 i (Int8.toInt32 (Int32.toInt8 v))) ln le))
    refine g_world (sheetW cI a (shT (putv T 24 i (lnS ln v)) ln le)) (congrArg (fun z => sheetW cI a (shT (putv T 24 i z) ln le)) (by unfold lnS; first | rw [if_pos (c := ln = 0) (by assumption)] | rw [if_neg (c := ln = 0) (by assumption), if_pos (c := ln = 1) (by assumption)] | rw [if_neg (c := ln = 0) (by assumption), if_neg (c := ln = 1) (by assumption)])) ?_
    exact g_vret hE hQ dX2_write_34 () rfl rfl trivial
set_option maxHeartbeats 4000000 in
set_option maxRecDepth 100000 in
theorem c_X2_renew (cI cS : ClassId) (a : Nat → Nat) (T : Nat → Int32) (ln le : Int32) (l k : Int32) : CT cI cS yX2_renew cX2_renew 4 none 1 [.ref (a 0), .int l, .int k] (sheetW cI a (shT T ln le)) 0 0 (fun u : Unit => True) (fun u => none) (fun u => (sheetW cI a (shT (fun _ => 0) l (if 24 < k then 24 else k)))) := by
  refine ct_intro (by decide) (Nat.le_of_ble_eq_true rfl) (fun E Q hE hQ hI => ?_)
  have hE : CxOk E cI cS RX2 cX2_renew 4 none 1 0 0 := hE
  show Go E Q 4 0 0 0 [(0, .ref (a 0)), (1, .int l), (2, .int k)] [] (sheetW cI a (shT T ln le))
  refine g_aload_n hE dX2_renew_0 0 rfl ?_
  refine g_iload_n hE dX2_renew_1 1 rfl ?_
  refine g_put hE fl_X2_15 fp_2_1 dX2_renew_2 0 rfl rfl rfl (Nat.le_of_ble_eq_true rfl) (sheetW cI a (shT T l le)) (by rfl) ?_
  refine g_aload_n hE dX2_renew_5 0 rfl ?_
  refine g_iload_n hE dX2_renew_6 2 rfl ?_
  refine g_aload_n hE dX2_renew_7 0 rfl ?_
  refine g_get hE fl_X2_9 dX2_renew_8 0 rfl rfl ?_
  refine g_alen hE dX2_renew_11 1 24 rfl rfl ?_
  refine g_min hE (by decide) (by decide) (by decide) ml_X2_19 mi_st mi_in mi_co dX2_renew_12 (Nat.le_of_ble_eq_true rfl) ?_
  refine g_put hE fl_X2_25 fp_2_2 dX2_renew_15 0 rfl rfl rfl (Nat.le_of_ble_eq_true rfl) (sheetW cI a (shT T l (if 24 < k then 24 else k))) (by rfl) ?_
  refine g_iconst hE dX2_renew_18 0 (by decide) ?_
  refine g_istore_n hE dX2_renew_19 [(3, .int 0), (0, .ref (a 0)), (1, .int l), (2, .int k)] rfl (by decide) rfl ?_
  have L20 : ∀ (n_20 : Nat) (i : Nat) (h : Nat → Int32), (i ≤ 24) → (∀ j, j < i → h j = 0) → (24 - i < n_20) → Go E Q 4 0 0 20 [(0, .ref (a 0)), (1, .int l), (2, .int k), (3, .int (nI i))] [] (sheetW cI a (shT h l (if 24 < k then 24 else k))) := by
    intro n_20
    induction n_20 with
    | zero => intro i h hi hh hm_20; exact absurd hm_20 (Nat.not_lt_zero _)
    | succ n_20 ih_20 =>
      intro i h hi hh hm_20
      refine g_iload_n hE dX2_renew_20 3 rfl ?_
      refine g_aload_n hE dX2_renew_21 0 rfl ?_
      refine g_get hE fl_X2_9 dX2_renew_22 0 rfl rfl ?_
      refine g_alen hE dX2_renew_25 1 24 rfl rfl ?_
      refine g_icmp_ge hE 42 dX2_renew_26 (by decide) (fun c1 => ?_) (fun c1 => ?_)
      · have kc1 := nat_le_t (show 24 = nI 24 from rfl) (show (nI i) = nI i from rfl) (by omega) (by omega) c1
        refine g_arr_eq 1 (f := h) (g := fun _ => 0) rfl (fun j hj => hh j (by omega)) _ rfl ?_
        exact g_vret hE hQ dX2_renew_42 () rfl rfl trivial
      · have kc1 := nat_le_f (show 24 = nI 24 from rfl) (show (nI i) = nI i from rfl) (by omega) (by omega) c1
        refine g_aload_n hE dX2_renew_29 0 rfl ?_
        refine g_get hE fl_X2_9 dX2_renew_30 0 rfl rfl ?_
        refine g_iload_n hE dX2_renew_33 3 rfl ?_
        refine g_iconst hE dX2_renew_34 0 (by decide) ?_
        refine g_iast_n hE dX2_renew_35 1 rfl (show (nI i) = nI i from rfl) (by omega) (sheetW cI a (shT (upd h i 0) l (if 24 < k then 24 else k))) rfl ?_
        refine g_iinc hE dX2_renew_36 3 (nI (i + 1)) [(3, .int (nI (i + 1))), (0, .ref (a 0)), (1, .int l), (2, .int k)] rfl (nI_1 _) (by decide) rfl ?_
        refine g_goto hE 20 dX2_renew_39 (by decide) ?_
        refine g_locals [1, 2, 3, 0] [(0, .ref (a 0)), (1, .int l), (2, .int k), (3, .int (nI (i + 1)))] rfl ?_
        exact ih_20 (i + 1) (upd h i 0) (by first | assumption | omega) (upd_pre (f := fun _ => 0) hh rfl) (by omega)
  refine g_locals [1, 2, 3, 0] [(0, .ref (a 0)), (1, .int l), (2, .int k), (3, .int 0)] rfl ?_
  exact L20 _ 0 T (Nat.zero_le _) (fun j hj => absurd hj (Nat.not_lt_zero _)) (Nat.lt_succ_self _)
